set_option maxRecDepth 100000 in
set_option maxHeartbeats 4000000 in
theorem c_X9_reachesBy {l : Launch} {G : Gt} {p0 : Int32} {p1 : Int32} {p2 : Int32} {r : Int32} (hf : f_X9_reachesBy p0 p1 p2 = some r) : mFi l G yX9_reachesBy cX9_reachesBy 5 .int 0 [.int p0, .int p1, .int p2] ([] : va_W) r ([] : va_W) := by
  refine mFi.of (by decide +kernel) (Nat.le_of_ble_eq_true rfl) ?_
  intro p e s m below meth c A C hr hlk h ls hl
  obtain ⟨hx, hb, hml, hown, hts⟩ := id C
  replace hl : lv_has ls 5 [(0, .int p0), (1, .int p1), (2, .int p2)] := hl
  unfold f_X9_reachesBy at hf
  refine lv_bipush (v := (10 : Int32)) hx hb dX9_reachesBy_0 rfl ?_
  refine lv_iconst (v := (2 : Int32)) hx hb dX9_reachesBy_2 rfl ?_
  refine lv_iload_n hx hb dX9_reachesBy_3 rfl (lv_at hl 1 rfl) ?_
  refine lv_imul hx hb dX9_reachesBy_4 ?_
  refine lv_iadd hx hb dX9_reachesBy_5 ?_
  refine lv_topi (fun t1 et1 => ?_)
  replace hf := lt1_inv et1 hf
  refine lv_istore_n (lv' := [(3, .int t1), (0, .int p0), (1, .int p1), (2, .int p2)]) hx hb dX9_reachesBy_6 rfl hl (by decide) rfl (fun ls hl => ?_)
  refine lv_iload_n hx hb dX9_reachesBy_7 rfl (lv_at hl 0 rfl) ?_
  refine lv_iconst (v := (5 : Int32)) hx hb dX9_reachesBy_8 rfl ?_
  refine lv_iadd hx hb dX9_reachesBy_9 ?_
  refine lv_iconst (v := (3 : Int32)) hx hb dX9_reachesBy_10 rfl ?_
  refine lv_iload_n hx hb dX9_reachesBy_11 rfl (lv_at hl 3 rfl) ?_
  refine lv_imul hx hb dX9_reachesBy_12 ?_
  refine lv_isub hx hb dX9_reachesBy_13 ?_
  refine lv_topi (fun t2 et2 => ?_)
  replace hf := lt1_inv et2 hf
  refine lv_istore (lv' := [(4, .int t2), (3, .int t1), (0, .int p0), (1, .int p1), (2, .int p2)]) hx hb dX9_reachesBy_14 hl (by decide) rfl (fun ls hl => ?_)
  refine lv_iload_n hx hb dX9_reachesBy_16 rfl (lv_at hl 2 rfl) ?_
  by_cases c3 : p0 = (1 : Int32)
  · replace hf := ifp c3 hf
    refine r_tab (tgt := 52) C dX9_reachesBy_17 (1 : Int32) c3 (by decide) rfl rfl ?_
    refine lv_bipush (v := (20 : Int32)) hx hb dX9_reachesBy_52 rfl ?_
    cases hf
    exact r_iret C h hr hlk rfl dX9_reachesBy_54
  · replace hf := ifn c3 hf
    by_cases c4 : p0 = (2 : Int32)
    · replace hf := ifp c4 hf
      refine r_tab (tgt := 55) C dX9_reachesBy_17 (2 : Int32) c4 (by decide) rfl rfl ?_
      refine lv_iload_n hx hb dX9_reachesBy_55 rfl (lv_at hl 1 rfl) ?_
      refine lv_iconst (v := (5 : Int32)) hx hb dX9_reachesBy_56 rfl ?_
      refine lv_iadd hx hb dX9_reachesBy_57 ?_
      cases hf
      exact r_iret C h hr hlk rfl dX9_reachesBy_58
    · replace hf := ifn c4 hf
      by_cases c5 : p0 = (3 : Int32)
      · replace hf := ifp c5 hf
        refine r_tab (tgt := 59) C dX9_reachesBy_17 (3 : Int32) c5 (by decide) rfl rfl ?_
        refine lv_iload hx hb dX9_reachesBy_59 (lv_at hl 0 rfl) ?_
        refine lv_if_le (tgt := 69) hx hb dX9_reachesBy_61 rfl (fun c8 => ?_) (fun c8 => ?_)
        · replace hf := ifp c8 hf
          refine lv_iconst (v := (0 : Int32)) hx hb dX9_reachesBy_69 rfl ?_
          cases hf
          exact r_iret C h hr hlk rfl dX9_reachesBy_70
        · replace hf := ifn c8 hf
          refine lv_iload hx hb dX9_reachesBy_64 (lv_at hl 0 rfl) ?_
          refine lv_goto (tgt := 70) hx hb dX9_reachesBy_66 rfl ?_
          cases hf
          exact r_iret C h hr hlk rfl dX9_reachesBy_70
      · replace hf := ifn c5 hf
        by_cases c6 : p0 = (4 : Int32)
        · replace hf := ifp c6 hf
          refine r_tab (tgt := 71) C dX9_reachesBy_17 (4 : Int32) c6 (by decide) rfl rfl ?_
          refine lv_iload_n hx hb dX9_reachesBy_71 rfl (lv_at hl 1 rfl) ?_
          refine lv_iconst (v := (3 : Int32)) hx hb dX9_reachesBy_72 rfl ?_
          refine lv_iload_n hx hb dX9_reachesBy_73 rfl (lv_at hl 4 rfl) ?_
          refine lv_imul hx hb dX9_reachesBy_74 ?_
          refine lv_iadd hx hb dX9_reachesBy_75 ?_
          cases hf
          exact r_iret C h hr hlk rfl dX9_reachesBy_76
        · replace hf := ifn c6 hf
          by_cases c7 : p0 = (5 : Int32)
          · replace hf := ifp c7 hf
            refine r_tab (tgt := 77) C dX9_reachesBy_17 (5 : Int32) c7 (by decide) rfl rfl ?_
            refine lv_iload_n hx hb dX9_reachesBy_77 rfl (lv_at hl 1 rfl) ?_
            refine lv_iconst (v := (3 : Int32)) hx hb dX9_reachesBy_78 rfl ?_
            refine lv_iload_n hx hb dX9_reachesBy_79 rfl (lv_at hl 4 rfl) ?_
            refine lv_imul hx hb dX9_reachesBy_80 ?_
            refine lv_iadd hx hb dX9_reachesBy_81 ?_
            refine lv_iconst (v := (2 : Int32)) hx hb dX9_reachesBy_82 rfl ?_
            refine lv_idiv hx hb dX9_reachesBy_83 (by decide) ?_
            cases hf
            exact r_iret C h hr hlk rfl dX9_reachesBy_84
          · replace hf := ifn c7 hf
            refine r_tabD (tgt := 85) C dX9_reachesBy_17 [(1 : Int32), (2 : Int32), (3 : Int32), (4 : Int32), (5 : Int32)] (by decide) (nel_c c3 (nel_c c4 (nel_c c5 (nel_c c6 (nel_c c7 nel_0))))) rfl ?_
            refine lv_iload_n hx hb dX9_reachesBy_85 rfl (lv_at hl 1 rfl) ?_
            cases hf
            exact r_iret C h hr hlk rfl dX9_reachesBy_86
set_option maxRecDepth 100000 in
set_option maxHeartbeats 4000000 in
theorem c_X9_reachesWith {l : Launch} {G : Gt} {h_this h_this_s h_this_kept h_this_laid h_this_pile h_this_tape h_this_letters h_this_code0 h_this_read h_this_saved h_this_plan h_this_bestPlan h_this_offThen h_this_paidThen h_this_rows h_this_sorts h_this_sizes h_this_number h_this_holds h_this_heldOne h_this_trace : Nat} {p0 : Int32} {p1 : Int32} {x_this_isKept : Int32} {x_this_taped : Int32} {x_this_at : Int32} {x_this_begun : Int32} {x_this_token : Int32} {x_this_value : Int32} {x_this_opened : Int32} {x_this_steps : Int32} {x_this_most : Int32} {x_this_many : Int32} {x_this_few : Int32} {x_this_everHome : Int32} {x_this_firstFit : Int32} {x_this_rowMany : Int32} {x_this_traced : Int32} {x_this_own : Int32} {x_this_isParted : Int32} {f_this_s : Nat → Int32} {r : Int32} (hf : f_X9_reachesWith p0 p1 f_this_s = some r) : mFi l G yX9_reachesWith cX9_reachesWith 3 .int 1 [.ref h_this, .int p0, .int p1] [(h_this, ob 9 [.ref h_this_s, .ref h_this_kept, .ref h_this_laid, .int x_this_isKept, .ref h_this_pile, .ref h_this_tape, .int x_this_taped, .ref h_this_letters, .int x_this_at, .int x_this_begun, .int x_this_token, .int x_this_value, .int x_this_opened, .int x_this_steps, .ref h_this_code0, .ref h_this_read, .ref h_this_saved, .ref h_this_plan, .ref h_this_bestPlan, .int x_this_most, .int x_this_many, .int x_this_few, .int x_this_everHome, .ref h_this_offThen, .ref h_this_paidThen, .int x_this_firstFit, .ref h_this_rows, .int x_this_rowMany, .ref h_this_sorts, .ref h_this_sizes, .ref h_this_number, .ref h_this_holds, .ref h_this_heldOne, .ref h_this_trace, .int x_this_traced, .int x_this_own, .int x_this_isParted]), (h_this_s, ia G 313 f_this_s)] r [(h_this, ob 9 [.ref h_this_s, .ref h_this_kept, .ref h_this_laid, .int x_this_isKept, .ref h_this_pile, .ref h_this_tape, .int x_this_taped, .ref h_this_letters, .int x_this_at, .int x_this_begun, .int x_this_token, .int x_this_value, .int x_this_opened, .int x_this_steps, .ref h_this_code0, .ref h_this_read, .ref h_this_saved, .ref h_this_plan, .ref h_this_bestPlan, .int x_this_most, .int x_this_many, .int x_this_few, .int x_this_everHome, .ref h_this_offThen, .ref h_this_paidThen, .int x_this_firstFit, .ref h_this_rows, .int x_this_rowMany, .ref h_this_sorts, .ref h_this_sizes, .ref h_this_number, .ref h_this_holds, .ref h_this_heldOne, .ref h_this_trace, .int x_this_traced, .int x_this_own, .int x_this_isParted]), (h_this_s, ia G 313 f_this_s)] := by
  refine mFi.of (by decide +kernel) (Nat.le_of_ble_eq_true rfl) ?_
  intro p e s m below meth c A C hr hlk h ls hl
  obtain ⟨hx, hb, hml, hown, hts⟩ := id C
  replace hl : lv_has ls 3 [(0, .ref h_this), (1, .int p0), (2, .int p1)] := hl
  unfold f_X9_reachesWith at hf
  refine lv_aload_n hx hb dX9_reachesWith_0 rfl (lv_at hl 0 rfl) ?_
  refine lv_iload_n hx hb dX9_reachesWith_1 rfl (lv_at hl 1 rfl) ?_
  refine lv_iconst (v := (0 : Int32)) hx hb dX9_reachesWith_2 rfl ?_
  replace hf := bd1_inv hf
  obtain ⟨r1, hc2, hf⟩ := hf
  refine r_ciV0 C h (c_X9_get hc2) mv_X9_79 rfl 0 rfl [0, 1] rfl rfl hl.1 rfl (Nat.le_of_ble_eq_true rfl) (rok (by decide)) dX9_reachesWith_3 (fun H locs h => ?_)
  refine lv_iload_n hx hb dX9_reachesWith_6 rfl (lv_at hl 2 rfl) ?_
  refine lv_aload_n hx hb dX9_reachesWith_7 rfl (lv_at hl 0 rfl) ?_
  replace hf := bd1_inv hf
  obtain ⟨r3, hc4, hf⟩ := hf
  refine r_ciV0 C h (c_X9_lightNow hc4) mv_X9_83 rfl 0 rfl [0, 1] rfl rfl hl.1 rfl (Nat.le_of_ble_eq_true rfl) (rok (by decide)) dX9_reachesWith_8 (fun H locs h => ?_)
  refine lv_iconst (v := (4 : Int32)) hx hb dX9_reachesWith_11 rfl ?_
  refine lv_idiv hx hb dX9_reachesWith_12 (by decide) ?_
  replace hf := bd1_inv hf
  obtain ⟨r5, hc6, hf⟩ := hf
  refine r_ciS0 C h (c_X9_reachesBy hc6) ms_X9_91 rfl [] rfl rfl hl.1 rfl (Nat.le_of_ble_eq_true rfl) (rok (by decide)) dX9_reachesWith_13 (fun H locs h => ?_)
  refine lv_aload_n hx hb dX9_reachesWith_16 rfl (lv_at hl 0 rfl) ?_
  refine r_get C h fk_X9_9 0 rfl rfl dX9_reachesWith_17 ?_
  refine lv_bipush (v := (29 : Int32)) hx hb dX9_reachesWith_20 rfl ?_
  refine lv_aload_n hx hb dX9_reachesWith_22 rfl (lv_at hl 0 rfl) ?_
  refine lv_iload_n hx hb dX9_reachesWith_23 rfl (lv_at hl 1 rfl) ?_
  refine lv_iconst (v := (3 : Int32)) hx hb dX9_reachesWith_24 rfl ?_
  replace hf := bd1_inv hf
  obtain ⟨r7, hc8, hf⟩ := hf
  refine r_ciV0 C h (c_X9_get hc8) mv_X9_79 rfl 0 rfl [0, 1] rfl rfl hl.1 rfl (Nat.le_of_ble_eq_true rfl) (rok (by decide)) dX9_reachesWith_25 (fun H locs h => ?_)
  refine lv_iadd hx hb dX9_reachesWith_28 ?_
  replace hf := chkI_inv hf
  obtain ⟨hi9, hf⟩ := hf
  refine r_iald C h 1 rfl hi9 dX9_reachesWith_29 ?_
  refine lv_iadd hx hb dX9_reachesWith_30 ?_
  cases hf
  exact r_iret C h hr hlk rfl dX9_reachesWith_31
set_option maxRecDepth 100000 in
set_option maxHeartbeats 4000000 in
theorem c_X9_isReachedWith {l : Launch} {G : Gt} {h_this h_this_s h_this_kept h_this_laid h_this_pile h_this_tape h_this_letters h_this_code0 h_this_read h_this_saved h_this_plan h_this_bestPlan h_this_offThen h_this_paidThen h_this_rows h_this_sorts h_this_sizes h_this_number h_this_holds h_this_heldOne h_this_trace : Nat} {p0 : Int32} {p1 : Int32} {x_this_isKept : Int32} {x_this_taped : Int32} {x_this_at : Int32} {x_this_begun : Int32} {x_this_token : Int32} {x_this_value : Int32} {x_this_opened : Int32} {x_this_steps : Int32} {x_this_most : Int32} {x_this_many : Int32} {x_this_few : Int32} {x_this_everHome : Int32} {x_this_firstFit : Int32} {x_this_rowMany : Int32} {x_this_traced : Int32} {x_this_own : Int32} {x_this_isParted : Int32} {f_this_s : Nat → Int32} {r : Int32} (hf : f_X9_isReachedWith p0 p1 f_this_s = some r) : mFi l G yX9_isReachedWith cX9_isReachedWith 3 .boolean 2 [.ref h_this, .int p0, .int p1] [(h_this, ob 9 [.ref h_this_s, .ref h_this_kept, .ref h_this_laid, .int x_this_isKept, .ref h_this_pile, .ref h_this_tape, .int x_this_taped, .ref h_this_letters, .int x_this_at, .int x_this_begun, .int x_this_token, .int x_this_value, .int x_this_opened, .int x_this_steps, .ref h_this_code0, .ref h_this_read, .ref h_this_saved, .ref h_this_plan, .ref h_this_bestPlan, .int x_this_most, .int x_this_many, .int x_this_few, .int x_this_everHome, .ref h_this_offThen, .ref h_this_paidThen, .int x_this_firstFit, .ref h_this_rows, .int x_this_rowMany, .ref h_this_sorts, .ref h_this_sizes, .ref h_this_number, .ref h_this_holds, .ref h_this_heldOne, .ref h_this_trace, .int x_this_traced, .int x_this_own, .int x_this_isParted]), (h_this_s, ia G 313 f_this_s)] r [(h_this, ob 9 [.ref h_this_s, .ref h_this_kept, .ref h_this_laid, .int x_this_isKept, .ref h_this_pile, .ref h_this_tape, .int x_this_taped, .ref h_this_letters, .int x_this_at, .int x_this_begun, .int x_this_token, .int x_this_value, .int x_this_opened, .int x_this_steps, .ref h_this_code0, .ref h_this_read, .ref h_this_saved, .ref h_this_plan, .ref h_this_bestPlan, .int x_this_most, .int x_this_many, .int x_this_few, .int x_this_everHome, .ref h_this_offThen, .ref h_this_paidThen, .int x_this_firstFit, .ref h_this_rows, .int x_this_rowMany, .ref h_this_sorts, .ref h_this_sizes, .ref h_this_number, .ref h_this_holds, .ref h_this_heldOne, .ref h_this_trace, .int x_this_traced, .int x_this_own, .int x_this_isParted]), (h_this_s, ia G 313 f_this_s)] := by
  refine mFi.of (by decide +kernel) (Nat.le_of_ble_eq_true rfl) ?_
  intro p e s m below meth c A C hr hlk h ls hl
  obtain ⟨hx, hb, hml, hown, hts⟩ := id C
  replace hl : lv_has ls 3 [(0, .ref h_this), (1, .int p0), (2, .int p1)] := hl
  unfold f_X9_isReachedWith at hf
  refine lv_aload_n hx hb dX9_isReachedWith_0 rfl (lv_at hl 0 rfl) ?_
  refine lv_iload_n hx hb dX9_isReachedWith_1 rfl (lv_at hl 1 rfl) ?_
  refine lv_iconst (v := (4 : Int32)) hx hb dX9_isReachedWith_2 rfl ?_
  replace hf := bd1_inv hf
  obtain ⟨r1, hc2, hf⟩ := hf
  refine r_ciV0 C h (c_X9_get hc2) mv_X9_79 rfl 0 rfl [0, 1] rfl rfl hl.1 rfl (Nat.le_of_ble_eq_true rfl) (rok (by decide)) dX9_isReachedWith_3 (fun H locs h => ?_)
  refine lv_if_ne (tgt := 37) hx hb dX9_isReachedWith_6 rfl (fun c3 => ?_) (fun c3 => ?_)
  · replace hf := ifn c3 hf
    refine lv_iconst (v := (0 : Int32)) hx hb dX9_isReachedWith_37 rfl ?_
    cases hf
    exact r_iret C h hr hlk rfl dX9_isReachedWith_38
  · replace hf := ifp c3 hf
    refine lv_aload_n hx hb dX9_isReachedWith_9 rfl (lv_at hl 0 rfl) ?_
    refine lv_iload_n hx hb dX9_isReachedWith_10 rfl (lv_at hl 1 rfl) ?_
    refine lv_iconst (v := (1 : Int32)) hx hb dX9_isReachedWith_11 rfl ?_
    replace hf := bd1_inv hf
    obtain ⟨r4, hc5, hf⟩ := hf
    refine r_ciV0 C h (c_X9_get hc5) mv_X9_79 rfl 0 rfl [0, 1] rfl rfl hl.1 rfl (Nat.le_of_ble_eq_true rfl) (rok (by decide)) dX9_isReachedWith_12 (fun H locs h => ?_)
    refine lv_if_le (tgt := 37) hx hb dX9_isReachedWith_15 rfl (fun c6 => ?_) (fun c6 => ?_)
    · replace hf := ifp c6 hf
      refine lv_iconst (v := (0 : Int32)) hx hb dX9_isReachedWith_37 rfl ?_
      cases hf
      exact r_iret C h hr hlk rfl dX9_isReachedWith_38
    · replace hf := ifn c6 hf
      refine lv_aload_n hx hb dX9_isReachedWith_18 rfl (lv_at hl 0 rfl) ?_
      refine lv_iload_n hx hb dX9_isReachedWith_19 rfl (lv_at hl 1 rfl) ?_
      refine lv_iconst (v := (1 : Int32)) hx hb dX9_isReachedWith_20 rfl ?_
      replace hf := bd1_inv hf
      obtain ⟨r7, hc8, hf⟩ := hf
      refine r_ciV0 C h (c_X9_get hc8) mv_X9_79 rfl 0 rfl [0, 1] rfl rfl hl.1 rfl (Nat.le_of_ble_eq_true rfl) (rok (by decide)) dX9_isReachedWith_21 (fun H locs h => ?_)
      refine lv_aload_n hx hb dX9_isReachedWith_24 rfl (lv_at hl 0 rfl) ?_
      refine lv_iload_n hx hb dX9_isReachedWith_25 rfl (lv_at hl 1 rfl) ?_
      refine lv_iload_n hx hb dX9_isReachedWith_26 rfl (lv_at hl 2 rfl) ?_
      replace hf := bd1_inv hf
      obtain ⟨r9, hc10, hf⟩ := hf
      refine r_ciV0 C h (c_X9_reachesWith hc10) mv_X9_95 rfl 0 rfl [0, 1] rfl rfl hl.1 rfl (Nat.le_of_ble_eq_true rfl) (rok (by decide)) dX9_isReachedWith_27 (fun H locs h => ?_)
      refine lv_icmp_gt (tgt := 37) hx hb dX9_isReachedWith_30 rfl (fun c11 => ?_) (fun c11 => ?_)
      · replace hf := ifp c11 hf
        refine lv_iconst (v := (0 : Int32)) hx hb dX9_isReachedWith_37 rfl ?_
        cases hf
        exact r_iret C h hr hlk rfl dX9_isReachedWith_38
      · replace hf := ifn c11 hf
        refine lv_iconst (v := (1 : Int32)) hx hb dX9_isReachedWith_33 rfl ?_
        refine lv_goto (tgt := 38) hx hb dX9_isReachedWith_34 rfl ?_
        cases hf
        exact r_iret C h hr hlk rfl dX9_isReachedWith_38
set_option maxRecDepth 100000 in
set_option maxHeartbeats 4000000 in
theorem c_X9_paysOf {l : Launch} {G : Gt} {h_this h_this_s h_this_kept h_this_laid h_this_pile h_this_tape h_this_letters h_this_code0 h_this_read h_this_saved h_this_plan h_this_bestPlan h_this_offThen h_this_paidThen h_this_rows h_this_sorts h_this_sizes h_this_number h_this_holds h_this_heldOne h_this_trace : Nat} {p0 : Int32} {x_this_isKept : Int32} {x_this_taped : Int32} {x_this_at : Int32} {x_this_begun : Int32} {x_this_token : Int32} {x_this_value : Int32} {x_this_opened : Int32} {x_this_steps : Int32} {x_this_most : Int32} {x_this_many : Int32} {x_this_few : Int32} {x_this_everHome : Int32} {x_this_firstFit : Int32} {x_this_rowMany : Int32} {x_this_traced : Int32} {x_this_own : Int32} {x_this_isParted : Int32} {f_this_s : Nat → Int32} {r : Int32} (hf : f_X9_paysOf p0 f_this_s = some r) : mFi l G yX9_paysOf cX9_paysOf 2 .int 3 [.ref h_this, .int p0] [(h_this, ob 9 [.ref h_this_s, .ref h_this_kept, .ref h_this_laid, .int x_this_isKept, .ref h_this_pile, .ref h_this_tape, .int x_this_taped, .ref h_this_letters, .int x_this_at, .int x_this_begun, .int x_this_token, .int x_this_value, .int x_this_opened, .int x_this_steps, .ref h_this_code0, .ref h_this_read, .ref h_this_saved, .ref h_this_plan, .ref h_this_bestPlan, .int x_this_most, .int x_this_many, .int x_this_few, .int x_this_everHome, .ref h_this_offThen, .ref h_this_paidThen, .int x_this_firstFit, .ref h_this_rows, .int x_this_rowMany, .ref h_this_sorts, .ref h_this_sizes, .ref h_this_number, .ref h_this_holds, .ref h_this_heldOne, .ref h_this_trace, .int x_this_traced, .int x_this_own, .int x_this_isParted]), (h_this_s, ia G 313 f_this_s)] r [(h_this, ob 9 [.ref h_this_s, .ref h_this_kept, .ref h_this_laid, .int x_this_isKept, .ref h_this_pile, .ref h_this_tape, .int x_this_taped, .ref h_this_letters, .int x_this_at, .int x_this_begun, .int x_this_token, .int x_this_value, .int x_this_opened, .int x_this_steps, .ref h_this_code0, .ref h_this_read, .ref h_this_saved, .ref h_this_plan, .ref h_this_bestPlan, .int x_this_most, .int x_this_many, .int x_this_few, .int x_this_everHome, .ref h_this_offThen, .ref h_this_paidThen, .int x_this_firstFit, .ref h_this_rows, .int x_this_rowMany, .ref h_this_sorts, .ref h_this_sizes, .ref h_this_number, .ref h_this_holds, .ref h_this_heldOne, .ref h_this_trace, .int x_this_traced, .int x_this_own, .int x_this_isParted]), (h_this_s, ia G 313 f_this_s)] := by
  refine mFi.of (by decide +kernel) (Nat.le_of_ble_eq_true rfl) ?_
  intro p e s m below meth c A C hr hlk h ls hl
  obtain ⟨hx, hb, hml, hown, hts⟩ := id C
  replace hl : lv_has ls 2 [(0, .ref h_this), (1, .int p0)] := hl
  unfold f_X9_paysOf at hf
  refine lv_aload_n hx hb dX9_paysOf_0 rfl (lv_at hl 0 rfl) ?_
  refine lv_iload_n hx hb dX9_paysOf_1 rfl (lv_at hl 1 rfl) ?_
  refine lv_aload_n hx hb dX9_paysOf_2 rfl (lv_at hl 0 rfl) ?_
  refine lv_iload_n hx hb dX9_paysOf_3 rfl (lv_at hl 1 rfl) ?_
  refine lv_iconst (v := (2 : Int32)) hx hb dX9_paysOf_4 rfl ?_
  replace hf := bd1_inv hf
  obtain ⟨r1, hc2, hf⟩ := hf
  refine r_ciV0 C h (c_X9_get hc2) mv_X9_79 rfl 0 rfl [0, 1] rfl rfl hl.1 rfl (Nat.le_of_ble_eq_true rfl) (rok (by decide)) dX9_paysOf_5 (fun H locs h => ?_)
  replace hf := bd1_inv hf
  obtain ⟨r3, hc4, hf⟩ := hf
  refine r_ciV0 C h (c_X9_isReachedWith hc4) mv_X9_98 rfl 0 rfl [0, 1] rfl rfl hl.1 rfl (Nat.le_of_ble_eq_true rfl) (rok (by decide)) dX9_paysOf_8 (fun H locs h => ?_)
  refine lv_if_eq (tgt := 26) hx hb dX9_paysOf_11 rfl (fun c5 => ?_) (fun c5 => ?_)
  · replace hf := ifp c5 hf
    refine lv_iconst (v := (0 : Int32)) hx hb dX9_paysOf_26 rfl ?_
    cases hf
    exact r_iret C h hr hlk rfl dX9_paysOf_27
  · replace hf := ifn c5 hf
    refine lv_bipush (v := (6 : Int32)) hx hb dX9_paysOf_14 rfl ?_
    refine lv_aload_n hx hb dX9_paysOf_16 rfl (lv_at hl 0 rfl) ?_
    refine lv_iload_n hx hb dX9_paysOf_17 rfl (lv_at hl 1 rfl) ?_
    refine lv_iconst (v := (2 : Int32)) hx hb dX9_paysOf_18 rfl ?_
    replace hf := bd1_inv hf
    obtain ⟨r6, hc7, hf⟩ := hf
    refine r_ciV0 C h (c_X9_get hc7) mv_X9_79 rfl 0 rfl [0, 1] rfl rfl hl.1 rfl (Nat.le_of_ble_eq_true rfl) (rok (by decide)) dX9_paysOf_19 (fun H locs h => ?_)
    refine lv_iadd hx hb dX9_paysOf_22 ?_
    refine lv_goto (tgt := 27) hx hb dX9_paysOf_23 rfl ?_
    cases hf
    exact r_iret C h hr hlk rfl dX9_paysOf_27
set_option maxRecDepth 100000 in
set_option maxHeartbeats 4000000 in
theorem c_X9_ruleOf {l : Launch} {G : Gt} {h_this h_this_s h_this_kept h_this_laid h_this_pile h_this_tape h_this_letters h_this_code0 h_this_read h_this_saved h_this_plan h_this_bestPlan h_this_offThen h_this_paidThen h_this_rows h_this_sorts h_this_sizes h_this_number h_this_holds h_this_heldOne h_this_trace : Nat} {p0 : Int32} {p1 : Int32} {x_this_isKept : Int32} {x_this_taped : Int32} {x_this_at : Int32} {x_this_begun : Int32} {x_this_token : Int32} {x_this_value : Int32} {x_this_opened : Int32} {x_this_steps : Int32} {x_this_most : Int32} {x_this_many : Int32} {x_this_few : Int32} {x_this_everHome : Int32} {x_this_firstFit : Int32} {x_this_rowMany : Int32} {x_this_traced : Int32} {x_this_own : Int32} {x_this_isParted : Int32} {f_this_s : Nat → Int32} {r : Int32} (hf : f_X9_ruleOf p0 p1 f_this_s = some r) : mFi l G yX9_ruleOf cX9_ruleOf 3 .int 0 [.ref h_this, .int p0, .int p1] [(h_this, ob 9 [.ref h_this_s, .ref h_this_kept, .ref h_this_laid, .int x_this_isKept, .ref h_this_pile, .ref h_this_tape, .int x_this_taped, .ref h_this_letters, .int x_this_at, .int x_this_begun, .int x_this_token, .int x_this_value, .int x_this_opened, .int x_this_steps, .ref h_this_code0, .ref h_this_read, .ref h_this_saved, .ref h_this_plan, .ref h_this_bestPlan, .int x_this_most, .int x_this_many, .int x_this_few, .int x_this_everHome, .ref h_this_offThen, .ref h_this_paidThen, .int x_this_firstFit, .ref h_this_rows, .int x_this_rowMany, .ref h_this_sorts, .ref h_this_sizes, .ref h_this_number, .ref h_this_holds, .ref h_this_heldOne, .ref h_this_trace, .int x_this_traced, .int x_this_own, .int x_this_isParted]), (h_this_s, ia G 313 f_this_s)] r [(h_this, ob 9 [.ref h_this_s, .ref h_this_kept, .ref h_this_laid, .int x_this_isKept, .ref h_this_pile, .ref h_this_tape, .int x_this_taped, .ref h_this_letters, .int x_this_at, .int x_this_begun, .int x_this_token, .int x_this_value, .int x_this_opened, .int x_this_steps, .ref h_this_code0, .ref h_this_read, .ref h_this_saved, .ref h_this_plan, .ref h_this_bestPlan, .int x_this_most, .int x_this_many, .int x_this_few, .int x_this_everHome, .ref h_this_offThen, .ref h_this_paidThen, .int x_this_firstFit, .ref h_this_rows, .int x_this_rowMany, .ref h_this_sorts, .ref h_this_sizes, .ref h_this_number, .ref h_this_holds, .ref h_this_heldOne, .ref h_this_trace, .int x_this_traced, .int x_this_own, .int x_this_isParted]), (h_this_s, ia G 313 f_this_s)] := by
  refine mFi.of (by decide +kernel) (Nat.le_of_ble_eq_true rfl) ?_
  intro p e s m below meth c A C hr hlk h ls hl
  obtain ⟨hx, hb, hml, hown, hts⟩ := id C
  replace hl : lv_has ls 3 [(0, .ref h_this), (1, .int p0), (2, .int p1)] := hl
  unfold f_X9_ruleOf at hf
  refine lv_aload_n hx hb dX9_ruleOf_0 rfl (lv_at hl 0 rfl) ?_
  refine r_get C h fk_X9_9 0 rfl rfl dX9_ruleOf_1 ?_
  refine lv_bipush (v := (89 : Int32)) hx hb dX9_ruleOf_4 rfl ?_
  refine lv_iconst (v := (3 : Int32)) hx hb dX9_ruleOf_6 rfl ?_
  refine lv_iload_n hx hb dX9_ruleOf_7 rfl (lv_at hl 1 rfl) ?_
  refine lv_imul hx hb dX9_ruleOf_8 ?_
  refine lv_iadd hx hb dX9_ruleOf_9 ?_
  refine lv_iload_n hx hb dX9_ruleOf_10 rfl (lv_at hl 2 rfl) ?_
  refine lv_iadd hx hb dX9_ruleOf_11 ?_
  replace hf := chkI_inv hf
  obtain ⟨hi1, hf⟩ := hf
  refine r_iald C h 1 rfl hi1 dX9_ruleOf_12 ?_
  cases hf
  exact r_iret C h hr hlk rfl dX9_ruleOf_13
set_option maxRecDepth 100000 in
set_option maxHeartbeats 4000000 in
theorem c_X9_above {l : Launch} {G : Gt} {p0 : Int32} {r : Int32} (hf : f_X9_above p0 = some r) : mFi l G yX9_above cX9_above 1 .int 0 [.int p0] ([] : va_W) r ([] : va_W) := by
  refine mFi.of (by decide +kernel) (Nat.le_of_ble_eq_true rfl) ?_
  intro p e s m below meth c A C hr hlk h ls hl
  obtain ⟨hx, hb, hml, hown, hts⟩ := id C
  replace hl : lv_has ls 1 [(0, .int p0)] := hl
  unfold f_X9_above at hf
  refine lv_iload_n hx hb dX9_above_0 rfl (lv_at hl 0 rfl) ?_
  refine lv_iconst (v := (3 : Int32)) hx hb dX9_above_1 rfl ?_
  refine lv_icmp_ne (tgt := 9) hx hb dX9_above_2 rfl (fun c1 => ?_) (fun c1 => ?_)
  · replace hf := ifn c1 hf
    refine lv_iload_n hx hb dX9_above_9 rfl (lv_at hl 0 rfl) ?_
    refine lv_iconst (v := (5 : Int32)) hx hb dX9_above_10 rfl ?_
    refine lv_icmp_ne (tgt := 18) hx hb dX9_above_11 rfl (fun c2 => ?_) (fun c2 => ?_)
    · replace hf := ifn c2 hf
      refine lv_iconst (v := (0 : Int32)) hx hb dX9_above_18 rfl ?_
      cases hf
      exact r_iret C h hr hlk rfl dX9_above_19
    · replace hf := ifp c2 hf
      refine lv_iconst (v := (4 : Int32)) hx hb dX9_above_14 rfl ?_
      refine lv_goto (tgt := 19) hx hb dX9_above_15 rfl ?_
      cases hf
      exact r_iret C h hr hlk rfl dX9_above_19
  · replace hf := ifp c1 hf
    refine lv_iconst (v := (2 : Int32)) hx hb dX9_above_5 rfl ?_
    refine lv_goto (tgt := 19) hx hb dX9_above_6 rfl ?_
    cases hf
    exact r_iret C h hr hlk rfl dX9_above_19
set_option maxRecDepth 100000 in
set_option maxHeartbeats 4000000 in
theorem c_X9_isUnder {l : Launch} {G : Gt} {p0 : Int32} {p1 : Int32} {r : Int32} (hf : f_X9_isUnder p0 p1 = some r) : mFi l G yX9_isUnder cX9_isUnder 3 .boolean 1 [.int p0, .int p1] ([] : va_W) r ([] : va_W) := by
  refine mFi.of (by decide +kernel) (Nat.le_of_ble_eq_true rfl) ?_
  intro p e s m below meth c A C hr hlk h ls hl
  obtain ⟨hx, hb, hml, hown, hts⟩ := id C
  replace hl : lv_has ls 3 [(0, .int p0), (1, .int p1)] := hl
  unfold f_X9_isUnder at hf
  refine with_K G A 3 (fun K hK1 hK2 => ?_)
  have L2 : ∀ (n : Nat) (v2 : Int32), f_X9_isUnder_L2 p1 n v2 = some r → K 2 ([] : List Value) ([] : va_W) [(1, .int p1), (2, .int v2)] := by
    intro n
    induction n with
    | zero =>
      intro v2 hf
      replace hf : (none : Option _) = some _ := hf
      cases hf
    | succ n ih =>
      intro v2 hf
      rw [f_X9_isUnder_L2] at hf
      refine hK1 _ _ _ _ (fun H locs ls h hl => ?_)
      refine lv_iload_n hx hb dX9_isUnder_2 rfl (lv_at hl 1 rfl) ?_
      refine lv_iload_n hx hb dX9_isUnder_3 rfl (lv_at hl 0 rfl) ?_
      refine lv_icmp_eq (tgt := 19) hx hb dX9_isUnder_4 rfl (fun c1 => ?_) (fun c1 => ?_)
      · replace hf := ifp c1 hf
        refine lv_iload_n hx hb dX9_isUnder_19 rfl (lv_at hl 1 rfl) ?_
        refine lv_iload_n hx hb dX9_isUnder_20 rfl (lv_at hl 0 rfl) ?_
        refine lv_icmp_ne (tgt := 28) hx hb dX9_isUnder_21 rfl (fun c2 => ?_) (fun c2 => ?_)
        · replace hf := ifn c2 hf
          refine lv_iconst (v := (0 : Int32)) hx hb dX9_isUnder_28 rfl ?_
          cases hf
          exact r_iret C h hr hlk rfl dX9_isUnder_29
        · replace hf := ifp c2 hf
          refine lv_iconst (v := (1 : Int32)) hx hb dX9_isUnder_24 rfl ?_
          refine lv_goto (tgt := 29) hx hb dX9_isUnder_25 rfl ?_
          cases hf
          exact r_iret C h hr hlk rfl dX9_isUnder_29
      · replace hf := ifn c1 hf
        refine lv_iload_n hx hb dX9_isUnder_7 rfl (lv_at hl 1 rfl) ?_
        refine lv_if_eq (tgt := 19) hx hb dX9_isUnder_8 rfl (fun c3 => ?_) (fun c3 => ?_)
        · replace hf := ifp c3 hf
          refine lv_iload_n hx hb dX9_isUnder_19 rfl (lv_at hl 1 rfl) ?_
          refine lv_iload_n hx hb dX9_isUnder_20 rfl (lv_at hl 0 rfl) ?_
          refine lv_icmp_ne (tgt := 28) hx hb dX9_isUnder_21 rfl (fun c4 => ?_) (fun c4 => ?_)
          · replace hf := ifn c4 hf
            refine lv_iconst (v := (0 : Int32)) hx hb dX9_isUnder_28 rfl ?_
            cases hf
            exact r_iret C h hr hlk rfl dX9_isUnder_29
          · replace hf := ifp c4 hf
            refine lv_iconst (v := (1 : Int32)) hx hb dX9_isUnder_24 rfl ?_
            refine lv_goto (tgt := 29) hx hb dX9_isUnder_25 rfl ?_
            cases hf
            exact r_iret C h hr hlk rfl dX9_isUnder_29
        · replace hf := ifn c3 hf
          refine lv_iload_n hx hb dX9_isUnder_11 rfl (lv_at hl 1 rfl) ?_
          replace hf := bd1_inv hf
          obtain ⟨r5, hc6, hf⟩ := hf
          refine r_ciS0 C h (c_X9_above hc6) ms_X9_75 rfl [] rfl rfl hl.1 rfl (Nat.le_of_ble_eq_true rfl) (rok (by decide)) dX9_isUnder_12 (fun H locs h => ?_)
          refine lv_istore_n (lv' := [(2, .int r5), (1, .int p1)]) hx hb dX9_isUnder_15 rfl hl (by decide) rfl (fun ls hl => ?_)
          refine lv_goto (tgt := 2) hx hb dX9_isUnder_16 rfl ?_
          exact hK2 _ _ _ _ (ih r5 hf) _ _ _ h (lv_sub hl [1, 0] rfl)
  refine lv_iload_n hx hb dX9_isUnder_0 rfl (lv_at hl 0 rfl) ?_
  refine lv_istore_n (lv' := [(2, .int p0), (0, .int p0), (1, .int p1)]) hx hb dX9_isUnder_1 rfl hl (by decide) rfl (fun ls hl => ?_)
  exact hK2 _ _ _ _ (L2 1000 p0 hf) _ _ _ h (lv_sub hl [2, 0] rfl)
set_option maxRecDepth 100000 in
set_option maxHeartbeats 4000000 in
theorem c_X9_knownOf {l : Launch} {G : Gt} {h_this h_this_s h_this_kept h_this_laid h_this_pile h_this_tape h_this_letters h_this_code0 h_this_read h_this_saved h_this_plan h_this_bestPlan h_this_offThen h_this_paidThen h_this_rows h_this_sorts h_this_sizes h_this_number h_this_holds h_this_heldOne h_this_trace : Nat} {p0 : Int32} {p1 : Int32} {x_this_isKept : Int32} {x_this_taped : Int32} {x_this_at : Int32} {x_this_begun : Int32} {x_this_token : Int32} {x_this_value : Int32} {x_this_opened : Int32} {x_this_steps : Int32} {x_this_most : Int32} {x_this_many : Int32} {x_this_few : Int32} {x_this_everHome : Int32} {x_this_firstFit : Int32} {x_this_rowMany : Int32} {x_this_traced : Int32} {x_this_own : Int32} {x_this_isParted : Int32} {f_this_s : Nat → Int32} {r : Int32} (hf : f_X9_knownOf p0 p1 f_this_s = some r) : mFi l G yX9_knownOf cX9_knownOf 3 .int 1 [.ref h_this, .int p0, .int p1] [(h_this, ob 9 [.ref h_this_s, .ref h_this_kept, .ref h_this_laid, .int x_this_isKept, .ref h_this_pile, .ref h_this_tape, .int x_this_taped, .ref h_this_letters, .int x_this_at, .int x_this_begun, .int x_this_token, .int x_this_value, .int x_this_opened, .int x_this_steps, .ref h_this_code0, .ref h_this_read, .ref h_this_saved, .ref h_this_plan, .ref h_this_bestPlan, .int x_this_most, .int x_this_many, .int x_this_few, .int x_this_everHome, .ref h_this_offThen, .ref h_this_paidThen, .int x_this_firstFit, .ref h_this_rows, .int x_this_rowMany, .ref h_this_sorts, .ref h_this_sizes, .ref h_this_number, .ref h_this_holds, .ref h_this_heldOne, .ref h_this_trace, .int x_this_traced, .int x_this_own, .int x_this_isParted]), (h_this_s, ia G 313 f_this_s)] r [(h_this, ob 9 [.ref h_this_s, .ref h_this_kept, .ref h_this_laid, .int x_this_isKept, .ref h_this_pile, .ref h_this_tape, .int x_this_taped, .ref h_this_letters, .int x_this_at, .int x_this_begun, .int x_this_token, .int x_this_value, .int x_this_opened, .int x_this_steps, .ref h_this_code0, .ref h_this_read, .ref h_this_saved, .ref h_this_plan, .ref h_this_bestPlan, .int x_this_most, .int x_this_many, .int x_this_few, .int x_this_everHome, .ref h_this_offThen, .ref h_this_paidThen, .int x_this_firstFit, .ref h_this_rows, .int x_this_rowMany, .ref h_this_sorts, .ref h_this_sizes, .ref h_this_number, .ref h_this_holds, .ref h_this_heldOne, .ref h_this_trace, .int x_this_traced, .int x_this_own, .int x_this_isParted]), (h_this_s, ia G 313 f_this_s)] := by
  refine mFi.of (by decide +kernel) (Nat.le_of_ble_eq_true rfl) ?_
  intro p e s m below meth c A C hr hlk h ls hl
  obtain ⟨hx, hb, hml, hown, hts⟩ := id C
  replace hl : lv_has ls 3 [(0, .ref h_this), (1, .int p0), (2, .int p1)] := hl
  unfold f_X9_knownOf at hf
  refine lv_iload_n hx hb dX9_knownOf_0 rfl (lv_at hl 1 rfl) ?_
  refine lv_if_ne (tgt := 13) hx hb dX9_knownOf_1 rfl (fun c1 => ?_) (fun c1 => ?_)
  · replace hf := ifn c1 hf
    refine lv_iload_n hx hb dX9_knownOf_13 rfl (lv_at hl 1 rfl) ?_
    refine lv_iconst (v := (1 : Int32)) hx hb dX9_knownOf_14 rfl ?_
    refine lv_icmp_ne (tgt := 27) hx hb dX9_knownOf_15 rfl (fun c2 => ?_) (fun c2 => ?_)
    · replace hf := ifn c2 hf
      refine lv_iload_n hx hb dX9_knownOf_27 rfl (lv_at hl 1 rfl) ?_
      refine lv_iconst (v := (2 : Int32)) hx hb dX9_knownOf_28 rfl ?_
      refine lv_icmp_ne (tgt := 41) hx hb dX9_knownOf_29 rfl (fun c3 => ?_) (fun c3 => ?_)
      · replace hf := ifn c3 hf
        refine lv_iload_n hx hb dX9_knownOf_41 rfl (lv_at hl 1 rfl) ?_
        refine lv_iconst (v := (3 : Int32)) hx hb dX9_knownOf_42 rfl ?_
        refine lv_icmp_ne (tgt := 55) hx hb dX9_knownOf_43 rfl (fun c4 => ?_) (fun c4 => ?_)
        · replace hf := ifn c4 hf
          refine lv_iload_n hx hb dX9_knownOf_55 rfl (lv_at hl 2 rfl) ?_
          cases hf
          exact r_iret C h hr hlk rfl dX9_knownOf_56
        · replace hf := ifp c4 hf
          refine lv_aload_n hx hb dX9_knownOf_46 rfl (lv_at hl 0 rfl) ?_
          replace hf := bd1_inv hf
          obtain ⟨r5, hc6, hf⟩ := hf
          refine r_ciV0 C h (c_X9_lightNow hc6) mv_X9_83 rfl 0 rfl [0, 1] rfl rfl hl.1 rfl (Nat.le_of_ble_eq_true rfl) (rok (by decide)) dX9_knownOf_47 (fun H locs h => ?_)
          refine lv_iconst (v := (4 : Int32)) hx hb dX9_knownOf_50 rfl ?_
          refine lv_idiv hx hb dX9_knownOf_51 (by decide) ?_
          refine lv_goto (tgt := 56) hx hb dX9_knownOf_52 rfl ?_
          cases hf
          exact r_iret C h hr hlk rfl dX9_knownOf_56
      · replace hf := ifp c3 hf
        refine lv_aload_n hx hb dX9_knownOf_32 rfl (lv_at hl 0 rfl) ?_
        refine lv_iload_n hx hb dX9_knownOf_33 rfl (lv_at hl 2 rfl) ?_
        refine lv_iconst (v := (2 : Int32)) hx hb dX9_knownOf_34 rfl ?_
        replace hf := bd1_inv hf
        obtain ⟨r7, hc8, hf⟩ := hf
        refine r_ciV0 C h (c_X9_get hc8) mv_X9_79 rfl 0 rfl [0, 1] rfl rfl hl.1 rfl (Nat.le_of_ble_eq_true rfl) (rok (by decide)) dX9_knownOf_35 (fun H locs h => ?_)
        refine lv_goto (tgt := 56) hx hb dX9_knownOf_38 rfl ?_
        cases hf
        exact r_iret C h hr hlk rfl dX9_knownOf_56
    · replace hf := ifp c2 hf
      refine lv_aload_n hx hb dX9_knownOf_18 rfl (lv_at hl 0 rfl) ?_
      refine lv_iload_n hx hb dX9_knownOf_19 rfl (lv_at hl 2 rfl) ?_
      refine lv_iconst (v := (1 : Int32)) hx hb dX9_knownOf_20 rfl ?_
      replace hf := bd1_inv hf
      obtain ⟨r9, hc10, hf⟩ := hf
      refine r_ciV0 C h (c_X9_get hc10) mv_X9_79 rfl 0 rfl [0, 1] rfl rfl hl.1 rfl (Nat.le_of_ble_eq_true rfl) (rok (by decide)) dX9_knownOf_21 (fun H locs h => ?_)
      refine lv_goto (tgt := 56) hx hb dX9_knownOf_24 rfl ?_
      cases hf
      exact r_iret C h hr hlk rfl dX9_knownOf_56
  · replace hf := ifp c1 hf
    refine lv_aload_n hx hb dX9_knownOf_4 rfl (lv_at hl 0 rfl) ?_
    refine r_get C h fk_X9_9 0 rfl rfl dX9_knownOf_5 ?_
    refine lv_iconst (v := (0 : Int32)) hx hb dX9_knownOf_8 rfl ?_
    refine r_ialdL C h 1 rfl (vlit rfl) 0 rfl dX9_knownOf_9 ?_
    refine lv_goto (tgt := 56) hx hb dX9_knownOf_10 rfl ?_
    cases hf
    exact r_iret C h hr hlk rfl dX9_knownOf_56
set_option maxRecDepth 100000 in
set_option maxHeartbeats 4000000 in
theorem c_X9_joined {l : Launch} {G : Gt} {p0 : Int32} {p1 : Int32} {p2 : Int32} {r : Int32} (hf : f_X9_joined p0 p1 p2 = some r) : mFi l G yX9_joined cX9_joined 3 .int 0 [.int p0, .int p1, .int p2] ([] : va_W) r ([] : va_W) := by
  refine mFi.of (by decide +kernel) (Nat.le_of_ble_eq_true rfl) ?_
  intro p e s m below meth c A C hr hlk h ls hl
  obtain ⟨hx, hb, hml, hown, hts⟩ := id C
  replace hl : lv_has ls 3 [(0, .int p0), (1, .int p1), (2, .int p2)] := hl
  unfold f_X9_joined at hf
  refine lv_iload_n hx hb dX9_joined_0 rfl (lv_at hl 0 rfl) ?_
  by_cases c1 : p0 = (10010 : Int32)
  · replace hf := ifp c1 hf
    refine r_tab (tgt := 32) C dX9_joined_1 (10010 : Int32) c1 (by decide) rfl rfl ?_
    refine lv_iload_n hx hb dX9_joined_32 rfl (lv_at hl 1 rfl) ?_
    refine lv_iload_n hx hb dX9_joined_33 rfl (lv_at hl 2 rfl) ?_
    refine lv_icmp_ge (tgt := 41) hx hb dX9_joined_34 rfl (fun c5 => ?_) (fun c5 => ?_)
    · replace hf := ifp c5 hf
      refine lv_iconst (v := (0 : Int32)) hx hb dX9_joined_41 rfl ?_
      cases hf
      exact r_iret C h hr hlk rfl dX9_joined_42
    · replace hf := ifn c5 hf
      refine lv_iconst (v := (1 : Int32)) hx hb dX9_joined_37 rfl ?_
      refine lv_goto (tgt := 42) hx hb dX9_joined_38 rfl ?_
      cases hf
      exact r_iret C h hr hlk rfl dX9_joined_42
  · replace hf := ifn c1 hf
    by_cases c2 : p0 = (10011 : Int32)
    · replace hf := ifp c2 hf
      refine r_tab (tgt := 43) C dX9_joined_1 (10011 : Int32) c2 (by decide) rfl rfl ?_
      refine lv_iload_n hx hb dX9_joined_43 rfl (lv_at hl 1 rfl) ?_
      refine lv_iload_n hx hb dX9_joined_44 rfl (lv_at hl 2 rfl) ?_
      refine lv_icmp_ne (tgt := 52) hx hb dX9_joined_45 rfl (fun c6 => ?_) (fun c6 => ?_)
      · replace hf := ifn c6 hf
        refine lv_iconst (v := (0 : Int32)) hx hb dX9_joined_52 rfl ?_
        cases hf
        exact r_iret C h hr hlk rfl dX9_joined_53
      · replace hf := ifp c6 hf
        refine lv_iconst (v := (1 : Int32)) hx hb dX9_joined_48 rfl ?_
        refine lv_goto (tgt := 53) hx hb dX9_joined_49 rfl ?_
        cases hf
        exact r_iret C h hr hlk rfl dX9_joined_53
    · replace hf := ifn c2 hf
      by_cases c3 : p0 = (10012 : Int32)
      · replace hf := ifp c3 hf
        refine r_tab (tgt := 54) C dX9_joined_1 (10012 : Int32) c3 (by decide) rfl rfl ?_
        refine lv_iload_n hx hb dX9_joined_54 rfl (lv_at hl 1 rfl) ?_
        refine lv_iload_n hx hb dX9_joined_55 rfl (lv_at hl 2 rfl) ?_
        refine lv_icmp_le (tgt := 63) hx hb dX9_joined_56 rfl (fun c7 => ?_) (fun c7 => ?_)
        · replace hf := ifp c7 hf
          refine lv_iconst (v := (0 : Int32)) hx hb dX9_joined_63 rfl ?_
          cases hf
          exact r_iret C h hr hlk rfl dX9_joined_64
        · replace hf := ifn c7 hf
          refine lv_iconst (v := (1 : Int32)) hx hb dX9_joined_59 rfl ?_
          refine lv_goto (tgt := 64) hx hb dX9_joined_60 rfl ?_
          cases hf
          exact r_iret C h hr hlk rfl dX9_joined_64
      · replace hf := ifn c3 hf
        by_cases c4 : p0 = (10013 : Int32)
        · replace hf := ifp c4 hf
          refine r_tab (tgt := 65) C dX9_joined_1 (10013 : Int32) c4 (by decide) rfl rfl ?_
          refine lv_iload_n hx hb dX9_joined_65 rfl (lv_at hl 1 rfl) ?_
          refine lv_if_eq (tgt := 77) hx hb dX9_joined_66 rfl (fun c8 => ?_) (fun c8 => ?_)
          · replace hf := ifp c8 hf
            refine lv_iconst (v := (0 : Int32)) hx hb dX9_joined_77 rfl ?_
            cases hf
            exact r_iret C h hr hlk rfl dX9_joined_78
          · replace hf := ifn c8 hf
            refine lv_iload_n hx hb dX9_joined_69 rfl (lv_at hl 2 rfl) ?_
            refine lv_if_eq (tgt := 77) hx hb dX9_joined_70 rfl (fun c9 => ?_) (fun c9 => ?_)
            · replace hf := ifp c9 hf
              refine lv_iconst (v := (0 : Int32)) hx hb dX9_joined_77 rfl ?_
              cases hf
              exact r_iret C h hr hlk rfl dX9_joined_78
            · replace hf := ifn c9 hf
              refine lv_iconst (v := (1 : Int32)) hx hb dX9_joined_73 rfl ?_
              refine lv_goto (tgt := 78) hx hb dX9_joined_74 rfl ?_
              cases hf
              exact r_iret C h hr hlk rfl dX9_joined_78
        · replace hf := ifn c4 hf
          refine r_tabD (tgt := 79) C dX9_joined_1 [(10010 : Int32), (10011 : Int32), (10012 : Int32), (10013 : Int32)] (by decide) (nel_c c1 (nel_c c2 (nel_c c3 (nel_c c4 nel_0)))) rfl ?_
          refine lv_iload_n hx hb dX9_joined_79 rfl (lv_at hl 1 rfl) ?_
          refine lv_if_ne (tgt := 87) hx hb dX9_joined_80 rfl (fun c10 => ?_) (fun c10 => ?_)
          · replace hf := ifn c10 hf
            refine lv_iconst (v := (1 : Int32)) hx hb dX9_joined_87 rfl ?_
            refine lv_goto (tgt := 92) hx hb dX9_joined_88 rfl ?_
            cases hf
            exact r_iret C h hr hlk rfl dX9_joined_92
          · replace hf := ifp c10 hf
            refine lv_iload_n hx hb dX9_joined_83 rfl (lv_at hl 2 rfl) ?_
            refine lv_if_eq (tgt := 91) hx hb dX9_joined_84 rfl (fun c11 => ?_) (fun c11 => ?_)
            · replace hf := ifp c11 hf
              refine lv_iconst (v := (0 : Int32)) hx hb dX9_joined_91 rfl ?_
              cases hf
              exact r_iret C h hr hlk rfl dX9_joined_92
            · replace hf := ifn c11 hf
              refine lv_iconst (v := (1 : Int32)) hx hb dX9_joined_87 rfl ?_
              refine lv_goto (tgt := 92) hx hb dX9_joined_88 rfl ?_
              cases hf
              exact r_iret C h hr hlk rfl dX9_joined_92
set_option maxRecDepth 100000 in
set_option maxHeartbeats 4000000 in
theorem c_X9_holdsFor {l : Launch} {G : Gt} {h_this h_this_s h_this_kept h_this_laid h_this_pile h_this_tape h_this_letters h_this_code0 h_this_read h_this_saved h_this_plan h_this_bestPlan h_this_offThen h_this_paidThen h_this_rows h_this_sorts h_this_sizes h_this_number h_this_holds h_this_heldOne h_this_trace : Nat} {p0 : Int32} {p1 : Int32} {x_this_isKept : Int32} {x_this_taped : Int32} {x_this_at : Int32} {x_this_begun : Int32} {x_this_token : Int32} {x_this_value : Int32} {x_this_opened : Int32} {x_this_steps : Int32} {x_this_most : Int32} {x_this_many : Int32} {x_this_few : Int32} {x_this_everHome : Int32} {x_this_firstFit : Int32} {x_this_rowMany : Int32} {x_this_traced : Int32} {x_this_own : Int32} {x_this_isParted : Int32} {f_this_pile : Nat → Int32} {f_this_s : Nat → Int32} {r : Int32} {m_this_pile : Nat → Int32} (hf : f_X9_holdsFor p0 p1 f_this_pile f_this_s = some (r, m_this_pile)) : mFi l G yX9_holdsFor cX9_holdsFor 6 .boolean 2 [.ref h_this, .int p0, .int p1] [(h_this, ob 9 [.ref h_this_s, .ref h_this_kept, .ref h_this_laid, .int x_this_isKept, .ref h_this_pile, .ref h_this_tape, .int x_this_taped, .ref h_this_letters, .int x_this_at, .int x_this_begun, .int x_this_token, .int x_this_value, .int x_this_opened, .int x_this_steps, .ref h_this_code0, .ref h_this_read, .ref h_this_saved, .ref h_this_plan, .ref h_this_bestPlan, .int x_this_most, .int x_this_many, .int x_this_few, .int x_this_everHome, .ref h_this_offThen, .ref h_this_paidThen, .int x_this_firstFit, .ref h_this_rows, .int x_this_rowMany, .ref h_this_sorts, .ref h_this_sizes, .ref h_this_number, .ref h_this_holds, .ref h_this_heldOne, .ref h_this_trace, .int x_this_traced, .int x_this_own, .int x_this_isParted]), (h_this_pile, ia G 200 f_this_pile), (h_this_s, ia G 313 f_this_s)] r [(h_this, ob 9 [.ref h_this_s, .ref h_this_kept, .ref h_this_laid, .int x_this_isKept, .ref h_this_pile, .ref h_this_tape, .int x_this_taped, .ref h_this_letters, .int x_this_at, .int x_this_begun, .int x_this_token, .int x_this_value, .int x_this_opened, .int x_this_steps, .ref h_this_code0, .ref h_this_read, .ref h_this_saved, .ref h_this_plan, .ref h_this_bestPlan, .int x_this_most, .int x_this_many, .int x_this_few, .int x_this_everHome, .ref h_this_offThen, .ref h_this_paidThen, .int x_this_firstFit, .ref h_this_rows, .int x_this_rowMany, .ref h_this_sorts, .ref h_this_sizes, .ref h_this_number, .ref h_this_holds, .ref h_this_heldOne, .ref h_this_trace, .int x_this_traced, .int x_this_own, .int x_this_isParted]), (h_this_pile, ia G 200 m_this_pile), (h_this_s, ia G 313 f_this_s)] := by
  refine mFi.of (by decide +kernel) (Nat.le_of_ble_eq_true rfl) ?_
  intro p e s m below meth c A C hr hlk h ls hl
  obtain ⟨hx, hb, hml, hown, hts⟩ := id C
  replace hl : lv_has ls 6 [(0, .ref h_this), (1, .int p0), (2, .int p1)] := hl
  unfold f_X9_holdsFor at hf
  refine with_K G A 6 (fun K hK1 hK2 => ?_)
  have B152 : ∀ (v3 : Int32) (g_this_pile : Nat → Int32), f_X9_holdsFor_b152 v3 g_this_pile = some (r, m_this_pile) → K 152 ([] : List Value) [(h_this, ob 9 [.ref h_this_s, .ref h_this_kept, .ref h_this_laid, .int x_this_isKept, .ref h_this_pile, .ref h_this_tape, .int x_this_taped, .ref h_this_letters, .int x_this_at, .int x_this_begun, .int x_this_token, .int x_this_value, .int x_this_opened, .int x_this_steps, .ref h_this_code0, .ref h_this_read, .ref h_this_saved, .ref h_this_plan, .ref h_this_bestPlan, .int x_this_most, .int x_this_many, .int x_this_few, .int x_this_everHome, .ref h_this_offThen, .ref h_this_paidThen, .int x_this_firstFit, .ref h_this_rows, .int x_this_rowMany, .ref h_this_sorts, .ref h_this_sizes, .ref h_this_number, .ref h_this_holds, .ref h_this_heldOne, .ref h_this_trace, .int x_this_traced, .int x_this_own, .int x_this_isParted]), (h_this_pile, ia G 200 g_this_pile), (h_this_s, ia G 313 f_this_s)] [(0, .ref h_this), (3, .int v3)] := by
    intro v3 g_this_pile hf
    unfold f_X9_holdsFor_b152 at hf
    refine hK1 _ _ _ _ (fun H locs ls h hl => ?_)
    refine lv_iload_n hx hb dX9_holdsFor_152 rfl (lv_at hl 1 rfl) ?_
    refine lv_if_eq (tgt := 165) hx hb dX9_holdsFor_153 rfl (fun c7 => ?_) (fun c7 => ?_)
    · replace hf := ifp c7 hf
      refine lv_iconst (v := (1 : Int32)) hx hb dX9_holdsFor_165 rfl ?_
      refine lv_goto (tgt := 170) hx hb dX9_holdsFor_166 rfl ?_
      cases hf
      exact r_iret C h hr hlk rfl dX9_holdsFor_170
    · replace hf := ifn c7 hf
      refine lv_aload_n hx hb dX9_holdsFor_156 rfl (lv_at hl 0 rfl) ?_
      refine r_get C h fk_X9_19 0 rfl rfl dX9_holdsFor_157 ?_
      refine lv_iconst (v := (0 : Int32)) hx hb dX9_holdsFor_160 rfl ?_
      refine r_ialdL C h 1 rfl (vlit rfl) 0 rfl dX9_holdsFor_161 ?_
      refine lv_if_eq (tgt := 169) hx hb dX9_holdsFor_162 rfl (fun c8 => ?_) (fun c8 => ?_)
      · replace hf := ifp c8 hf
        refine lv_iconst (v := (0 : Int32)) hx hb dX9_holdsFor_169 rfl ?_
        cases hf
        exact r_iret C h hr hlk rfl dX9_holdsFor_170
      · replace hf := ifn c8 hf
        refine lv_iconst (v := (1 : Int32)) hx hb dX9_holdsFor_165 rfl ?_
        refine lv_goto (tgt := 170) hx hb dX9_holdsFor_166 rfl ?_
        cases hf
        exact r_iret C h hr hlk rfl dX9_holdsFor_170
  have L20 : ∀ (n : Nat) (v3 : Int32) (v4 : Int32) (g_this_pile : Nat → Int32), f_X9_holdsFor_L20 p0 p1 f_this_s n v3 v4 g_this_pile = some (r, m_this_pile) → K 20 ([] : List Value) [(h_this, ob 9 [.ref h_this_s, .ref h_this_kept, .ref h_this_laid, .int x_this_isKept, .ref h_this_pile, .ref h_this_tape, .int x_this_taped, .ref h_this_letters, .int x_this_at, .int x_this_begun, .int x_this_token, .int x_this_value, .int x_this_opened, .int x_this_steps, .ref h_this_code0, .ref h_this_read, .ref h_this_saved, .ref h_this_plan, .ref h_this_bestPlan, .int x_this_most, .int x_this_many, .int x_this_few, .int x_this_everHome, .ref h_this_offThen, .ref h_this_paidThen, .int x_this_firstFit, .ref h_this_rows, .int x_this_rowMany, .ref h_this_sorts, .ref h_this_sizes, .ref h_this_number, .ref h_this_holds, .ref h_this_heldOne, .ref h_this_trace, .int x_this_traced, .int x_this_own, .int x_this_isParted]), (h_this_pile, ia G 200 g_this_pile), (h_this_s, ia G 313 f_this_s)] [(0, .ref h_this), (1, .int p0), (2, .int p1), (3, .int v3), (4, .int v4)] := by
    intro n
    induction n with
    | zero =>
      intro v3 v4 g_this_pile hf
      replace hf : (none : Option _) = some _ := hf
      cases hf
    | succ n ih =>
      intro v3 v4 g_this_pile hf
      rw [f_X9_holdsFor_L20] at hf
      refine hK1 _ _ _ _ (fun H locs ls h hl => ?_)
      refine lv_iload hx hb dX9_holdsFor_20 (lv_at hl 4 rfl) ?_
      refine lv_aload_n hx hb dX9_holdsFor_22 rfl (lv_at hl 0 rfl) ?_
      refine lv_iload_n hx hb dX9_holdsFor_23 rfl (lv_at hl 1 rfl) ?_
      refine lv_iconst (v := (2 : Int32)) hx hb dX9_holdsFor_24 rfl ?_
      replace hf := bd1_inv hf
      obtain ⟨r4, hc5, hf⟩ := hf
      refine r_ciV0 C h (c_X9_ruleOf hc5) mv_X9_112 rfl 0 rfl [0, 2] rfl rfl hl.1 rfl (Nat.le_of_ble_eq_true rfl) (rok (by decide)) dX9_holdsFor_25 (fun H locs h => ?_)
      refine lv_icmp_ge (tgt := 152) hx hb dX9_holdsFor_28 rfl (fun c6 => ?_) (fun c6 => ?_)
      · replace hf := ifp c6 hf
        exact hK2 _ _ _ _ (B152 v3 g_this_pile hf) _ _ _ h (lv_sub hl [0, 3] rfl)
      · replace hf := ifn c6 hf
        refine lv_aload_n hx hb dX9_holdsFor_31 rfl (lv_at hl 0 rfl) ?_
        refine r_get C h fk_X9_9 0 rfl rfl dX9_holdsFor_32 ?_
        refine lv_bipush (v := (113 : Int32)) hx hb dX9_holdsFor_35 rfl ?_
        refine lv_iload hx hb dX9_holdsFor_37 (lv_at hl 4 rfl) ?_
        refine lv_iadd hx hb dX9_holdsFor_39 ?_
        replace hf := chkI_inv hf
        obtain ⟨hi9, hf⟩ := hf
        refine r_iald C h 2 rfl hi9 dX9_holdsFor_40 ?_
        refine lv_topi (fun t10 et10 => ?_)
        replace hf := lt1_inv et10 hf
        refine lv_istore (lv' := [(5, .int t10), (0, .ref h_this), (1, .int p0), (2, .int p1), (3, .int v3), (4, .int v4)]) hx hb dX9_holdsFor_41 hl (by decide) rfl (fun ls hl => ?_)
        refine lv_iload hx hb dX9_holdsFor_43 (lv_at hl 0 rfl) ?_
        refine lv_sipush (v := (10010 : Int32)) hx hb dX9_holdsFor_45 rfl ?_
        refine lv_icmp_ge (tgt := 87) hx hb dX9_holdsFor_48 rfl (fun c11 => ?_) (fun c11 => ?_)
        · replace hf := ifp c11 hf
          refine lv_iload hx hb dX9_holdsFor_87 (lv_at hl 0 rfl) ?_
          refine lv_sipush (v := (10015 : Int32)) hx hb dX9_holdsFor_89 rfl ?_
          refine lv_icmp_ne (tgt := 116) hx hb dX9_holdsFor_92 rfl (fun c12 => ?_) (fun c12 => ?_)
          · replace hf := ifn c12 hf
            obtain ⟨t13, et13⟩ : ∃ y : Int32, y = v3 + (-1 : Int32) := ⟨_, rfl⟩
            replace hf := lt1_inv et13 hf
            refine lv_iinc (v := t13) (lv' := [(3, .int t13), (5, .int t10), (0, .ref h_this), (1, .int p0), (2, .int p1), (4, .int v4)]) hx hb dX9_holdsFor_116 hl (k := 4) rfl (by rw [et13]; rfl) (by decide) rfl (fun ls hl => ?_)
            refine lv_aload_n hx hb dX9_holdsFor_119 rfl (lv_at hl 2 rfl) ?_
            refine r_get C h fk_X9_19 0 rfl rfl dX9_holdsFor_120 ?_
            refine lv_iload_n hx hb dX9_holdsFor_123 rfl (lv_at hl 0 rfl) ?_
            refine lv_iconst (v := (1 : Int32)) hx hb dX9_holdsFor_124 rfl ?_
            refine lv_isub hx hb dX9_holdsFor_125 ?_
            refine lv_iload hx hb dX9_holdsFor_126 (lv_at hl 1 rfl) ?_
            refine lv_aload_n hx hb dX9_holdsFor_128 rfl (lv_at hl 2 rfl) ?_
            refine r_get C h fk_X9_19 0 rfl rfl dX9_holdsFor_129 ?_
            refine lv_iload_n hx hb dX9_holdsFor_132 rfl (lv_at hl 0 rfl) ?_
            refine lv_iconst (v := (1 : Int32)) hx hb dX9_holdsFor_133 rfl ?_
            refine lv_isub hx hb dX9_holdsFor_134 ?_
            replace hf := chkI_inv hf
            obtain ⟨hi14, hf⟩ := hf
            refine r_iald C h 1 rfl hi14 dX9_holdsFor_135 ?_
            refine lv_aload_n hx hb dX9_holdsFor_136 rfl (lv_at hl 2 rfl) ?_
            refine r_get C h fk_X9_19 0 rfl rfl dX9_holdsFor_137 ?_
            refine lv_iload_n hx hb dX9_holdsFor_140 rfl (lv_at hl 0 rfl) ?_
            replace hf := chkI_inv hf
            obtain ⟨hi15, hf⟩ := hf
            refine r_iald C h 1 rfl hi15 dX9_holdsFor_141 ?_
            replace hf := bd1_inv hf
            obtain ⟨r16, hc17, hf⟩ := hf
            refine r_ciS0 C h (c_X9_joined hc17) ms_X9_118 rfl [] rfl rfl hl.1 rfl (Nat.le_of_ble_eq_true rfl) (rok (by decide)) dX9_holdsFor_142 (fun H locs h => ?_)
            replace hf := chkI_inv hf
            obtain ⟨hi18, hf⟩ := hf
            refine r_iast (ws' := [(h_this, ob 9 [.ref h_this_s, .ref h_this_kept, .ref h_this_laid, .int x_this_isKept, .ref h_this_pile, .ref h_this_tape, .int x_this_taped, .ref h_this_letters, .int x_this_at, .int x_this_begun, .int x_this_token, .int x_this_value, .int x_this_opened, .int x_this_steps, .ref h_this_code0, .ref h_this_read, .ref h_this_saved, .ref h_this_plan, .ref h_this_bestPlan, .int x_this_most, .int x_this_many, .int x_this_few, .int x_this_everHome, .ref h_this_offThen, .ref h_this_paidThen, .int x_this_firstFit, .ref h_this_rows, .int x_this_rowMany, .ref h_this_sorts, .ref h_this_sizes, .ref h_this_number, .ref h_this_holds, .ref h_this_heldOne, .ref h_this_trace, .int x_this_traced, .int x_this_own, .int x_this_isParted]), (h_this_pile, ia G 200 (upd g_this_pile (t13 - (1 : Int32)).toNatClampNeg r16)), (h_this_s, ia G 313 f_this_s)]) C h 1 rfl hi18 dX9_holdsFor_145 rfl (fun H locs h => ?_)
            obtain ⟨t19, et19⟩ : ∃ y : Int32, y = v4 + (1 : Int32) := ⟨_, rfl⟩
            replace hf := lt1_inv et19 hf
            refine lv_iinc (v := t19) (lv' := [(4, .int t19), (3, .int t13), (5, .int t10), (0, .ref h_this), (1, .int p0), (2, .int p1)]) hx hb dX9_holdsFor_146 hl (k := 5) rfl (by rw [et19]; rfl) (by decide) rfl (fun ls hl => ?_)
            refine lv_goto (tgt := 20) hx hb dX9_holdsFor_149 rfl ?_
            exact hK2 _ _ _ _ (ih t13 t19 (upd g_this_pile (t13 - (1 : Int32)).toNatClampNeg r16) hf) _ _ _ h (lv_sub hl [3, 4, 5, 1, 0] rfl)
          · replace hf := ifp c12 hf
            refine lv_aload_n hx hb dX9_holdsFor_95 rfl (lv_at hl 1 rfl) ?_
            refine r_get C h fk_X9_19 0 rfl rfl dX9_holdsFor_96 ?_
            refine lv_iload_n hx hb dX9_holdsFor_99 rfl (lv_at hl 4 rfl) ?_
            refine lv_iconst (v := (1 : Int32)) hx hb dX9_holdsFor_100 rfl ?_
            refine lv_isub hx hb dX9_holdsFor_101 ?_
            refine lv_iconst (v := (1 : Int32)) hx hb dX9_holdsFor_102 rfl ?_
            refine lv_aload_n hx hb dX9_holdsFor_103 rfl (lv_at hl 1 rfl) ?_
            refine r_get C h fk_X9_19 0 rfl rfl dX9_holdsFor_104 ?_
            refine lv_iload_n hx hb dX9_holdsFor_107 rfl (lv_at hl 4 rfl) ?_
            refine lv_iconst (v := (1 : Int32)) hx hb dX9_holdsFor_108 rfl ?_
            refine lv_isub hx hb dX9_holdsFor_109 ?_
            replace hf := chkI_inv hf
            obtain ⟨hi20, hf⟩ := hf
            refine r_iald C h 1 rfl hi20 dX9_holdsFor_110 ?_
            refine lv_isub hx hb dX9_holdsFor_111 ?_
            refine lv_topi (fun t21 et21 => ?_)
            replace hf := lt1_inv et21 hf
            replace hf := chkI_inv hf
            obtain ⟨hi22, hf⟩ := hf
            refine r_iast (ws' := [(h_this, ob 9 [.ref h_this_s, .ref h_this_kept, .ref h_this_laid, .int x_this_isKept, .ref h_this_pile, .ref h_this_tape, .int x_this_taped, .ref h_this_letters, .int x_this_at, .int x_this_begun, .int x_this_token, .int x_this_value, .int x_this_opened, .int x_this_steps, .ref h_this_code0, .ref h_this_read, .ref h_this_saved, .ref h_this_plan, .ref h_this_bestPlan, .int x_this_most, .int x_this_many, .int x_this_few, .int x_this_everHome, .ref h_this_offThen, .ref h_this_paidThen, .int x_this_firstFit, .ref h_this_rows, .int x_this_rowMany, .ref h_this_sorts, .ref h_this_sizes, .ref h_this_number, .ref h_this_holds, .ref h_this_heldOne, .ref h_this_trace, .int x_this_traced, .int x_this_own, .int x_this_isParted]), (h_this_pile, ia G 200 (upd g_this_pile (v3 - (1 : Int32)).toNatClampNeg t21)), (h_this_s, ia G 313 f_this_s)]) C h 1 rfl hi22 dX9_holdsFor_112 rfl (fun H locs h => ?_)
            refine lv_goto (tgt := 146) hx hb dX9_holdsFor_113 rfl ?_
            obtain ⟨t23, et23⟩ : ∃ y : Int32, y = v4 + (1 : Int32) := ⟨_, rfl⟩
            replace hf := lt1_inv et23 hf
            refine lv_iinc (v := t23) (lv' := [(4, .int t23), (5, .int t10), (0, .ref h_this), (1, .int p0), (2, .int p1), (3, .int v3)]) hx hb dX9_holdsFor_146 hl (k := 5) rfl (by rw [et23]; rfl) (by decide) rfl (fun ls hl => ?_)
            refine lv_goto (tgt := 20) hx hb dX9_holdsFor_149 rfl ?_
            exact hK2 _ _ _ _ (ih v3 t23 (upd g_this_pile (v3 - (1 : Int32)).toNatClampNeg t21) hf) _ _ _ h (lv_sub hl [2, 3, 4, 5, 0] rfl)
        · replace hf := ifn c11 hf
          refine lv_aload_n hx hb dX9_holdsFor_51 rfl (lv_at hl 1 rfl) ?_
          refine r_get C h fk_X9_19 0 rfl rfl dX9_holdsFor_52 ?_
          refine lv_iload_n hx hb dX9_holdsFor_55 rfl (lv_at hl 4 rfl) ?_
          refine lv_iload hx hb dX9_holdsFor_56 (lv_at hl 0 rfl) ?_
          refine lv_sipush (v := (10000 : Int32)) hx hb dX9_holdsFor_58 rfl ?_
          refine lv_icmp_ge (tgt := 69) hx hb dX9_holdsFor_61 rfl (fun c24 => ?_) (fun c24 => ?_)
          · replace hf := ifp c24 hf
            refine lv_aload_n hx hb dX9_holdsFor_69 rfl (lv_at hl 1 rfl) ?_
            refine lv_iload hx hb dX9_holdsFor_70 (lv_at hl 0 rfl) ?_
            refine lv_sipush (v := (10000 : Int32)) hx hb dX9_holdsFor_72 rfl ?_
            refine lv_isub hx hb dX9_holdsFor_75 ?_
            refine lv_iload_n hx hb dX9_holdsFor_76 rfl (lv_at hl 3 rfl) ?_
            replace hf := bd1_inv hf
            obtain ⟨r25, hc26, hf⟩ := hf
            refine r_ciV0 C h (c_X9_knownOf hc26) mv_X9_115 rfl 0 rfl [0, 2] rfl rfl hl.1 rfl (Nat.le_of_ble_eq_true rfl) (rok (by decide)) dX9_holdsFor_77 (fun H locs h => ?_)
            replace hf := chkI_inv hf
            obtain ⟨hi27, hf⟩ := hf
            refine r_iast (ws' := [(h_this, ob 9 [.ref h_this_s, .ref h_this_kept, .ref h_this_laid, .int x_this_isKept, .ref h_this_pile, .ref h_this_tape, .int x_this_taped, .ref h_this_letters, .int x_this_at, .int x_this_begun, .int x_this_token, .int x_this_value, .int x_this_opened, .int x_this_steps, .ref h_this_code0, .ref h_this_read, .ref h_this_saved, .ref h_this_plan, .ref h_this_bestPlan, .int x_this_most, .int x_this_many, .int x_this_few, .int x_this_everHome, .ref h_this_offThen, .ref h_this_paidThen, .int x_this_firstFit, .ref h_this_rows, .int x_this_rowMany, .ref h_this_sorts, .ref h_this_sizes, .ref h_this_number, .ref h_this_holds, .ref h_this_heldOne, .ref h_this_trace, .int x_this_traced, .int x_this_own, .int x_this_isParted]), (h_this_pile, ia G 200 (upd g_this_pile v3.toNatClampNeg r25)), (h_this_s, ia G 313 f_this_s)]) C h 1 rfl hi27 dX9_holdsFor_80 rfl (fun H locs h => ?_)
            obtain ⟨t28, et28⟩ : ∃ y : Int32, y = v3 + (1 : Int32) := ⟨_, rfl⟩
            replace hf := lt1_inv et28 hf
            refine lv_iinc (v := t28) (lv' := [(3, .int t28), (5, .int t10), (0, .ref h_this), (1, .int p0), (2, .int p1), (4, .int v4)]) hx hb dX9_holdsFor_81 hl (k := 4) rfl (by rw [et28]; rfl) (by decide) rfl (fun ls hl => ?_)
            refine lv_goto (tgt := 146) hx hb dX9_holdsFor_84 rfl ?_
            obtain ⟨t29, et29⟩ : ∃ y : Int32, y = v4 + (1 : Int32) := ⟨_, rfl⟩
            replace hf := lt1_inv et29 hf
            refine lv_iinc (v := t29) (lv' := [(4, .int t29), (3, .int t28), (5, .int t10), (0, .ref h_this), (1, .int p0), (2, .int p1)]) hx hb dX9_holdsFor_146 hl (k := 5) rfl (by rw [et29]; rfl) (by decide) rfl (fun ls hl => ?_)
            refine lv_goto (tgt := 20) hx hb dX9_holdsFor_149 rfl ?_
            exact hK2 _ _ _ _ (ih t28 t29 (upd g_this_pile v3.toNatClampNeg r25) hf) _ _ _ h (lv_sub hl [3, 4, 5, 1, 0] rfl)
          · replace hf := ifn c24 hf
            refine lv_iload hx hb dX9_holdsFor_64 (lv_at hl 0 rfl) ?_
            refine lv_goto (tgt := 80) hx hb dX9_holdsFor_66 rfl ?_
            replace hf := chkI_inv hf
            obtain ⟨hi30, hf⟩ := hf
            refine r_iast (ws' := [(h_this, ob 9 [.ref h_this_s, .ref h_this_kept, .ref h_this_laid, .int x_this_isKept, .ref h_this_pile, .ref h_this_tape, .int x_this_taped, .ref h_this_letters, .int x_this_at, .int x_this_begun, .int x_this_token, .int x_this_value, .int x_this_opened, .int x_this_steps, .ref h_this_code0, .ref h_this_read, .ref h_this_saved, .ref h_this_plan, .ref h_this_bestPlan, .int x_this_most, .int x_this_many, .int x_this_few, .int x_this_everHome, .ref h_this_offThen, .ref h_this_paidThen, .int x_this_firstFit, .ref h_this_rows, .int x_this_rowMany, .ref h_this_sorts, .ref h_this_sizes, .ref h_this_number, .ref h_this_holds, .ref h_this_heldOne, .ref h_this_trace, .int x_this_traced, .int x_this_own, .int x_this_isParted]), (h_this_pile, ia G 200 (upd g_this_pile v3.toNatClampNeg t10)), (h_this_s, ia G 313 f_this_s)]) C h 1 rfl hi30 dX9_holdsFor_80 rfl (fun H locs h => ?_)
            obtain ⟨t31, et31⟩ : ∃ y : Int32, y = v3 + (1 : Int32) := ⟨_, rfl⟩
            replace hf := lt1_inv et31 hf
            refine lv_iinc (v := t31) (lv' := [(3, .int t31), (5, .int t10), (0, .ref h_this), (1, .int p0), (2, .int p1), (4, .int v4)]) hx hb dX9_holdsFor_81 hl (k := 4) rfl (by rw [et31]; rfl) (by decide) rfl (fun ls hl => ?_)
            refine lv_goto (tgt := 146) hx hb dX9_holdsFor_84 rfl ?_
            obtain ⟨t32, et32⟩ : ∃ y : Int32, y = v4 + (1 : Int32) := ⟨_, rfl⟩
            replace hf := lt1_inv et32 hf
            refine lv_iinc (v := t32) (lv' := [(4, .int t32), (3, .int t31), (5, .int t10), (0, .ref h_this), (1, .int p0), (2, .int p1)]) hx hb dX9_holdsFor_146 hl (k := 5) rfl (by rw [et32]; rfl) (by decide) rfl (fun ls hl => ?_)
            refine lv_goto (tgt := 20) hx hb dX9_holdsFor_149 rfl ?_
            exact hK2 _ _ _ _ (ih t31 t32 (upd g_this_pile v3.toNatClampNeg t10) hf) _ _ _ h (lv_sub hl [3, 4, 5, 1, 0] rfl)
  have B18 : ∀ (v3 : Int32) (s0 : Int32), f_X9_holdsFor_b18 p0 p1 f_this_pile f_this_s v3 s0 = some (r, m_this_pile) → K 18 [.int s0] [(h_this, ob 9 [.ref h_this_s, .ref h_this_kept, .ref h_this_laid, .int x_this_isKept, .ref h_this_pile, .ref h_this_tape, .int x_this_taped, .ref h_this_letters, .int x_this_at, .int x_this_begun, .int x_this_token, .int x_this_value, .int x_this_opened, .int x_this_steps, .ref h_this_code0, .ref h_this_read, .ref h_this_saved, .ref h_this_plan, .ref h_this_bestPlan, .int x_this_most, .int x_this_many, .int x_this_few, .int x_this_everHome, .ref h_this_offThen, .ref h_this_paidThen, .int x_this_firstFit, .ref h_this_rows, .int x_this_rowMany, .ref h_this_sorts, .ref h_this_sizes, .ref h_this_number, .ref h_this_holds, .ref h_this_heldOne, .ref h_this_trace, .int x_this_traced, .int x_this_own, .int x_this_isParted]), (h_this_pile, ia G 200 f_this_pile), (h_this_s, ia G 313 f_this_s)] [(0, .ref h_this), (1, .int p0), (2, .int p1), (3, .int v3)] := by
    intro v3 s0 hf
    unfold f_X9_holdsFor_b18 at hf
    refine hK1 _ _ _ _ (fun H locs ls h hl => ?_)
    refine lv_istore (lv' := [(4, .int s0), (0, .ref h_this), (1, .int p0), (2, .int p1), (3, .int v3)]) hx hb dX9_holdsFor_18 hl (by decide) rfl (fun ls hl => ?_)
    exact hK2 _ _ _ _ (L20 1000 v3 s0 f_this_pile hf) _ _ _ h (lv_sub hl [1, 2, 3, 4, 0] rfl)
  refine lv_iconst (v := (0 : Int32)) hx hb dX9_holdsFor_0 rfl ?_
  refine lv_istore_n (lv' := [(3, .int (0 : Int32)), (0, .ref h_this), (1, .int p0), (2, .int p1)]) hx hb dX9_holdsFor_1 rfl hl (by decide) rfl (fun ls hl => ?_)
  refine lv_iload_n hx hb dX9_holdsFor_2 rfl (lv_at hl 2 rfl) ?_
  refine lv_if_ne (tgt := 10) hx hb dX9_holdsFor_3 rfl (fun c1 => ?_) (fun c1 => ?_)
  · replace hf := ifn c1 hf
    refine lv_aload_n hx hb dX9_holdsFor_10 rfl (lv_at hl 1 rfl) ?_
    refine lv_iload_n hx hb dX9_holdsFor_11 rfl (lv_at hl 2 rfl) ?_
    refine lv_iconst (v := (1 : Int32)) hx hb dX9_holdsFor_12 rfl ?_
    refine lv_isub hx hb dX9_holdsFor_13 ?_
    refine lv_iconst (v := (2 : Int32)) hx hb dX9_holdsFor_14 rfl ?_
    replace hf := bd1_inv hf
    obtain ⟨r2, hc3, hf⟩ := hf
    refine r_ciV0 C h (c_X9_ruleOf hc3) mv_X9_112 rfl 0 rfl [0, 2] rfl rfl hl.1 rfl (Nat.le_of_ble_eq_true rfl) (rok (by decide)) dX9_holdsFor_15 (fun H locs h => ?_)
    exact hK2 _ _ _ _ (B18 (0 : Int32) r2 hf) _ _ _ h (lv_sub hl [1, 2, 3, 0] rfl)
  · replace hf := ifp c1 hf
    refine lv_iconst (v := (0 : Int32)) hx hb dX9_holdsFor_6 rfl ?_
    refine lv_goto (tgt := 18) hx hb dX9_holdsFor_7 rfl ?_
    exact hK2 _ _ _ _ (B18 (0 : Int32) (0 : Int32) hf) _ _ _ h (lv_sub hl [1, 2, 3, 0] rfl)
