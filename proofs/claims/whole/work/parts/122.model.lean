def f_X9_reachesBy (p0 : Int32) (p1 : Int32) (p2 : Int32) : Option (Int32) := lt1 ((10 : Int32) + ((2 : Int32) * p1)) (fun (t1 : Int32) => lt1 ((t1 + (5 : Int32)) - ((3 : Int32) * p2)) (fun (t2 : Int32) => (if p0 = (1 : Int32) then some (20 : Int32) else (if p0 = (2 : Int32) then some (t1 + (5 : Int32)) else (if p0 = (3 : Int32) then (if t2 ≤ 0 then some (0 : Int32) else some t2) else (if p0 = (4 : Int32) then some (t1 + ((3 : Int32) * p2)) else (if p0 = (5 : Int32) then some ((t1 + ((3 : Int32) * p2)) / (2 : Int32)) else some t1)))))))
set_option maxRecDepth 100000 in
set_option maxHeartbeats 4000000 in
theorem c_X9_reachesBy {l : Launch} {G : Gt} {p0 : Int32} {p1 : Int32} {p2 : Int32} {r : Int32} (hf : f_X9_reachesBy p0 p1 p2 = some r) : mFi l G yX9_reachesBy cX9_reachesBy 5 .int 0 [.int p0, .int p1, .int p2] ([] : va_W) r ([] : va_W) := by
  refine mFi.of (by decide +kernel) (Nat.le_of_ble_eq_true rfl) ?_
  intro p e s m below meth c A C hr hlk h ls hl
  obtain ⟨hx, hb, hml, hown, hts⟩ := id C
  replace hl : lv_has ls 5 [(0, .int p0), (1, .int p1), (2, .int p2)] := hl
  unfold f_X9_reachesBy at hf
  refine lv_bipush (v := (10 : Int32)) hx hb dX9_reachesBy_0 rfl ?_
  refine lv_iconst (v := (2 : Int32)) hx hb dX9_reachesBy_2 rfl ?_
  refine lv_iload_n hx hb dX9_reachesBy_3 rfl (lv_at hl 1 rfl) ?_
  refine lv_imul hx hb dX9_reachesBy_4 ?_
  refine lv_iadd hx hb dX9_reachesBy_5 ?_
  refine lv_topi (fun t1 et1 => ?_)
  replace hf := lt1_inv et1 hf
  refine lv_istore_n (lv' := [(3, .int t1), (0, .int p0), (1, .int p1), (2, .int p2)]) hx hb dX9_reachesBy_6 rfl hl (by decide) rfl (fun ls hl => ?_)
  refine lv_iload_n hx hb dX9_reachesBy_7 rfl (lv_at hl 0 rfl) ?_
  refine lv_iconst (v := (5 : Int32)) hx hb dX9_reachesBy_8 rfl ?_
  refine lv_iadd hx hb dX9_reachesBy_9 ?_
  refine lv_iconst (v := (3 : Int32)) hx hb dX9_reachesBy_10 rfl ?_
  refine lv_iload_n hx hb dX9_reachesBy_11 rfl (lv_at hl 3 rfl) ?_
  refine lv_imul hx hb dX9_reachesBy_12 ?_
  refine lv_isub hx hb dX9_reachesBy_13 ?_
  refine lv_topi (fun t2 et2 => ?_)
  replace hf := lt1_inv et2 hf
  refine lv_istore (lv' := [(4, .int t2), (3, .int t1), (0, .int p0), (1, .int p1), (2, .int p2)]) hx hb dX9_reachesBy_14 hl (by decide) rfl (fun ls hl => ?_)
  refine lv_iload_n hx hb dX9_reachesBy_16 rfl (lv_at hl 2 rfl) ?_
  by_cases c3 : p0 = (1 : Int32)
  · replace hf := ifp c3 hf
    refine r_tab (tgt := 52) C dX9_reachesBy_17 (1 : Int32) c3 (by decide) rfl rfl ?_
    refine lv_bipush (v := (20 : Int32)) hx hb dX9_reachesBy_52 rfl ?_
    cases hf
    exact r_iret C h hr hlk rfl dX9_reachesBy_54
  · replace hf := ifn c3 hf
    by_cases c4 : p0 = (2 : Int32)
    · replace hf := ifp c4 hf
      refine r_tab (tgt := 55) C dX9_reachesBy_17 (2 : Int32) c4 (by decide) rfl rfl ?_
      refine lv_iload_n hx hb dX9_reachesBy_55 rfl (lv_at hl 1 rfl) ?_
      refine lv_iconst (v := (5 : Int32)) hx hb dX9_reachesBy_56 rfl ?_
      refine lv_iadd hx hb dX9_reachesBy_57 ?_
      cases hf
      exact r_iret C h hr hlk rfl dX9_reachesBy_58
    · replace hf := ifn c4 hf
      by_cases c5 : p0 = (3 : Int32)
      · replace hf := ifp c5 hf
        refine r_tab (tgt := 59) C dX9_reachesBy_17 (3 : Int32) c5 (by decide) rfl rfl ?_
        refine lv_iload hx hb dX9_reachesBy_59 (lv_at hl 0 rfl) ?_
        refine lv_if_le (tgt := 69) hx hb dX9_reachesBy_61 rfl (fun c8 => ?_) (fun c8 => ?_)
        · replace hf := ifp c8 hf
          refine lv_iconst (v := (0 : Int32)) hx hb dX9_reachesBy_69 rfl ?_
          cases hf
          exact r_iret C h hr hlk rfl dX9_reachesBy_70
        · replace hf := ifn c8 hf
          refine lv_iload hx hb dX9_reachesBy_64 (lv_at hl 0 rfl) ?_
          refine lv_goto (tgt := 70) hx hb dX9_reachesBy_66 rfl ?_
          cases hf
          exact r_iret C h hr hlk rfl dX9_reachesBy_70
      · replace hf := ifn c5 hf
        by_cases c6 : p0 = (4 : Int32)
        · replace hf := ifp c6 hf
          refine r_tab (tgt := 71) C dX9_reachesBy_17 (4 : Int32) c6 (by decide) rfl rfl ?_
          refine lv_iload_n hx hb dX9_reachesBy_71 rfl (lv_at hl 1 rfl) ?_
          refine lv_iconst (v := (3 : Int32)) hx hb dX9_reachesBy_72 rfl ?_
          refine lv_iload_n hx hb dX9_reachesBy_73 rfl (lv_at hl 4 rfl) ?_
          refine lv_imul hx hb dX9_reachesBy_74 ?_
          refine lv_iadd hx hb dX9_reachesBy_75 ?_
          cases hf
          exact r_iret C h hr hlk rfl dX9_reachesBy_76
        · replace hf := ifn c6 hf
          by_cases c7 : p0 = (5 : Int32)
          · replace hf := ifp c7 hf
            refine r_tab (tgt := 77) C dX9_reachesBy_17 (5 : Int32) c7 (by decide) rfl rfl ?_
            refine lv_iload_n hx hb dX9_reachesBy_77 rfl (lv_at hl 1 rfl) ?_
            refine lv_iconst (v := (3 : Int32)) hx hb dX9_reachesBy_78 rfl ?_
            refine lv_iload_n hx hb dX9_reachesBy_79 rfl (lv_at hl 4 rfl) ?_
            refine lv_imul hx hb dX9_reachesBy_80 ?_
            refine lv_iadd hx hb dX9_reachesBy_81 ?_
            refine lv_iconst (v := (2 : Int32)) hx hb dX9_reachesBy_82 rfl ?_
            refine lv_idiv hx hb dX9_reachesBy_83 (by decide) ?_
            cases hf
            exact r_iret C h hr hlk rfl dX9_reachesBy_84
          · replace hf := ifn c7 hf
            refine r_tabD (tgt := 85) C dX9_reachesBy_17 [(1 : Int32), (2 : Int32), (3 : Int32), (4 : Int32), (5 : Int32)] (by decide) (nel_c c3 (nel_c c4 (nel_c c5 (nel_c c6 (nel_c c7 nel_0))))) rfl ?_
            refine lv_iload_n hx hb dX9_reachesBy_85 rfl (lv_at hl 1 rfl) ?_
            cases hf
            exact r_iret C h hr hlk rfl dX9_reachesBy_86
def f_X9_reachesWith (p0 : Int32) (p1 : Int32) (f_this_s : Nat → Int32) : Option (Int32) := bd1 (f_X9_get p0 (0 : Int32) f_this_s) (fun r1 => bd1 (f_X9_lightNow f_this_s) (fun r3 => bd1 (f_X9_reachesBy r1 p1 (r3 / (4 : Int32))) (fun r5 => bd1 (f_X9_get p0 (3 : Int32) f_this_s) (fun r7 => chkI ((29 : Int32) + r7) 313 (some (r5 + (f_this_s ((29 : Int32) + r7).toNatClampNeg)))))))
set_option maxRecDepth 100000 in
set_option maxHeartbeats 4000000 in
theorem c_X9_reachesWith {l : Launch} {G : Gt} {h_this h_this_s h_this_kept h_this_laid h_this_pile h_this_tape h_this_letters h_this_code0 h_this_read h_this_saved h_this_plan h_this_bestPlan h_this_offThen h_this_paidThen h_this_rows h_this_sorts h_this_sizes h_this_number h_this_holds h_this_heldOne h_this_trace : Nat} {p0 : Int32} {p1 : Int32} {x_this_isKept : Int32} {x_this_taped : Int32} {x_this_at : Int32} {x_this_begun : Int32} {x_this_token : Int32} {x_this_value : Int32} {x_this_opened : Int32} {x_this_steps : Int32} {x_this_most : Int32} {x_this_many : Int32} {x_this_few : Int32} {x_this_everHome : Int32} {x_this_firstFit : Int32} {x_this_rowMany : Int32} {x_this_traced : Int32} {x_this_own : Int32} {x_this_isParted : Int32} {f_this_s : Nat → Int32} {r : Int32} (hf : f_X9_reachesWith p0 p1 f_this_s = some r) : mFi l G yX9_reachesWith cX9_reachesWith 3 .int 1 [.ref h_this, .int p0, .int p1] [(h_this, ob 9 [.ref h_this_s, .ref h_this_kept, .ref h_this_laid, .int x_this_isKept, .ref h_this_pile, .ref h_this_tape, .int x_this_taped, .ref h_this_letters, .int x_this_at, .int x_this_begun, .int x_this_token, .int x_this_value, .int x_this_opened, .int x_this_steps, .ref h_this_code0, .ref h_this_read, .ref h_this_saved, .ref h_this_plan, .ref h_this_bestPlan, .int x_this_most, .int x_this_many, .int x_this_few, .int x_this_everHome, .ref h_this_offThen, .ref h_this_paidThen, .int x_this_firstFit, .ref h_this_rows, .int x_this_rowMany, .ref h_this_sorts, .ref h_this_sizes, .ref h_this_number, .ref h_this_holds, .ref h_this_heldOne, .ref h_this_trace, .int x_this_traced, .int x_this_own, .int x_this_isParted]), (h_this_s, ia G 313 f_this_s)] r [(h_this, ob 9 [.ref h_this_s, .ref h_this_kept, .ref h_this_laid, .int x_this_isKept, .ref h_this_pile, .ref h_this_tape, .int x_this_taped, .ref h_this_letters, .int x_this_at, .int x_this_begun, .int x_this_token, .int x_this_value, .int x_this_opened, .int x_this_steps, .ref h_this_code0, .ref h_this_read, .ref h_this_saved, .ref h_this_plan, .ref h_this_bestPlan, .int x_this_most, .int x_this_many, .int x_this_few, .int x_this_everHome, .ref h_this_offThen, .ref h_this_paidThen, .int x_this_firstFit, .ref h_this_rows, .int x_this_rowMany, .ref h_this_sorts, .ref h_this_sizes, .ref h_this_number, .ref h_this_holds, .ref h_this_heldOne, .ref h_this_trace, .int x_this_traced, .int x_this_own, .int x_this_isParted]), (h_this_s, ia G 313 f_this_s)] := by
  refine mFi.of (by decide +kernel) (Nat.le_of_ble_eq_true rfl) ?_
  intro p e s m below meth c A C hr hlk h ls hl
  obtain ⟨hx, hb, hml, hown, hts⟩ := id C
  replace hl : lv_has ls 3 [(0, .ref h_this), (1, .int p0), (2, .int p1)] := hl
  unfold f_X9_reachesWith at hf
  refine lv_aload_n hx hb dX9_reachesWith_0 rfl (lv_at hl 0 rfl) ?_
  refine lv_iload_n hx hb dX9_reachesWith_1 rfl (lv_at hl 1 rfl) ?_
  refine lv_iconst (v := (0 : Int32)) hx hb dX9_reachesWith_2 rfl ?_
  replace hf := bd1_inv hf
  obtain ⟨r1, hc2, hf⟩ := hf
  refine r_ciV0 C h (c_X9_get hc2) mv_X9_79 rfl 0 rfl [0, 1] rfl rfl hl.1 rfl (Nat.le_of_ble_eq_true rfl) (rok (by decide)) dX9_reachesWith_3 (fun H locs h => ?_)
  refine lv_iload_n hx hb dX9_reachesWith_6 rfl (lv_at hl 2 rfl) ?_
  refine lv_aload_n hx hb dX9_reachesWith_7 rfl (lv_at hl 0 rfl) ?_
  replace hf := bd1_inv hf
  obtain ⟨r3, hc4, hf⟩ := hf
  refine r_ciV0 C h (c_X9_lightNow hc4) mv_X9_83 rfl 0 rfl [0, 1] rfl rfl hl.1 rfl (Nat.le_of_ble_eq_true rfl) (rok (by decide)) dX9_reachesWith_8 (fun H locs h => ?_)
  refine lv_iconst (v := (4 : Int32)) hx hb dX9_reachesWith_11 rfl ?_
  refine lv_idiv hx hb dX9_reachesWith_12 (by decide) ?_
  replace hf := bd1_inv hf
  obtain ⟨r5, hc6, hf⟩ := hf
  refine r_ciS0 C h (c_X9_reachesBy hc6) ms_X9_91 rfl [] rfl rfl hl.1 rfl (Nat.le_of_ble_eq_true rfl) (rok (by decide)) dX9_reachesWith_13 (fun H locs h => ?_)
  refine lv_aload_n hx hb dX9_reachesWith_16 rfl (lv_at hl 0 rfl) ?_
  refine r_get C h fk_X9_9 0 rfl rfl dX9_reachesWith_17 ?_
  refine lv_bipush (v := (29 : Int32)) hx hb dX9_reachesWith_20 rfl ?_
  refine lv_aload_n hx hb dX9_reachesWith_22 rfl (lv_at hl 0 rfl) ?_
  refine lv_iload_n hx hb dX9_reachesWith_23 rfl (lv_at hl 1 rfl) ?_
  refine lv_iconst (v := (3 : Int32)) hx hb dX9_reachesWith_24 rfl ?_
  replace hf := bd1_inv hf
  obtain ⟨r7, hc8, hf⟩ := hf
  refine r_ciV0 C h (c_X9_get hc8) mv_X9_79 rfl 0 rfl [0, 1] rfl rfl hl.1 rfl (Nat.le_of_ble_eq_true rfl) (rok (by decide)) dX9_reachesWith_25 (fun H locs h => ?_)
  refine lv_iadd hx hb dX9_reachesWith_28 ?_
  replace hf := chkI_inv hf
  obtain ⟨hi9, hf⟩ := hf
  refine r_iald C h 1 rfl hi9 dX9_reachesWith_29 ?_
  refine lv_iadd hx hb dX9_reachesWith_30 ?_
  cases hf
  exact r_iret C h hr hlk rfl dX9_reachesWith_31
def f_X9_isReachedWith (p0 : Int32) (p1 : Int32) (f_this_s : Nat → Int32) : Option (Int32) := bd1 (f_X9_get p0 (4 : Int32) f_this_s) (fun r1 => (if r1 = 0 then bd1 (f_X9_get p0 (1 : Int32) f_this_s) (fun r4 => (if r4 ≤ 0 then some (0 : Int32) else bd1 (f_X9_get p0 (1 : Int32) f_this_s) (fun r7 => bd1 (f_X9_reachesWith p0 p1 f_this_s) (fun r9 => (if r9 < r7 then some (0 : Int32) else some (1 : Int32)))))) else some (0 : Int32)))
set_option maxRecDepth 100000 in
set_option maxHeartbeats 4000000 in
theorem c_X9_isReachedWith {l : Launch} {G : Gt} {h_this h_this_s h_this_kept h_this_laid h_this_pile h_this_tape h_this_letters h_this_code0 h_this_read h_this_saved h_this_plan h_this_bestPlan h_this_offThen h_this_paidThen h_this_rows h_this_sorts h_this_sizes h_this_number h_this_holds h_this_heldOne h_this_trace : Nat} {p0 : Int32} {p1 : Int32} {x_this_isKept : Int32} {x_this_taped : Int32} {x_this_at : Int32} {x_this_begun : Int32} {x_this_token : Int32} {x_this_value : Int32} {x_this_opened : Int32} {x_this_steps : Int32} {x_this_most : Int32} {x_this_many : Int32} {x_this_few : Int32} {x_this_everHome : Int32} {x_this_firstFit : Int32} {x_this_rowMany : Int32} {x_this_traced : Int32} {x_this_own : Int32} {x_this_isParted : Int32} {f_this_s : Nat → Int32} {r : Int32} (hf : f_X9_isReachedWith p0 p1 f_this_s = some r) : mFi l G yX9_isReachedWith cX9_isReachedWith 3 .boolean 2 [.ref h_this, .int p0, .int p1] [(h_this, ob 9 [.ref h_this_s, .ref h_this_kept, .ref h_this_laid, .int x_this_isKept, .ref h_this_pile, .ref h_this_tape, .int x_this_taped, .ref h_this_letters, .int x_this_at, .int x_this_begun, .int x_this_token, .int x_this_value, .int x_this_opened, .int x_this_steps, .ref h_this_code0, .ref h_this_read, .ref h_this_saved, .ref h_this_plan, .ref h_this_bestPlan, .int x_this_most, .int x_this_many, .int x_this_few, .int x_this_everHome, .ref h_this_offThen, .ref h_this_paidThen, .int x_this_firstFit, .ref h_this_rows, .int x_this_rowMany, .ref h_this_sorts, .ref h_this_sizes, .ref h_this_number, .ref h_this_holds, .ref h_this_heldOne, .ref h_this_trace, .int x_this_traced, .int x_this_own, .int x_this_isParted]), (h_this_s, ia G 313 f_this_s)] r [(h_this, ob 9 [.ref h_this_s, .ref h_this_kept, .ref h_this_laid, .int x_this_isKept, .ref h_this_pile, .ref h_this_tape, .int x_this_taped, .ref h_this_letters, .int x_this_at, .int x_this_begun, .int x_this_token, .int x_this_value, .int x_this_opened, .int x_this_steps, .ref h_this_code0, .ref h_this_read, .ref h_this_saved, .ref h_this_plan, .ref h_this_bestPlan, .int x_this_most, .int x_this_many, .int x_this_few, .int x_this_everHome, .ref h_this_offThen, .ref h_this_paidThen, .int x_this_firstFit, .ref h_this_rows, .int x_this_rowMany, .ref h_this_sorts, .ref h_this_sizes, .ref h_this_number, .ref h_this_holds, .ref h_this_heldOne, .ref h_this_trace, .int x_this_traced, .int x_this_own, .int x_this_isParted]), (h_this_s, ia G 313 f_this_s)] := by
  refine mFi.of (by decide +kernel) (Nat.le_of_ble_eq_true rfl) ?_
  intro p e s m below meth c A C hr hlk h ls hl
  obtain ⟨hx, hb, hml, hown, hts⟩ := id C
  replace hl : lv_has ls 3 [(0, .ref h_this), (1, .int p0), (2, .int p1)] := hl
  unfold f_X9_isReachedWith at hf
  refine lv_aload_n hx hb dX9_isReachedWith_0 rfl (lv_at hl 0 rfl) ?_
  refine lv_iload_n hx hb dX9_isReachedWith_1 rfl (lv_at hl 1 rfl) ?_
  refine lv_iconst (v := (4 : Int32)) hx hb dX9_isReachedWith_2 rfl ?_
  replace hf := bd1_inv hf
  obtain ⟨r1, hc2, hf⟩ := hf
  refine r_ciV0 C h (c_X9_get hc2) mv_X9_79 rfl 0 rfl [0, 1] rfl rfl hl.1 rfl (Nat.le_of_ble_eq_true rfl) (rok (by decide)) dX9_isReachedWith_3 (fun H locs h => ?_)
  refine lv_if_ne (tgt := 37) hx hb dX9_isReachedWith_6 rfl (fun c3 => ?_) (fun c3 => ?_)
  · replace hf := ifn c3 hf
    refine lv_iconst (v := (0 : Int32)) hx hb dX9_isReachedWith_37 rfl ?_
    cases hf
    exact r_iret C h hr hlk rfl dX9_isReachedWith_38
  · replace hf := ifp c3 hf
    refine lv_aload_n hx hb dX9_isReachedWith_9 rfl (lv_at hl 0 rfl) ?_
    refine lv_iload_n hx hb dX9_isReachedWith_10 rfl (lv_at hl 1 rfl) ?_
    refine lv_iconst (v := (1 : Int32)) hx hb dX9_isReachedWith_11 rfl ?_
    replace hf := bd1_inv hf
    obtain ⟨r4, hc5, hf⟩ := hf
    refine r_ciV0 C h (c_X9_get hc5) mv_X9_79 rfl 0 rfl [0, 1] rfl rfl hl.1 rfl (Nat.le_of_ble_eq_true rfl) (rok (by decide)) dX9_isReachedWith_12 (fun H locs h => ?_)
    refine lv_if_le (tgt := 37) hx hb dX9_isReachedWith_15 rfl (fun c6 => ?_) (fun c6 => ?_)
    · replace hf := ifp c6 hf
      refine lv_iconst (v := (0 : Int32)) hx hb dX9_isReachedWith_37 rfl ?_
      cases hf
      exact r_iret C h hr hlk rfl dX9_isReachedWith_38
    · replace hf := ifn c6 hf
      refine lv_aload_n hx hb dX9_isReachedWith_18 rfl (lv_at hl 0 rfl) ?_
      refine lv_iload_n hx hb dX9_isReachedWith_19 rfl (lv_at hl 1 rfl) ?_
      refine lv_iconst (v := (1 : Int32)) hx hb dX9_isReachedWith_20 rfl ?_
      replace hf := bd1_inv hf
      obtain ⟨r7, hc8, hf⟩ := hf
      refine r_ciV0 C h (c_X9_get hc8) mv_X9_79 rfl 0 rfl [0, 1] rfl rfl hl.1 rfl (Nat.le_of_ble_eq_true rfl) (rok (by decide)) dX9_isReachedWith_21 (fun H locs h => ?_)
      refine lv_aload_n hx hb dX9_isReachedWith_24 rfl (lv_at hl 0 rfl) ?_
      refine lv_iload_n hx hb dX9_isReachedWith_25 rfl (lv_at hl 1 rfl) ?_
      refine lv_iload_n hx hb dX9_isReachedWith_26 rfl (lv_at hl 2 rfl) ?_
      replace hf := bd1_inv hf
      obtain ⟨r9, hc10, hf⟩ := hf
      refine r_ciV0 C h (c_X9_reachesWith hc10) mv_X9_95 rfl 0 rfl [0, 1] rfl rfl hl.1 rfl (Nat.le_of_ble_eq_true rfl) (rok (by decide)) dX9_isReachedWith_27 (fun H locs h => ?_)
      refine lv_icmp_gt (tgt := 37) hx hb dX9_isReachedWith_30 rfl (fun c11 => ?_) (fun c11 => ?_)
      · replace hf := ifp c11 hf
        refine lv_iconst (v := (0 : Int32)) hx hb dX9_isReachedWith_37 rfl ?_
        cases hf
        exact r_iret C h hr hlk rfl dX9_isReachedWith_38
      · replace hf := ifn c11 hf
        refine lv_iconst (v := (1 : Int32)) hx hb dX9_isReachedWith_33 rfl ?_
        refine lv_goto (tgt := 38) hx hb dX9_isReachedWith_34 rfl ?_
        cases hf
        exact r_iret C h hr hlk rfl dX9_isReachedWith_38
def f_X9_paysOf (p0 : Int32) (f_this_s : Nat → Int32) : Option (Int32) := bd1 (f_X9_get p0 (2 : Int32) f_this_s) (fun r1 => bd1 (f_X9_isReachedWith p0 r1 f_this_s) (fun r3 => (if r3 = 0 then some (0 : Int32) else bd1 (f_X9_get p0 (2 : Int32) f_this_s) (fun r6 => some ((6 : Int32) + r6)))))
set_option maxRecDepth 100000 in
set_option maxHeartbeats 4000000 in
theorem c_X9_paysOf {l : Launch} {G : Gt} {h_this h_this_s h_this_kept h_this_laid h_this_pile h_this_tape h_this_letters h_this_code0 h_this_read h_this_saved h_this_plan h_this_bestPlan h_this_offThen h_this_paidThen h_this_rows h_this_sorts h_this_sizes h_this_number h_this_holds h_this_heldOne h_this_trace : Nat} {p0 : Int32} {x_this_isKept : Int32} {x_this_taped : Int32} {x_this_at : Int32} {x_this_begun : Int32} {x_this_token : Int32} {x_this_value : Int32} {x_this_opened : Int32} {x_this_steps : Int32} {x_this_most : Int32} {x_this_many : Int32} {x_this_few : Int32} {x_this_everHome : Int32} {x_this_firstFit : Int32} {x_this_rowMany : Int32} {x_this_traced : Int32} {x_this_own : Int32} {x_this_isParted : Int32} {f_this_s : Nat → Int32} {r : Int32} (hf : f_X9_paysOf p0 f_this_s = some r) : mFi l G yX9_paysOf cX9_paysOf 2 .int 3 [.ref h_this, .int p0] [(h_this, ob 9 [.ref h_this_s, .ref h_this_kept, .ref h_this_laid, .int x_this_isKept, .ref h_this_pile, .ref h_this_tape, .int x_this_taped, .ref h_this_letters, .int x_this_at, .int x_this_begun, .int x_this_token, .int x_this_value, .int x_this_opened, .int x_this_steps, .ref h_this_code0, .ref h_this_read, .ref h_this_saved, .ref h_this_plan, .ref h_this_bestPlan, .int x_this_most, .int x_this_many, .int x_this_few, .int x_this_everHome, .ref h_this_offThen, .ref h_this_paidThen, .int x_this_firstFit, .ref h_this_rows, .int x_this_rowMany, .ref h_this_sorts, .ref h_this_sizes, .ref h_this_number, .ref h_this_holds, .ref h_this_heldOne, .ref h_this_trace, .int x_this_traced, .int x_this_own, .int x_this_isParted]), (h_this_s, ia G 313 f_this_s)] r [(h_this, ob 9 [.ref h_this_s, .ref h_this_kept, .ref h_this_laid, .int x_this_isKept, .ref h_this_pile, .ref h_this_tape, .int x_this_taped, .ref h_this_letters, .int x_this_at, .int x_this_begun, .int x_this_token, .int x_this_value, .int x_this_opened, .int x_this_steps, .ref h_this_code0, .ref h_this_read, .ref h_this_saved, .ref h_this_plan, .ref h_this_bestPlan, .int x_this_most, .int x_this_many, .int x_this_few, .int x_this_everHome, .ref h_this_offThen, .ref h_this_paidThen, .int x_this_firstFit, .ref h_this_rows, .int x_this_rowMany, .ref h_this_sorts, .ref h_this_sizes, .ref h_this_number, .ref h_this_holds, .ref h_this_heldOne, .ref h_this_trace, .int x_this_traced, .int x_this_own, .int x_this_isParted]), (h_this_s, ia G 313 f_this_s)] := by
  refine mFi.of (by decide +kernel) (Nat.le_of_ble_eq_true rfl) ?_
  intro p e s m below meth c A C hr hlk h ls hl
  obtain ⟨hx, hb, hml, hown, hts⟩ := id C
  replace hl : lv_has ls 2 [(0, .ref h_this), (1, .int p0)] := hl
  unfold f_X9_paysOf at hf
  refine lv_aload_n hx hb dX9_paysOf_0 rfl (lv_at hl 0 rfl) ?_
  refine lv_iload_n hx hb dX9_paysOf_1 rfl (lv_at hl 1 rfl) ?_
  refine lv_aload_n hx hb dX9_paysOf_2 rfl (lv_at hl 0 rfl) ?_
  refine lv_iload_n hx hb dX9_paysOf_3 rfl (lv_at hl 1 rfl) ?_
  refine lv_iconst (v := (2 : Int32)) hx hb dX9_paysOf_4 rfl ?_
  replace hf := bd1_inv hf
  obtain ⟨r1, hc2, hf⟩ := hf
  refine r_ciV0 C h (c_X9_get hc2) mv_X9_79 rfl 0 rfl [0, 1] rfl rfl hl.1 rfl (Nat.le_of_ble_eq_true rfl) (rok (by decide)) dX9_paysOf_5 (fun H locs h => ?_)
  replace hf := bd1_inv hf
  obtain ⟨r3, hc4, hf⟩ := hf
  refine r_ciV0 C h (c_X9_isReachedWith hc4) mv_X9_98 rfl 0 rfl [0, 1] rfl rfl hl.1 rfl (Nat.le_of_ble_eq_true rfl) (rok (by decide)) dX9_paysOf_8 (fun H locs h => ?_)
  refine lv_if_eq (tgt := 26) hx hb dX9_paysOf_11 rfl (fun c5 => ?_) (fun c5 => ?_)
  · replace hf := ifp c5 hf
    refine lv_iconst (v := (0 : Int32)) hx hb dX9_paysOf_26 rfl ?_
    cases hf
    exact r_iret C h hr hlk rfl dX9_paysOf_27
  · replace hf := ifn c5 hf
    refine lv_bipush (v := (6 : Int32)) hx hb dX9_paysOf_14 rfl ?_
    refine lv_aload_n hx hb dX9_paysOf_16 rfl (lv_at hl 0 rfl) ?_
    refine lv_iload_n hx hb dX9_paysOf_17 rfl (lv_at hl 1 rfl) ?_
    refine lv_iconst (v := (2 : Int32)) hx hb dX9_paysOf_18 rfl ?_
    replace hf := bd1_inv hf
    obtain ⟨r6, hc7, hf⟩ := hf
    refine r_ciV0 C h (c_X9_get hc7) mv_X9_79 rfl 0 rfl [0, 1] rfl rfl hl.1 rfl (Nat.le_of_ble_eq_true rfl) (rok (by decide)) dX9_paysOf_19 (fun H locs h => ?_)
    refine lv_iadd hx hb dX9_paysOf_22 ?_
    refine lv_goto (tgt := 27) hx hb dX9_paysOf_23 rfl ?_
    cases hf
    exact r_iret C h hr hlk rfl dX9_paysOf_27
def f_X9_ruleOf (p0 : Int32) (p1 : Int32) (f_this_s : Nat → Int32) : Option (Int32) := chkI (((89 : Int32) + ((3 : Int32) * p0)) + p1) 313 (some (f_this_s (((89 : Int32) + ((3 : Int32) * p0)) + p1).toNatClampNeg))
set_option maxRecDepth 100000 in
set_option maxHeartbeats 4000000 in
theorem c_X9_ruleOf {l : Launch} {G : Gt} {h_this h_this_s h_this_kept h_this_laid h_this_pile h_this_tape h_this_letters h_this_code0 h_this_read h_this_saved h_this_plan h_this_bestPlan h_this_offThen h_this_paidThen h_this_rows h_this_sorts h_this_sizes h_this_number h_this_holds h_this_heldOne h_this_trace : Nat} {p0 : Int32} {p1 : Int32} {x_this_isKept : Int32} {x_this_taped : Int32} {x_this_at : Int32} {x_this_begun : Int32} {x_this_token : Int32} {x_this_value : Int32} {x_this_opened : Int32} {x_this_steps : Int32} {x_this_most : Int32} {x_this_many : Int32} {x_this_few : Int32} {x_this_everHome : Int32} {x_this_firstFit : Int32} {x_this_rowMany : Int32} {x_this_traced : Int32} {x_this_own : Int32} {x_this_isParted : Int32} {f_this_s : Nat → Int32} {r : Int32} (hf : f_X9_ruleOf p0 p1 f_this_s = some r) : mFi l G yX9_ruleOf cX9_ruleOf 3 .int 0 [.ref h_this, .int p0, .int p1] [(h_this, ob 9 [.ref h_this_s, .ref h_this_kept, .ref h_this_laid, .int x_this_isKept, .ref h_this_pile, .ref h_this_tape, .int x_this_taped, .ref h_this_letters, .int x_this_at, .int x_this_begun, .int x_this_token, .int x_this_value, .int x_this_opened, .int x_this_steps, .ref h_this_code0, .ref h_this_read, .ref h_this_saved, .ref h_this_plan, .ref h_this_bestPlan, .int x_this_most, .int x_this_many, .int x_this_few, .int x_this_everHome, .ref h_this_offThen, .ref h_this_paidThen, .int x_this_firstFit, .ref h_this_rows, .int x_this_rowMany, .ref h_this_sorts, .ref h_this_sizes, .ref h_this_number, .ref h_this_holds, .ref h_this_heldOne, .ref h_this_trace, .int x_this_traced, .int x_this_own, .int x_this_isParted]), (h_this_s, ia G 313 f_this_s)] r [(h_this, ob 9 [.ref h_this_s, .ref h_this_kept, .ref h_this_laid, .int x_this_isKept, .ref h_this_pile, .ref h_this_tape, .int x_this_taped, .ref h_this_letters, .int x_this_at, .int x_this_begun, .int x_this_token, .int x_this_value, .int x_this_opened, .int x_this_steps, .ref h_this_code0, .ref h_this_read, .ref h_this_saved, .ref h_this_plan, .ref h_this_bestPlan, .int x_this_most, .int x_this_many, .int x_this_few, .int x_this_everHome, .ref h_this_offThen, .ref h_this_paidThen, .int x_this_firstFit, .ref h_this_rows, .int x_this_rowMany, .ref h_this_sorts, .ref h_this_sizes, .ref h_this_number, .ref h_this_holds, .ref h_this_heldOne, .ref h_this_trace, .int x_this_traced, .int x_this_own, .int x_this_isParted]), (h_this_s, ia G 313 f_this_s)] := by
  refine mFi.of (by decide +kernel) (Nat.le_of_ble_eq_true rfl) ?_
  intro p e s m below meth c A C hr hlk h ls hl
  obtain ⟨hx, hb, hml, hown, hts⟩ := id C
  replace hl : lv_has ls 3 [(0, .ref h_this), (1, .int p0), (2, .int p1)] := hl
  unfold f_X9_ruleOf at hf
  refine lv_aload_n hx hb dX9_ruleOf_0 rfl (lv_at hl 0 rfl) ?_
  refine r_get C h fk_X9_9 0 rfl rfl dX9_ruleOf_1 ?_
  refine lv_bipush (v := (89 : Int32)) hx hb dX9_ruleOf_4 rfl ?_
  refine lv_iconst (v := (3 : Int32)) hx hb dX9_ruleOf_6 rfl ?_
  refine lv_iload_n hx hb dX9_ruleOf_7 rfl (lv_at hl 1 rfl) ?_
  refine lv_imul hx hb dX9_ruleOf_8 ?_
  refine lv_iadd hx hb dX9_ruleOf_9 ?_
  refine lv_iload_n hx hb dX9_ruleOf_10 rfl (lv_at hl 2 rfl) ?_
  refine lv_iadd hx hb dX9_ruleOf_11 ?_
  replace hf := chkI_inv hf
  obtain ⟨hi1, hf⟩ := hf
  refine r_iald C h 1 rfl hi1 dX9_ruleOf_12 ?_
  cases hf
  exact r_iret C h hr hlk rfl dX9_ruleOf_13
def f_X9_above (p0 : Int32) : Option (Int32) := (if p0 = (3 : Int32) then some (2 : Int32) else (if p0 = (5 : Int32) then some (4 : Int32) else some (0 : Int32)))
set_option maxRecDepth 100000 in
set_option maxHeartbeats 4000000 in
theorem c_X9_above {l : Launch} {G : Gt} {p0 : Int32} {r : Int32} (hf : f_X9_above p0 = some r) : mFi l G yX9_above cX9_above 1 .int 0 [.int p0] ([] : va_W) r ([] : va_W) := by
  refine mFi.of (by decide +kernel) (Nat.le_of_ble_eq_true rfl) ?_
  intro p e s m below meth c A C hr hlk h ls hl
  obtain ⟨hx, hb, hml, hown, hts⟩ := id C
  replace hl : lv_has ls 1 [(0, .int p0)] := hl
  unfold f_X9_above at hf
  refine lv_iload_n hx hb dX9_above_0 rfl (lv_at hl 0 rfl) ?_
  refine lv_iconst (v := (3 : Int32)) hx hb dX9_above_1 rfl ?_
  refine lv_icmp_ne (tgt := 9) hx hb dX9_above_2 rfl (fun c1 => ?_) (fun c1 => ?_)
  · replace hf := ifn c1 hf
    refine lv_iload_n hx hb dX9_above_9 rfl (lv_at hl 0 rfl) ?_
    refine lv_iconst (v := (5 : Int32)) hx hb dX9_above_10 rfl ?_
    refine lv_icmp_ne (tgt := 18) hx hb dX9_above_11 rfl (fun c2 => ?_) (fun c2 => ?_)
    · replace hf := ifn c2 hf
      refine lv_iconst (v := (0 : Int32)) hx hb dX9_above_18 rfl ?_
      cases hf
      exact r_iret C h hr hlk rfl dX9_above_19
    · replace hf := ifp c2 hf
      refine lv_iconst (v := (4 : Int32)) hx hb dX9_above_14 rfl ?_
      refine lv_goto (tgt := 19) hx hb dX9_above_15 rfl ?_
      cases hf
      exact r_iret C h hr hlk rfl dX9_above_19
  · replace hf := ifp c1 hf
    refine lv_iconst (v := (2 : Int32)) hx hb dX9_above_5 rfl ?_
    refine lv_goto (tgt := 19) hx hb dX9_above_6 rfl ?_
    cases hf
    exact r_iret C h hr hlk rfl dX9_above_19
def f_X9_isUnder_L2 (p1 : Int32) : Nat → Int32 → Option (Int32)
  | 0, _ => none
  | n + 1, v2 => (if v2 = p1 then (if v2 = p1 then some (1 : Int32) else some (0 : Int32)) else (if v2 = 0 then (if v2 = p1 then some (1 : Int32) else some (0 : Int32)) else bd1 (f_X9_above v2) (fun r5 => (f_X9_isUnder_L2 p1 n) r5)))
def f_X9_isUnder (p0 : Int32) (p1 : Int32) : Option (Int32) := f_X9_isUnder_L2 p1 1000 p0
set_option maxRecDepth 100000 in
set_option maxHeartbeats 4000000 in
theorem c_X9_isUnder {l : Launch} {G : Gt} {p0 : Int32} {p1 : Int32} {r : Int32} (hf : f_X9_isUnder p0 p1 = some r) : mFi l G yX9_isUnder cX9_isUnder 3 .boolean 1 [.int p0, .int p1] ([] : va_W) r ([] : va_W) := by
  refine mFi.of (by decide +kernel) (Nat.le_of_ble_eq_true rfl) ?_
  intro p e s m below meth c A C hr hlk h ls hl
  obtain ⟨hx, hb, hml, hown, hts⟩ := id C
  replace hl : lv_has ls 3 [(0, .int p0), (1, .int p1)] := hl
  unfold f_X9_isUnder at hf
  refine with_K G A 3 (fun K hK1 hK2 => ?_)
  have L2 : ∀ (n : Nat) (v2 : Int32), f_X9_isUnder_L2 p1 n v2 = some r → K 2 ([] : List Value) ([] : va_W) [(1, .int p1), (2, .int v2)] := by
    intro n
    induction n with
    | zero =>
      intro v2 hf
      replace hf : (none : Option _) = some _ := hf
      cases hf
    | succ n ih =>
      intro v2 hf
      rw [f_X9_isUnder_L2] at hf
      refine hK1 _ _ _ _ (fun H locs ls h hl => ?_)
      refine lv_iload_n hx hb dX9_isUnder_2 rfl (lv_at hl 1 rfl) ?_
      refine lv_iload_n hx hb dX9_isUnder_3 rfl (lv_at hl 0 rfl) ?_
      refine lv_icmp_eq (tgt := 19) hx hb dX9_isUnder_4 rfl (fun c1 => ?_) (fun c1 => ?_)
      · replace hf := ifp c1 hf
        refine lv_iload_n hx hb dX9_isUnder_19 rfl (lv_at hl 1 rfl) ?_
        refine lv_iload_n hx hb dX9_isUnder_20 rfl (lv_at hl 0 rfl) ?_
        refine lv_icmp_ne (tgt := 28) hx hb dX9_isUnder_21 rfl (fun c2 => ?_) (fun c2 => ?_)
        · replace hf := ifn c2 hf
          refine lv_iconst (v := (0 : Int32)) hx hb dX9_isUnder_28 rfl ?_
          cases hf
          exact r_iret C h hr hlk rfl dX9_isUnder_29
        · replace hf := ifp c2 hf
          refine lv_iconst (v := (1 : Int32)) hx hb dX9_isUnder_24 rfl ?_
          refine lv_goto (tgt := 29) hx hb dX9_isUnder_25 rfl ?_
          cases hf
          exact r_iret C h hr hlk rfl dX9_isUnder_29
      · replace hf := ifn c1 hf
        refine lv_iload_n hx hb dX9_isUnder_7 rfl (lv_at hl 1 rfl) ?_
        refine lv_if_eq (tgt := 19) hx hb dX9_isUnder_8 rfl (fun c3 => ?_) (fun c3 => ?_)
        · replace hf := ifp c3 hf
          refine lv_iload_n hx hb dX9_isUnder_19 rfl (lv_at hl 1 rfl) ?_
          refine lv_iload_n hx hb dX9_isUnder_20 rfl (lv_at hl 0 rfl) ?_
          refine lv_icmp_ne (tgt := 28) hx hb dX9_isUnder_21 rfl (fun c4 => ?_) (fun c4 => ?_)
          · replace hf := ifn c4 hf
            refine lv_iconst (v := (0 : Int32)) hx hb dX9_isUnder_28 rfl ?_
            cases hf
            exact r_iret C h hr hlk rfl dX9_isUnder_29
          · replace hf := ifp c4 hf
            refine lv_iconst (v := (1 : Int32)) hx hb dX9_isUnder_24 rfl ?_
            refine lv_goto (tgt := 29) hx hb dX9_isUnder_25 rfl ?_
            cases hf
            exact r_iret C h hr hlk rfl dX9_isUnder_29
        · replace hf := ifn c3 hf
          refine lv_iload_n hx hb dX9_isUnder_11 rfl (lv_at hl 1 rfl) ?_
          replace hf := bd1_inv hf
          obtain ⟨r5, hc6, hf⟩ := hf
          refine r_ciS0 C h (c_X9_above hc6) ms_X9_75 rfl [] rfl rfl hl.1 rfl (Nat.le_of_ble_eq_true rfl) (rok (by decide)) dX9_isUnder_12 (fun H locs h => ?_)
          refine lv_istore_n (lv' := [(2, .int r5), (1, .int p1)]) hx hb dX9_isUnder_15 rfl hl (by decide) rfl (fun ls hl => ?_)
          refine lv_goto (tgt := 2) hx hb dX9_isUnder_16 rfl ?_
          exact hK2 _ _ _ _ (ih r5 hf) _ _ _ h (lv_sub hl [1, 0] rfl)
  refine lv_iload_n hx hb dX9_isUnder_0 rfl (lv_at hl 0 rfl) ?_
  refine lv_istore_n (lv' := [(2, .int p0), (0, .int p0), (1, .int p1)]) hx hb dX9_isUnder_1 rfl hl (by decide) rfl (fun ls hl => ?_)
  exact hK2 _ _ _ _ (L2 1000 p0 hf) _ _ _ h (lv_sub hl [2, 0] rfl)
def f_X9_knownOf (p0 : Int32) (p1 : Int32) (f_this_s : Nat → Int32) : Option (Int32) := (if p0 = 0 then some (f_this_s 0) else (if p0 = (1 : Int32) then bd1 (f_X9_get p1 (1 : Int32) f_this_s) (fun r9 => some r9) else (if p0 = (2 : Int32) then bd1 (f_X9_get p1 (2 : Int32) f_this_s) (fun r7 => some r7) else (if p0 = (3 : Int32) then bd1 (f_X9_lightNow f_this_s) (fun r5 => some (r5 / (4 : Int32))) else some p1))))
set_option maxRecDepth 100000 in
set_option maxHeartbeats 4000000 in
theorem c_X9_knownOf {l : Launch} {G : Gt} {h_this h_this_s h_this_kept h_this_laid h_this_pile h_this_tape h_this_letters h_this_code0 h_this_read h_this_saved h_this_plan h_this_bestPlan h_this_offThen h_this_paidThen h_this_rows h_this_sorts h_this_sizes h_this_number h_this_holds h_this_heldOne h_this_trace : Nat} {p0 : Int32} {p1 : Int32} {x_this_isKept : Int32} {x_this_taped : Int32} {x_this_at : Int32} {x_this_begun : Int32} {x_this_token : Int32} {x_this_value : Int32} {x_this_opened : Int32} {x_this_steps : Int32} {x_this_most : Int32} {x_this_many : Int32} {x_this_few : Int32} {x_this_everHome : Int32} {x_this_firstFit : Int32} {x_this_rowMany : Int32} {x_this_traced : Int32} {x_this_own : Int32} {x_this_isParted : Int32} {f_this_s : Nat → Int32} {r : Int32} (hf : f_X9_knownOf p0 p1 f_this_s = some r) : mFi l G yX9_knownOf cX9_knownOf 3 .int 1 [.ref h_this, .int p0, .int p1] [(h_this, ob 9 [.ref h_this_s, .ref h_this_kept, .ref h_this_laid, .int x_this_isKept, .ref h_this_pile, .ref h_this_tape, .int x_this_taped, .ref h_this_letters, .int x_this_at, .int x_this_begun, .int x_this_token, .int x_this_value, .int x_this_opened, .int x_this_steps, .ref h_this_code0, .ref h_this_read, .ref h_this_saved, .ref h_this_plan, .ref h_this_bestPlan, .int x_this_most, .int x_this_many, .int x_this_few, .int x_this_everHome, .ref h_this_offThen, .ref h_this_paidThen, .int x_this_firstFit, .ref h_this_rows, .int x_this_rowMany, .ref h_this_sorts, .ref h_this_sizes, .ref h_this_number, .ref h_this_holds, .ref h_this_heldOne, .ref h_this_trace, .int x_this_traced, .int x_this_own, .int x_this_isParted]), (h_this_s, ia G 313 f_this_s)] r [(h_this, ob 9 [.ref h_this_s, .ref h_this_kept, .ref h_this_laid, .int x_this_isKept, .ref h_this_pile, .ref h_this_tape, .int x_this_taped, .ref h_this_letters, .int x_this_at, .int x_this_begun, .int x_this_token, .int x_this_value, .int x_this_opened, .int x_this_steps, .ref h_this_code0, .ref h_this_read, .ref h_this_saved, .ref h_this_plan, .ref h_this_bestPlan, .int x_this_most, .int x_this_many, .int x_this_few, .int x_this_everHome, .ref h_this_offThen, .ref h_this_paidThen, .int x_this_firstFit, .ref h_this_rows, .int x_this_rowMany, .ref h_this_sorts, .ref h_this_sizes, .ref h_this_number, .ref h_this_holds, .ref h_this_heldOne, .ref h_this_trace, .int x_this_traced, .int x_this_own, .int x_this_isParted]), (h_this_s, ia G 313 f_this_s)] := by
  refine mFi.of (by decide +kernel) (Nat.le_of_ble_eq_true rfl) ?_
  intro p e s m below meth c A C hr hlk h ls hl
  obtain ⟨hx, hb, hml, hown, hts⟩ := id C
  replace hl : lv_has ls 3 [(0, .ref h_this), (1, .int p0), (2, .int p1)] := hl
  unfold f_X9_knownOf at hf
  refine lv_iload_n hx hb dX9_knownOf_0 rfl (lv_at hl 1 rfl) ?_
  refine lv_if_ne (tgt := 13) hx hb dX9_knownOf_1 rfl (fun c1 => ?_) (fun c1 => ?_)
  · replace hf := ifn c1 hf
    refine lv_iload_n hx hb dX9_knownOf_13 rfl (lv_at hl 1 rfl) ?_
    refine lv_iconst (v := (1 : Int32)) hx hb dX9_knownOf_14 rfl ?_
    refine lv_icmp_ne (tgt := 27) hx hb dX9_knownOf_15 rfl (fun c2 => ?_) (fun c2 => ?_)
    · replace hf := ifn c2 hf
      refine lv_iload_n hx hb dX9_knownOf_27 rfl (lv_at hl 1 rfl) ?_
      refine lv_iconst (v := (2 : Int32)) hx hb dX9_knownOf_28 rfl ?_
      refine lv_icmp_ne (tgt := 41) hx hb dX9_knownOf_29 rfl (fun c3 => ?_) (fun c3 => ?_)
      · replace hf := ifn c3 hf
        refine lv_iload_n hx hb dX9_knownOf_41 rfl (lv_at hl 1 rfl) ?_
        refine lv_iconst (v := (3 : Int32)) hx hb dX9_knownOf_42 rfl ?_
        refine lv_icmp_ne (tgt := 55) hx hb dX9_knownOf_43 rfl (fun c4 => ?_) (fun c4 => ?_)
        · replace hf := ifn c4 hf
          refine lv_iload_n hx hb dX9_knownOf_55 rfl (lv_at hl 2 rfl) ?_
          cases hf
          exact r_iret C h hr hlk rfl dX9_knownOf_56
        · replace hf := ifp c4 hf
          refine lv_aload_n hx hb dX9_knownOf_46 rfl (lv_at hl 0 rfl) ?_
          replace hf := bd1_inv hf
          obtain ⟨r5, hc6, hf⟩ := hf
          refine r_ciV0 C h (c_X9_lightNow hc6) mv_X9_83 rfl 0 rfl [0, 1] rfl rfl hl.1 rfl (Nat.le_of_ble_eq_true rfl) (rok (by decide)) dX9_knownOf_47 (fun H locs h => ?_)
          refine lv_iconst (v := (4 : Int32)) hx hb dX9_knownOf_50 rfl ?_
          refine lv_idiv hx hb dX9_knownOf_51 (by decide) ?_
          refine lv_goto (tgt := 56) hx hb dX9_knownOf_52 rfl ?_
          cases hf
          exact r_iret C h hr hlk rfl dX9_knownOf_56
      · replace hf := ifp c3 hf
        refine lv_aload_n hx hb dX9_knownOf_32 rfl (lv_at hl 0 rfl) ?_
        refine lv_iload_n hx hb dX9_knownOf_33 rfl (lv_at hl 2 rfl) ?_
        refine lv_iconst (v := (2 : Int32)) hx hb dX9_knownOf_34 rfl ?_
        replace hf := bd1_inv hf
        obtain ⟨r7, hc8, hf⟩ := hf
        refine r_ciV0 C h (c_X9_get hc8) mv_X9_79 rfl 0 rfl [0, 1] rfl rfl hl.1 rfl (Nat.le_of_ble_eq_true rfl) (rok (by decide)) dX9_knownOf_35 (fun H locs h => ?_)
        refine lv_goto (tgt := 56) hx hb dX9_knownOf_38 rfl ?_
        cases hf
        exact r_iret C h hr hlk rfl dX9_knownOf_56
    · replace hf := ifp c2 hf
      refine lv_aload_n hx hb dX9_knownOf_18 rfl (lv_at hl 0 rfl) ?_
      refine lv_iload_n hx hb dX9_knownOf_19 rfl (lv_at hl 2 rfl) ?_
      refine lv_iconst (v := (1 : Int32)) hx hb dX9_knownOf_20 rfl ?_
      replace hf := bd1_inv hf
      obtain ⟨r9, hc10, hf⟩ := hf
      refine r_ciV0 C h (c_X9_get hc10) mv_X9_79 rfl 0 rfl [0, 1] rfl rfl hl.1 rfl (Nat.le_of_ble_eq_true rfl) (rok (by decide)) dX9_knownOf_21 (fun H locs h => ?_)
      refine lv_goto (tgt := 56) hx hb dX9_knownOf_24 rfl ?_
      cases hf
      exact r_iret C h hr hlk rfl dX9_knownOf_56
  · replace hf := ifp c1 hf
    refine lv_aload_n hx hb dX9_knownOf_4 rfl (lv_at hl 0 rfl) ?_
    refine r_get C h fk_X9_9 0 rfl rfl dX9_knownOf_5 ?_
    refine lv_iconst (v := (0 : Int32)) hx hb dX9_knownOf_8 rfl ?_
    refine r_ialdL C h 1 rfl (vlit rfl) 0 rfl dX9_knownOf_9 ?_
    refine lv_goto (tgt := 56) hx hb dX9_knownOf_10 rfl ?_
    cases hf
    exact r_iret C h hr hlk rfl dX9_knownOf_56
def f_X9_joined (p0 : Int32) (p1 : Int32) (p2 : Int32) : Option (Int32) := (if p0 = (10010 : Int32) then (if p2 ≤ p1 then some (0 : Int32) else some (1 : Int32)) else (if p0 = (10011 : Int32) then (if p1 = p2 then some (1 : Int32) else some (0 : Int32)) else (if p0 = (10012 : Int32) then (if p1 ≤ p2 then some (0 : Int32) else some (1 : Int32)) else (if p0 = (10013 : Int32) then (if p1 = 0 then some (0 : Int32) else (if p2 = 0 then some (0 : Int32) else some (1 : Int32))) else (if p1 = 0 then (if p2 = 0 then some (0 : Int32) else some (1 : Int32)) else some (1 : Int32))))))
set_option maxRecDepth 100000 in
set_option maxHeartbeats 4000000 in
theorem c_X9_joined {l : Launch} {G : Gt} {p0 : Int32} {p1 : Int32} {p2 : Int32} {r : Int32} (hf : f_X9_joined p0 p1 p2 = some r) : mFi l G yX9_joined cX9_joined 3 .int 0 [.int p0, .int p1, .int p2] ([] : va_W) r ([] : va_W) := by
  refine mFi.of (by decide +kernel) (Nat.le_of_ble_eq_true rfl) ?_
  intro p e s m below meth c A C hr hlk h ls hl
  obtain ⟨hx, hb, hml, hown, hts⟩ := id C
  replace hl : lv_has ls 3 [(0, .int p0), (1, .int p1), (2, .int p2)] := hl
  unfold f_X9_joined at hf
  refine lv_iload_n hx hb dX9_joined_0 rfl (lv_at hl 0 rfl) ?_
  by_cases c1 : p0 = (10010 : Int32)
  · replace hf := ifp c1 hf
    refine r_tab (tgt := 32) C dX9_joined_1 (10010 : Int32) c1 (by decide) rfl rfl ?_
    refine lv_iload_n hx hb dX9_joined_32 rfl (lv_at hl 1 rfl) ?_
    refine lv_iload_n hx hb dX9_joined_33 rfl (lv_at hl 2 rfl) ?_
    refine lv_icmp_ge (tgt := 41) hx hb dX9_joined_34 rfl (fun c5 => ?_) (fun c5 => ?_)
    · replace hf := ifp c5 hf
      refine lv_iconst (v := (0 : Int32)) hx hb dX9_joined_41 rfl ?_
      cases hf
      exact r_iret C h hr hlk rfl dX9_joined_42
    · replace hf := ifn c5 hf
      refine lv_iconst (v := (1 : Int32)) hx hb dX9_joined_37 rfl ?_
      refine lv_goto (tgt := 42) hx hb dX9_joined_38 rfl ?_
      cases hf
      exact r_iret C h hr hlk rfl dX9_joined_42
  · replace hf := ifn c1 hf
    by_cases c2 : p0 = (10011 : Int32)
    · replace hf := ifp c2 hf
      refine r_tab (tgt := 43) C dX9_joined_1 (10011 : Int32) c2 (by decide) rfl rfl ?_
      refine lv_iload_n hx hb dX9_joined_43 rfl (lv_at hl 1 rfl) ?_
      refine lv_iload_n hx hb dX9_joined_44 rfl (lv_at hl 2 rfl) ?_
      refine lv_icmp_ne (tgt := 52) hx hb dX9_joined_45 rfl (fun c6 => ?_) (fun c6 => ?_)
      · replace hf := ifn c6 hf
        refine lv_iconst (v := (0 : Int32)) hx hb dX9_joined_52 rfl ?_
        cases hf
        exact r_iret C h hr hlk rfl dX9_joined_53
      · replace hf := ifp c6 hf
        refine lv_iconst (v := (1 : Int32)) hx hb dX9_joined_48 rfl ?_
        refine lv_goto (tgt := 53) hx hb dX9_joined_49 rfl ?_
        cases hf
        exact r_iret C h hr hlk rfl dX9_joined_53
    · replace hf := ifn c2 hf
      by_cases c3 : p0 = (10012 : Int32)
      · replace hf := ifp c3 hf
        refine r_tab (tgt := 54) C dX9_joined_1 (10012 : Int32) c3 (by decide) rfl rfl ?_
        refine lv_iload_n hx hb dX9_joined_54 rfl (lv_at hl 1 rfl) ?_
        refine lv_iload_n hx hb dX9_joined_55 rfl (lv_at hl 2 rfl) ?_
        refine lv_icmp_le (tgt := 63) hx hb dX9_joined_56 rfl (fun c7 => ?_) (fun c7 => ?_)
        · replace hf := ifp c7 hf
          refine lv_iconst (v := (0 : Int32)) hx hb dX9_joined_63 rfl ?_
          cases hf
          exact r_iret C h hr hlk rfl dX9_joined_64
        · replace hf := ifn c7 hf
          refine lv_iconst (v := (1 : Int32)) hx hb dX9_joined_59 rfl ?_
          refine lv_goto (tgt := 64) hx hb dX9_joined_60 rfl ?_
          cases hf
          exact r_iret C h hr hlk rfl dX9_joined_64
      · replace hf := ifn c3 hf
        by_cases c4 : p0 = (10013 : Int32)
        · replace hf := ifp c4 hf
          refine r_tab (tgt := 65) C dX9_joined_1 (10013 : Int32) c4 (by decide) rfl rfl ?_
          refine lv_iload_n hx hb dX9_joined_65 rfl (lv_at hl 1 rfl) ?_
          refine lv_if_eq (tgt := 77) hx hb dX9_joined_66 rfl (fun c8 => ?_) (fun c8 => ?_)
          · replace hf := ifp c8 hf
            refine lv_iconst (v := (0 : Int32)) hx hb dX9_joined_77 rfl ?_
            cases hf
            exact r_iret C h hr hlk rfl dX9_joined_78
          · replace hf := ifn c8 hf
            refine lv_iload_n hx hb dX9_joined_69 rfl (lv_at hl 2 rfl) ?_
            refine lv_if_eq (tgt := 77) hx hb dX9_joined_70 rfl (fun c9 => ?_) (fun c9 => ?_)
            · replace hf := ifp c9 hf
              refine lv_iconst (v := (0 : Int32)) hx hb dX9_joined_77 rfl ?_
              cases hf
              exact r_iret C h hr hlk rfl dX9_joined_78
            · replace hf := ifn c9 hf
              refine lv_iconst (v := (1 : Int32)) hx hb dX9_joined_73 rfl ?_
              refine lv_goto (tgt := 78) hx hb dX9_joined_74 rfl ?_
              cases hf
              exact r_iret C h hr hlk rfl dX9_joined_78
        · replace hf := ifn c4 hf
          refine r_tabD (tgt := 79) C dX9_joined_1 [(10010 : Int32), (10011 : Int32), (10012 : Int32), (10013 : Int32)] (by decide) (nel_c c1 (nel_c c2 (nel_c c3 (nel_c c4 nel_0)))) rfl ?_
          refine lv_iload_n hx hb dX9_joined_79 rfl (lv_at hl 1 rfl) ?_
          refine lv_if_ne (tgt := 87) hx hb dX9_joined_80 rfl (fun c10 => ?_) (fun c10 => ?_)
          · replace hf := ifn c10 hf
            refine lv_iconst (v := (1 : Int32)) hx hb dX9_joined_87 rfl ?_
            refine lv_goto (tgt := 92) hx hb dX9_joined_88 rfl ?_
            cases hf
            exact r_iret C h hr hlk rfl dX9_joined_92
          · replace hf := ifp c10 hf
            refine lv_iload_n hx hb dX9_joined_83 rfl (lv_at hl 2 rfl) ?_
            refine lv_if_eq (tgt := 91) hx hb dX9_joined_84 rfl (fun c11 => ?_) (fun c11 => ?_)
            · replace hf := ifp c11 hf
              refine lv_iconst (v := (0 : Int32)) hx hb dX9_joined_91 rfl ?_
              cases hf
              exact r_iret C h hr hlk rfl dX9_joined_92
            · replace hf := ifn c11 hf
              refine lv_iconst (v := (1 : Int32)) hx hb dX9_joined_87 rfl ?_
              refine lv_goto (tgt := 92) hx hb dX9_joined_88 rfl ?_
              cases hf
              exact r_iret C h hr hlk rfl dX9_joined_92
