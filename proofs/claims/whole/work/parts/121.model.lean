set_option maxRecDepth 100000 in
set_option maxHeartbeats 4000000 in
theorem c_X9_in1 {l : Launch} {G : Gt} {p0 : Int32} {p1 : Int32} {p2 : Int32} {r : Int32} (hf : f_X9_in1 p0 p1 p2 = some r) : mFi l G yX9_in1 cX9_in1 3 .boolean 0 [.int p0, .int p1, .int p2] ([] : va_W) r ([] : va_W) := by
  refine mFi.of (by decide +kernel) (Nat.le_of_ble_eq_true rfl) ?_
  intro p e s m below meth c A C hr hlk h ls hl
  obtain ⟨hx, hb, hml, hown, hts⟩ := id C
  replace hl : lv_has ls 3 [(0, .int p0), (1, .int p1), (2, .int p2)] := hl
  unfold f_X9_in1 at hf
  refine lv_iload_n hx hb dX9_in1_0 rfl (lv_at hl 0 rfl) ?_
  refine lv_iload_n hx hb dX9_in1_1 rfl (lv_at hl 1 rfl) ?_
  refine lv_icmp_lt (tgt := 14) hx hb dX9_in1_2 rfl (fun c1 => ?_) (fun c1 => ?_)
  · replace hf := ifp c1 hf
    refine lv_iconst (v := (0 : Int32)) hx hb dX9_in1_14 rfl ?_
    cases hf
    exact r_iret C h hr hlk rfl dX9_in1_15
  · replace hf := ifn c1 hf
    refine lv_iload_n hx hb dX9_in1_5 rfl (lv_at hl 0 rfl) ?_
    refine lv_iload_n hx hb dX9_in1_6 rfl (lv_at hl 2 rfl) ?_
    refine lv_icmp_gt (tgt := 14) hx hb dX9_in1_7 rfl (fun c2 => ?_) (fun c2 => ?_)
    · replace hf := ifp c2 hf
      refine lv_iconst (v := (0 : Int32)) hx hb dX9_in1_14 rfl ?_
      cases hf
      exact r_iret C h hr hlk rfl dX9_in1_15
    · replace hf := ifn c2 hf
      refine lv_iconst (v := (1 : Int32)) hx hb dX9_in1_10 rfl ?_
      refine lv_goto (tgt := 15) hx hb dX9_in1_11 rfl ?_
      cases hf
      exact r_iret C h hr hlk rfl dX9_in1_15
set_option maxRecDepth 100000 in
set_option maxHeartbeats 4000000 in
theorem c_X9_isDigit {l : Launch} {G : Gt} {p0 : Int32} {r : Int32} (hf : f_X9_isDigit p0 = some r) : mFi l G yX9_isDigit cX9_isDigit 1 .boolean 1 [.int p0] ([] : va_W) r ([] : va_W) := by
  refine mFi.of (by decide +kernel) (Nat.le_of_ble_eq_true rfl) ?_
  intro p e s m below meth c A C hr hlk h ls hl
  obtain ⟨hx, hb, hml, hown, hts⟩ := id C
  replace hl : lv_has ls 1 [(0, .int p0)] := hl
  unfold f_X9_isDigit at hf
  refine lv_iload_n hx hb dX9_isDigit_0 rfl (lv_at hl 0 rfl) ?_
  refine lv_iconst (v := (0 : Int32)) hx hb dX9_isDigit_1 rfl ?_
  refine lv_bipush (v := (9 : Int32)) hx hb dX9_isDigit_2 rfl ?_
  replace hf := bd1_inv hf
  obtain ⟨r1, hc2, hf⟩ := hf
  refine r_ciS0 C h (c_X9_in1 hc2) ms_X9_71 rfl [] rfl rfl hl.1 rfl (Nat.le_of_ble_eq_true rfl) (rok (by decide)) dX9_isDigit_4 (fun H locs h => ?_)
  replace hf := chkB_inv hf
  obtain ⟨hb3, hf⟩ := hf
  cases hf
  exact r_iret C h hr hlk hb3 dX9_isDigit_7
set_option maxRecDepth 100000 in
set_option maxHeartbeats 4000000 in
theorem c_X9_isLane {l : Launch} {G : Gt} {p0 : Int32} {r : Int32} (hf : f_X9_isLane p0 = some r) : mFi l G yX9_isLane cX9_isLane 1 .boolean 1 [.int p0] ([] : va_W) r ([] : va_W) := by
  refine mFi.of (by decide +kernel) (Nat.le_of_ble_eq_true rfl) ?_
  intro p e s m below meth c A C hr hlk h ls hl
  obtain ⟨hx, hb, hml, hown, hts⟩ := id C
  replace hl : lv_has ls 1 [(0, .int p0)] := hl
  unfold f_X9_isLane at hf
  refine lv_iload_n hx hb dX9_isLane_0 rfl (lv_at hl 0 rfl) ?_
  refine lv_iconst (v := (0 : Int32)) hx hb dX9_isLane_1 rfl ?_
  refine lv_iconst (v := (5 : Int32)) hx hb dX9_isLane_2 rfl ?_
  replace hf := bd1_inv hf
  obtain ⟨r1, hc2, hf⟩ := hf
  refine r_ciS0 C h (c_X9_in1 hc2) ms_X9_71 rfl [] rfl rfl hl.1 rfl (Nat.le_of_ble_eq_true rfl) (rok (by decide)) dX9_isLane_3 (fun H locs h => ?_)
  replace hf := chkB_inv hf
  obtain ⟨hb3, hf⟩ := hf
  cases hf
  exact r_iret C h hr hlk hb3 dX9_isLane_6
set_option maxRecDepth 100000 in
set_option maxHeartbeats 4000000 in
theorem c_X9_puts {l : Launch} {G : Gt} {h_this h_this_s h_this_kept h_this_laid h_this_pile h_this_tape h_this_letters h_this_code0 h_this_read h_this_saved h_this_plan h_this_bestPlan h_this_offThen h_this_paidThen h_this_rows h_this_sorts h_this_sizes h_this_number h_this_holds h_this_heldOne h_this_trace : Nat} {p0 : Int32} {p1 : Int32} {p2 : Int32} {x_this_isKept : Int32} {x_this_taped : Int32} {x_this_at : Int32} {x_this_begun : Int32} {x_this_token : Int32} {x_this_value : Int32} {x_this_opened : Int32} {x_this_steps : Int32} {x_this_most : Int32} {x_this_many : Int32} {x_this_few : Int32} {x_this_everHome : Int32} {x_this_firstFit : Int32} {x_this_rowMany : Int32} {x_this_traced : Int32} {x_this_own : Int32} {x_this_isParted : Int32} {f_this_s : Nat → Int32} {m_this_s : Nat → Int32} (hf : f_X9_puts p0 p1 p2 f_this_s = some m_this_s) : mFv l G yX9_puts cX9_puts 4 0 [.ref h_this, .int p0, .int p1, .int p2] [(h_this, ob 9 [.ref h_this_s, .ref h_this_kept, .ref h_this_laid, .int x_this_isKept, .ref h_this_pile, .ref h_this_tape, .int x_this_taped, .ref h_this_letters, .int x_this_at, .int x_this_begun, .int x_this_token, .int x_this_value, .int x_this_opened, .int x_this_steps, .ref h_this_code0, .ref h_this_read, .ref h_this_saved, .ref h_this_plan, .ref h_this_bestPlan, .int x_this_most, .int x_this_many, .int x_this_few, .int x_this_everHome, .ref h_this_offThen, .ref h_this_paidThen, .int x_this_firstFit, .ref h_this_rows, .int x_this_rowMany, .ref h_this_sorts, .ref h_this_sizes, .ref h_this_number, .ref h_this_holds, .ref h_this_heldOne, .ref h_this_trace, .int x_this_traced, .int x_this_own, .int x_this_isParted]), (h_this_s, ia G 313 f_this_s)] [(h_this, ob 9 [.ref h_this_s, .ref h_this_kept, .ref h_this_laid, .int x_this_isKept, .ref h_this_pile, .ref h_this_tape, .int x_this_taped, .ref h_this_letters, .int x_this_at, .int x_this_begun, .int x_this_token, .int x_this_value, .int x_this_opened, .int x_this_steps, .ref h_this_code0, .ref h_this_read, .ref h_this_saved, .ref h_this_plan, .ref h_this_bestPlan, .int x_this_most, .int x_this_many, .int x_this_few, .int x_this_everHome, .ref h_this_offThen, .ref h_this_paidThen, .int x_this_firstFit, .ref h_this_rows, .int x_this_rowMany, .ref h_this_sorts, .ref h_this_sizes, .ref h_this_number, .ref h_this_holds, .ref h_this_heldOne, .ref h_this_trace, .int x_this_traced, .int x_this_own, .int x_this_isParted]), (h_this_s, ia G 313 m_this_s)] := by
  refine mFv.of (by decide +kernel) (Nat.le_of_ble_eq_true rfl) ?_
  intro p e s m below meth c A C hr hlk h ls hl
  obtain ⟨hx, hb, hml, hown, hts⟩ := id C
  replace hl : lv_has ls 4 [(0, .ref h_this), (1, .int p0), (2, .int p1), (3, .int p2)] := hl
  unfold f_X9_puts at hf
  refine lv_aload_n hx hb dX9_puts_0 rfl (lv_at hl 0 rfl) ?_
  refine r_get C h fk_X9_9 0 rfl rfl dX9_puts_1 ?_
  refine lv_bipush (v := (35 : Int32)) hx hb dX9_puts_4 rfl ?_
  refine lv_iconst (v := (5 : Int32)) hx hb dX9_puts_6 rfl ?_
  refine lv_iload_n hx hb dX9_puts_7 rfl (lv_at hl 1 rfl) ?_
  refine lv_imul hx hb dX9_puts_8 ?_
  refine lv_iadd hx hb dX9_puts_9 ?_
  refine lv_iload_n hx hb dX9_puts_10 rfl (lv_at hl 2 rfl) ?_
  refine lv_iadd hx hb dX9_puts_11 ?_
  refine lv_iload_n hx hb dX9_puts_12 rfl (lv_at hl 3 rfl) ?_
  replace hf := chkI_inv hf
  obtain ⟨hi1, hf⟩ := hf
  refine r_iast (ws' := [(h_this, ob 9 [.ref h_this_s, .ref h_this_kept, .ref h_this_laid, .int x_this_isKept, .ref h_this_pile, .ref h_this_tape, .int x_this_taped, .ref h_this_letters, .int x_this_at, .int x_this_begun, .int x_this_token, .int x_this_value, .int x_this_opened, .int x_this_steps, .ref h_this_code0, .ref h_this_read, .ref h_this_saved, .ref h_this_plan, .ref h_this_bestPlan, .int x_this_most, .int x_this_many, .int x_this_few, .int x_this_everHome, .ref h_this_offThen, .ref h_this_paidThen, .int x_this_firstFit, .ref h_this_rows, .int x_this_rowMany, .ref h_this_sorts, .ref h_this_sizes, .ref h_this_number, .ref h_this_holds, .ref h_this_heldOne, .ref h_this_trace, .int x_this_traced, .int x_this_own, .int x_this_isParted]), (h_this_s, ia G 313 (upd f_this_s (((35 : Int32) + ((5 : Int32) * p0)) + p1).toNatClampNeg p2))]) C h 1 rfl hi1 dX9_puts_13 rfl (fun H locs h => ?_)
  cases hf
  exact r_vret C h hr hlk dX9_puts_14
set_option maxRecDepth 100000 in
set_option maxHeartbeats 4000000 in
theorem c_X9_ship {l : Launch} {G : Gt} {h_this h_this_s h_this_kept h_this_laid h_this_pile h_this_tape h_this_letters h_this_code0 h_this_read h_this_saved h_this_plan h_this_bestPlan h_this_offThen h_this_paidThen h_this_rows h_this_sorts h_this_sizes h_this_number h_this_holds h_this_heldOne h_this_trace : Nat} {p0 : Int32} {p1 : Int32} {p2 : Int32} {p3 : Int32} {x_this_isKept : Int32} {x_this_taped : Int32} {x_this_at : Int32} {x_this_begun : Int32} {x_this_token : Int32} {x_this_value : Int32} {x_this_opened : Int32} {x_this_steps : Int32} {x_this_most : Int32} {x_this_many : Int32} {x_this_few : Int32} {x_this_everHome : Int32} {x_this_firstFit : Int32} {x_this_rowMany : Int32} {x_this_traced : Int32} {x_this_own : Int32} {x_this_isParted : Int32} {f_this_s : Nat → Int32} {r : Int32} {m_this_s : Nat → Int32} (hf : f_X9_ship p0 p1 p2 p3 f_this_s = some (r, m_this_s)) : mFi l G yX9_ship cX9_ship 6 .int 2 [.ref h_this, .int p0, .int p1, .int p2, .int p3] [(h_this, ob 9 [.ref h_this_s, .ref h_this_kept, .ref h_this_laid, .int x_this_isKept, .ref h_this_pile, .ref h_this_tape, .int x_this_taped, .ref h_this_letters, .int x_this_at, .int x_this_begun, .int x_this_token, .int x_this_value, .int x_this_opened, .int x_this_steps, .ref h_this_code0, .ref h_this_read, .ref h_this_saved, .ref h_this_plan, .ref h_this_bestPlan, .int x_this_most, .int x_this_many, .int x_this_few, .int x_this_everHome, .ref h_this_offThen, .ref h_this_paidThen, .int x_this_firstFit, .ref h_this_rows, .int x_this_rowMany, .ref h_this_sorts, .ref h_this_sizes, .ref h_this_number, .ref h_this_holds, .ref h_this_heldOne, .ref h_this_trace, .int x_this_traced, .int x_this_own, .int x_this_isParted]), (h_this_s, ia G 313 f_this_s)] r [(h_this, ob 9 [.ref h_this_s, .ref h_this_kept, .ref h_this_laid, .int x_this_isKept, .ref h_this_pile, .ref h_this_tape, .int x_this_taped, .ref h_this_letters, .int x_this_at, .int x_this_begun, .int x_this_token, .int x_this_value, .int x_this_opened, .int x_this_steps, .ref h_this_code0, .ref h_this_read, .ref h_this_saved, .ref h_this_plan, .ref h_this_bestPlan, .int x_this_most, .int x_this_many, .int x_this_few, .int x_this_everHome, .ref h_this_offThen, .ref h_this_paidThen, .int x_this_firstFit, .ref h_this_rows, .int x_this_rowMany, .ref h_this_sorts, .ref h_this_sizes, .ref h_this_number, .ref h_this_holds, .ref h_this_heldOne, .ref h_this_trace, .int x_this_traced, .int x_this_own, .int x_this_isParted]), (h_this_s, ia G 313 m_this_s)] := by
  refine mFi.of (by decide +kernel) (Nat.le_of_ble_eq_true rfl) ?_
  intro p e s m below meth c A C hr hlk h ls hl
  obtain ⟨hx, hb, hml, hown, hts⟩ := id C
  replace hl : lv_has ls 6 [(0, .ref h_this), (1, .int p0), (2, .int p1), (3, .int p2), (4, .int p3)] := hl
  unfold f_X9_ship at hf
  refine lv_iload_n hx hb dX9_ship_0 rfl (lv_at hl 1 rfl) ?_
  refine lv_iconst (v := (1 : Int32)) hx hb dX9_ship_1 rfl ?_
  refine lv_iconst (v := (5 : Int32)) hx hb dX9_ship_2 rfl ?_
  replace hf := bd1_inv hf
  obtain ⟨r1, hc2, hf⟩ := hf
  refine r_ciS0 C h (c_X9_in1 hc2) ms_X9_71 rfl [] rfl rfl hl.1 rfl (Nat.le_of_ble_eq_true rfl) (rok (by decide)) dX9_ship_3 (fun H locs h => ?_)
  refine lv_if_eq (tgt := 34) hx hb dX9_ship_6 rfl (fun c3 => ?_) (fun c3 => ?_)
  · replace hf := ifp c3 hf
    refine lv_iconst (v := (-1 : Int32)) hx hb dX9_ship_34 rfl ?_
    cases hf
    exact r_iret C h hr hlk rfl dX9_ship_35
  · replace hf := ifn c3 hf
    refine lv_iload_n hx hb dX9_ship_9 rfl (lv_at hl 2 rfl) ?_
    refine lv_iconst (v := (0 : Int32)) hx hb dX9_ship_10 rfl ?_
    refine lv_bipush (v := (99 : Int32)) hx hb dX9_ship_11 rfl ?_
    replace hf := bd1_inv hf
    obtain ⟨r4, hc5, hf⟩ := hf
    refine r_ciS0 C h (c_X9_in1 hc5) ms_X9_71 rfl [] rfl rfl hl.1 rfl (Nat.le_of_ble_eq_true rfl) (rok (by decide)) dX9_ship_13 (fun H locs h => ?_)
    refine lv_if_eq (tgt := 34) hx hb dX9_ship_16 rfl (fun c6 => ?_) (fun c6 => ?_)
    · replace hf := ifp c6 hf
      refine lv_iconst (v := (-1 : Int32)) hx hb dX9_ship_34 rfl ?_
      cases hf
      exact r_iret C h hr hlk rfl dX9_ship_35
    · replace hf := ifn c6 hf
      refine lv_iload_n hx hb dX9_ship_19 rfl (lv_at hl 3 rfl) ?_
      replace hf := bd1_inv hf
      obtain ⟨r7, hc8, hf⟩ := hf
      refine r_ciS0 C h (c_X9_isDigit hc8) ms_X9_220 rfl [] rfl rfl hl.1 rfl (Nat.le_of_ble_eq_true rfl) (rok (by decide)) dX9_ship_20 (fun H locs h => ?_)
      refine lv_if_eq (tgt := 34) hx hb dX9_ship_23 rfl (fun c9 => ?_) (fun c9 => ?_)
      · replace hf := ifp c9 hf
        refine lv_iconst (v := (-1 : Int32)) hx hb dX9_ship_34 rfl ?_
        cases hf
        exact r_iret C h hr hlk rfl dX9_ship_35
      · replace hf := ifn c9 hf
        refine lv_iload hx hb dX9_ship_26 (lv_at hl 4 rfl) ?_
        replace hf := bd1_inv hf
        obtain ⟨r10, hc11, hf⟩ := hf
        refine r_ciS0 C h (c_X9_isLane hc11) ms_X9_223 rfl [] rfl rfl hl.1 rfl (Nat.le_of_ble_eq_true rfl) (rok (by decide)) dX9_ship_28 (fun H locs h => ?_)
        refine lv_if_ne (tgt := 36) hx hb dX9_ship_31 rfl (fun c12 => ?_) (fun c12 => ?_)
        · replace hf := ifn c12 hf
          refine lv_aload_n hx hb dX9_ship_36 rfl (lv_at hl 0 rfl) ?_
          refine r_get C h fk_X9_9 0 rfl rfl dX9_ship_37 ?_
          refine lv_iconst (v := (4 : Int32)) hx hb dX9_ship_40 rfl ?_
          refine r_ialdL C h 1 rfl (vlit rfl) 4 rfl dX9_ship_41 ?_
          refine lv_bipush (v := (6 : Int32)) hx hb dX9_ship_42 rfl ?_
          refine lv_icmp_ne (tgt := 50) hx hb dX9_ship_44 rfl (fun c13 => ?_) (fun c13 => ?_)
          · replace hf := ifn c13 hf
            refine lv_aload_n hx hb dX9_ship_50 rfl (lv_at hl 0 rfl) ?_
            refine r_get C h fk_X9_9 0 rfl rfl dX9_ship_51 ?_
            refine lv_iconst (v := (4 : Int32)) hx hb dX9_ship_54 rfl ?_
            refine r_ialdL C h 1 rfl (vlit rfl) 4 rfl dX9_ship_55 ?_
            refine lv_topi (fun t14 et14 => ?_)
            replace hf := lt1_inv et14 hf
            refine lv_istore (lv' := [(5, .int t14), (0, .ref h_this), (1, .int p0), (2, .int p1), (3, .int p2), (4, .int p3)]) hx hb dX9_ship_56 hl (by decide) rfl (fun ls hl => ?_)
            refine lv_aload_n hx hb dX9_ship_58 rfl (lv_at hl 1 rfl) ?_
            refine lv_iload hx hb dX9_ship_59 (lv_at hl 0 rfl) ?_
            refine lv_iconst (v := (0 : Int32)) hx hb dX9_ship_61 rfl ?_
            refine lv_iload_n hx hb dX9_ship_62 rfl (lv_at hl 2 rfl) ?_
            replace hf := bd1_inv hf
            obtain ⟨g15, hc16, hf⟩ := hf
            refine r_cvV (ws' := [(h_this, ob 9 [.ref h_this_s, .ref h_this_kept, .ref h_this_laid, .int x_this_isKept, .ref h_this_pile, .ref h_this_tape, .int x_this_taped, .ref h_this_letters, .int x_this_at, .int x_this_begun, .int x_this_token, .int x_this_value, .int x_this_opened, .int x_this_steps, .ref h_this_code0, .ref h_this_read, .ref h_this_saved, .ref h_this_plan, .ref h_this_bestPlan, .int x_this_most, .int x_this_many, .int x_this_few, .int x_this_everHome, .ref h_this_offThen, .ref h_this_paidThen, .int x_this_firstFit, .ref h_this_rows, .int x_this_rowMany, .ref h_this_sorts, .ref h_this_sizes, .ref h_this_number, .ref h_this_holds, .ref h_this_heldOne, .ref h_this_trace, .int x_this_traced, .int x_this_own, .int x_this_isParted]), (h_this_s, ia G 313 g15)]) C h (c_X9_puts hc16) mv_X9_195 rfl 0 rfl [0, 1] rfl rfl [1] [(h_this_s, ia G 313 g15)] rfl rfl (by decide +kernel) rfl hl.1 rfl (Nat.le_of_ble_eq_true rfl) (rok (by decide)) dX9_ship_63 (fun H locs h => ?_)
            refine lv_aload_n hx hb dX9_ship_66 rfl (lv_at hl 1 rfl) ?_
            refine lv_iload hx hb dX9_ship_67 (lv_at hl 0 rfl) ?_
            refine lv_iconst (v := (1 : Int32)) hx hb dX9_ship_69 rfl ?_
            refine lv_iload_n hx hb dX9_ship_70 rfl (lv_at hl 3 rfl) ?_
            replace hf := bd1_inv hf
            obtain ⟨g17, hc18, hf⟩ := hf
            refine r_cvV (ws' := [(h_this, ob 9 [.ref h_this_s, .ref h_this_kept, .ref h_this_laid, .int x_this_isKept, .ref h_this_pile, .ref h_this_tape, .int x_this_taped, .ref h_this_letters, .int x_this_at, .int x_this_begun, .int x_this_token, .int x_this_value, .int x_this_opened, .int x_this_steps, .ref h_this_code0, .ref h_this_read, .ref h_this_saved, .ref h_this_plan, .ref h_this_bestPlan, .int x_this_most, .int x_this_many, .int x_this_few, .int x_this_everHome, .ref h_this_offThen, .ref h_this_paidThen, .int x_this_firstFit, .ref h_this_rows, .int x_this_rowMany, .ref h_this_sorts, .ref h_this_sizes, .ref h_this_number, .ref h_this_holds, .ref h_this_heldOne, .ref h_this_trace, .int x_this_traced, .int x_this_own, .int x_this_isParted]), (h_this_s, ia G 313 g17)]) C h (c_X9_puts hc18) mv_X9_195 rfl 0 rfl [0, 1] rfl rfl [1] [(h_this_s, ia G 313 g17)] rfl rfl (by decide +kernel) rfl hl.1 rfl (Nat.le_of_ble_eq_true rfl) (rok (by decide)) dX9_ship_71 (fun H locs h => ?_)
            refine lv_aload_n hx hb dX9_ship_74 rfl (lv_at hl 1 rfl) ?_
            refine lv_iload hx hb dX9_ship_75 (lv_at hl 0 rfl) ?_
            refine lv_iconst (v := (2 : Int32)) hx hb dX9_ship_77 rfl ?_
            refine lv_iload_n hx hb dX9_ship_78 rfl (lv_at hl 4 rfl) ?_
            replace hf := bd1_inv hf
            obtain ⟨g19, hc20, hf⟩ := hf
            refine r_cvV (ws' := [(h_this, ob 9 [.ref h_this_s, .ref h_this_kept, .ref h_this_laid, .int x_this_isKept, .ref h_this_pile, .ref h_this_tape, .int x_this_taped, .ref h_this_letters, .int x_this_at, .int x_this_begun, .int x_this_token, .int x_this_value, .int x_this_opened, .int x_this_steps, .ref h_this_code0, .ref h_this_read, .ref h_this_saved, .ref h_this_plan, .ref h_this_bestPlan, .int x_this_most, .int x_this_many, .int x_this_few, .int x_this_everHome, .ref h_this_offThen, .ref h_this_paidThen, .int x_this_firstFit, .ref h_this_rows, .int x_this_rowMany, .ref h_this_sorts, .ref h_this_sizes, .ref h_this_number, .ref h_this_holds, .ref h_this_heldOne, .ref h_this_trace, .int x_this_traced, .int x_this_own, .int x_this_isParted]), (h_this_s, ia G 313 g19)]) C h (c_X9_puts hc20) mv_X9_195 rfl 0 rfl [0, 1] rfl rfl [1] [(h_this_s, ia G 313 g19)] rfl rfl (by decide +kernel) rfl hl.1 rfl (Nat.le_of_ble_eq_true rfl) (rok (by decide)) dX9_ship_79 (fun H locs h => ?_)
            refine lv_aload_n hx hb dX9_ship_82 rfl (lv_at hl 1 rfl) ?_
            refine lv_iload hx hb dX9_ship_83 (lv_at hl 0 rfl) ?_
            refine lv_iconst (v := (3 : Int32)) hx hb dX9_ship_85 rfl ?_
            refine lv_iload hx hb dX9_ship_86 (lv_at hl 5 rfl) ?_
            replace hf := bd1_inv hf
            obtain ⟨g21, hc22, hf⟩ := hf
            refine r_cvV (ws' := [(h_this, ob 9 [.ref h_this_s, .ref h_this_kept, .ref h_this_laid, .int x_this_isKept, .ref h_this_pile, .ref h_this_tape, .int x_this_taped, .ref h_this_letters, .int x_this_at, .int x_this_begun, .int x_this_token, .int x_this_value, .int x_this_opened, .int x_this_steps, .ref h_this_code0, .ref h_this_read, .ref h_this_saved, .ref h_this_plan, .ref h_this_bestPlan, .int x_this_most, .int x_this_many, .int x_this_few, .int x_this_everHome, .ref h_this_offThen, .ref h_this_paidThen, .int x_this_firstFit, .ref h_this_rows, .int x_this_rowMany, .ref h_this_sorts, .ref h_this_sizes, .ref h_this_number, .ref h_this_holds, .ref h_this_heldOne, .ref h_this_trace, .int x_this_traced, .int x_this_own, .int x_this_isParted]), (h_this_s, ia G 313 g21)]) C h (c_X9_puts hc22) mv_X9_195 rfl 0 rfl [0, 1] rfl rfl [1] [(h_this_s, ia G 313 g21)] rfl rfl (by decide +kernel) rfl hl.1 rfl (Nat.le_of_ble_eq_true rfl) (rok (by decide)) dX9_ship_88 (fun H locs h => ?_)
            refine lv_aload_n hx hb dX9_ship_91 rfl (lv_at hl 1 rfl) ?_
            refine lv_iload hx hb dX9_ship_92 (lv_at hl 0 rfl) ?_
            refine lv_iconst (v := (4 : Int32)) hx hb dX9_ship_94 rfl ?_
            refine lv_iconst (v := (0 : Int32)) hx hb dX9_ship_95 rfl ?_
            replace hf := bd1_inv hf
            obtain ⟨g23, hc24, hf⟩ := hf
            refine r_cvV (ws' := [(h_this, ob 9 [.ref h_this_s, .ref h_this_kept, .ref h_this_laid, .int x_this_isKept, .ref h_this_pile, .ref h_this_tape, .int x_this_taped, .ref h_this_letters, .int x_this_at, .int x_this_begun, .int x_this_token, .int x_this_value, .int x_this_opened, .int x_this_steps, .ref h_this_code0, .ref h_this_read, .ref h_this_saved, .ref h_this_plan, .ref h_this_bestPlan, .int x_this_most, .int x_this_many, .int x_this_few, .int x_this_everHome, .ref h_this_offThen, .ref h_this_paidThen, .int x_this_firstFit, .ref h_this_rows, .int x_this_rowMany, .ref h_this_sorts, .ref h_this_sizes, .ref h_this_number, .ref h_this_holds, .ref h_this_heldOne, .ref h_this_trace, .int x_this_traced, .int x_this_own, .int x_this_isParted]), (h_this_s, ia G 313 g23)]) C h (c_X9_puts hc24) mv_X9_195 rfl 0 rfl [0, 1] rfl rfl [1] [(h_this_s, ia G 313 g23)] rfl rfl (by decide +kernel) rfl hl.1 rfl (Nat.le_of_ble_eq_true rfl) (rok (by decide)) dX9_ship_96 (fun H locs h => ?_)
            refine lv_aload_n hx hb dX9_ship_99 rfl (lv_at hl 1 rfl) ?_
            refine r_get C h fk_X9_9 0 rfl rfl dX9_ship_100 ?_
            refine lv_iconst (v := (4 : Int32)) hx hb dX9_ship_103 rfl ?_
            refine lv_dup2_11 hx hb dX9_ship_104 rfl rfl ?_
            refine r_ialdL C h 1 rfl (vlit rfl) 4 rfl dX9_ship_105 ?_
            refine lv_iconst (v := (1 : Int32)) hx hb dX9_ship_106 rfl ?_
            refine lv_iadd hx hb dX9_ship_107 ?_
            refine lv_topi (fun t25 et25 => ?_)
            replace hf := lt1_inv et25 hf
            refine r_iastL (ws' := [(h_this, ob 9 [.ref h_this_s, .ref h_this_kept, .ref h_this_laid, .int x_this_isKept, .ref h_this_pile, .ref h_this_tape, .int x_this_taped, .ref h_this_letters, .int x_this_at, .int x_this_begun, .int x_this_token, .int x_this_value, .int x_this_opened, .int x_this_steps, .ref h_this_code0, .ref h_this_read, .ref h_this_saved, .ref h_this_plan, .ref h_this_bestPlan, .int x_this_most, .int x_this_many, .int x_this_few, .int x_this_everHome, .ref h_this_offThen, .ref h_this_paidThen, .int x_this_firstFit, .ref h_this_rows, .int x_this_rowMany, .ref h_this_sorts, .ref h_this_sizes, .ref h_this_number, .ref h_this_holds, .ref h_this_heldOne, .ref h_this_trace, .int x_this_traced, .int x_this_own, .int x_this_isParted]), (h_this_s, ia G 313 (upd g23 4 t25))]) C h 1 rfl (vlit rfl) 4 rfl dX9_ship_108 rfl (fun H locs h => ?_)
            refine lv_iload hx hb dX9_ship_109 (lv_at hl 0 rfl) ?_
            cases hf
            exact r_iret C h hr hlk rfl dX9_ship_111
          · replace hf := ifp c13 hf
            refine lv_bipush (v := (-2 : Int32)) hx hb dX9_ship_47 rfl ?_
            cases hf
            exact r_iret C h hr hlk rfl dX9_ship_49
        · replace hf := ifp c12 hf
          refine lv_iconst (v := (-1 : Int32)) hx hb dX9_ship_34 rfl ?_
          cases hf
          exact r_iret C h hr hlk rfl dX9_ship_35
set_option maxRecDepth 100000 in
set_option maxHeartbeats 4000000 in
theorem c_X9_isShip {l : Launch} {G : Gt} {h_this h_this_s h_this_kept h_this_laid h_this_pile h_this_tape h_this_letters h_this_code0 h_this_read h_this_saved h_this_plan h_this_bestPlan h_this_offThen h_this_paidThen h_this_rows h_this_sorts h_this_sizes h_this_number h_this_holds h_this_heldOne h_this_trace : Nat} {p0 : Int32} {x_this_isKept : Int32} {x_this_taped : Int32} {x_this_at : Int32} {x_this_begun : Int32} {x_this_token : Int32} {x_this_value : Int32} {x_this_opened : Int32} {x_this_steps : Int32} {x_this_most : Int32} {x_this_many : Int32} {x_this_few : Int32} {x_this_everHome : Int32} {x_this_firstFit : Int32} {x_this_rowMany : Int32} {x_this_traced : Int32} {x_this_own : Int32} {x_this_isParted : Int32} {f_this_s : Nat → Int32} {r : Int32} (hf : f_X9_isShip p0 f_this_s = some r) : mFi l G yX9_isShip cX9_isShip 2 .boolean 1 [.ref h_this, .int p0] [(h_this, ob 9 [.ref h_this_s, .ref h_this_kept, .ref h_this_laid, .int x_this_isKept, .ref h_this_pile, .ref h_this_tape, .int x_this_taped, .ref h_this_letters, .int x_this_at, .int x_this_begun, .int x_this_token, .int x_this_value, .int x_this_opened, .int x_this_steps, .ref h_this_code0, .ref h_this_read, .ref h_this_saved, .ref h_this_plan, .ref h_this_bestPlan, .int x_this_most, .int x_this_many, .int x_this_few, .int x_this_everHome, .ref h_this_offThen, .ref h_this_paidThen, .int x_this_firstFit, .ref h_this_rows, .int x_this_rowMany, .ref h_this_sorts, .ref h_this_sizes, .ref h_this_number, .ref h_this_holds, .ref h_this_heldOne, .ref h_this_trace, .int x_this_traced, .int x_this_own, .int x_this_isParted]), (h_this_s, ia G 313 f_this_s)] r [(h_this, ob 9 [.ref h_this_s, .ref h_this_kept, .ref h_this_laid, .int x_this_isKept, .ref h_this_pile, .ref h_this_tape, .int x_this_taped, .ref h_this_letters, .int x_this_at, .int x_this_begun, .int x_this_token, .int x_this_value, .int x_this_opened, .int x_this_steps, .ref h_this_code0, .ref h_this_read, .ref h_this_saved, .ref h_this_plan, .ref h_this_bestPlan, .int x_this_most, .int x_this_many, .int x_this_few, .int x_this_everHome, .ref h_this_offThen, .ref h_this_paidThen, .int x_this_firstFit, .ref h_this_rows, .int x_this_rowMany, .ref h_this_sorts, .ref h_this_sizes, .ref h_this_number, .ref h_this_holds, .ref h_this_heldOne, .ref h_this_trace, .int x_this_traced, .int x_this_own, .int x_this_isParted]), (h_this_s, ia G 313 f_this_s)] := by
  refine mFi.of (by decide +kernel) (Nat.le_of_ble_eq_true rfl) ?_
  intro p e s m below meth c A C hr hlk h ls hl
  obtain ⟨hx, hb, hml, hown, hts⟩ := id C
  replace hl : lv_has ls 2 [(0, .ref h_this), (1, .int p0)] := hl
  unfold f_X9_isShip at hf
  refine lv_iload_n hx hb dX9_isShip_0 rfl (lv_at hl 1 rfl) ?_
  refine lv_iconst (v := (0 : Int32)) hx hb dX9_isShip_1 rfl ?_
  refine lv_aload_n hx hb dX9_isShip_2 rfl (lv_at hl 0 rfl) ?_
  refine r_get C h fk_X9_9 0 rfl rfl dX9_isShip_3 ?_
  refine lv_iconst (v := (4 : Int32)) hx hb dX9_isShip_6 rfl ?_
  refine r_ialdL C h 1 rfl (vlit rfl) 4 rfl dX9_isShip_7 ?_
  refine lv_iconst (v := (1 : Int32)) hx hb dX9_isShip_8 rfl ?_
  refine lv_isub hx hb dX9_isShip_9 ?_
  replace hf := bd1_inv hf
  obtain ⟨r1, hc2, hf⟩ := hf
  refine r_ciS0 C h (c_X9_in1 hc2) ms_X9_71 rfl [] rfl rfl hl.1 rfl (Nat.le_of_ble_eq_true rfl) (rok (by decide)) dX9_isShip_10 (fun H locs h => ?_)
  replace hf := chkB_inv hf
  obtain ⟨hb3, hf⟩ := hf
  cases hf
  exact r_iret C h hr hlk hb3 dX9_isShip_13
set_option maxRecDepth 100000 in
set_option maxHeartbeats 4000000 in
theorem c_X9_get {l : Launch} {G : Gt} {h_this h_this_s h_this_kept h_this_laid h_this_pile h_this_tape h_this_letters h_this_code0 h_this_read h_this_saved h_this_plan h_this_bestPlan h_this_offThen h_this_paidThen h_this_rows h_this_sorts h_this_sizes h_this_number h_this_holds h_this_heldOne h_this_trace : Nat} {p0 : Int32} {p1 : Int32} {x_this_isKept : Int32} {x_this_taped : Int32} {x_this_at : Int32} {x_this_begun : Int32} {x_this_token : Int32} {x_this_value : Int32} {x_this_opened : Int32} {x_this_steps : Int32} {x_this_most : Int32} {x_this_many : Int32} {x_this_few : Int32} {x_this_everHome : Int32} {x_this_firstFit : Int32} {x_this_rowMany : Int32} {x_this_traced : Int32} {x_this_own : Int32} {x_this_isParted : Int32} {f_this_s : Nat → Int32} {r : Int32} (hf : f_X9_get p0 p1 f_this_s = some r) : mFi l G yX9_get cX9_get 3 .int 0 [.ref h_this, .int p0, .int p1] [(h_this, ob 9 [.ref h_this_s, .ref h_this_kept, .ref h_this_laid, .int x_this_isKept, .ref h_this_pile, .ref h_this_tape, .int x_this_taped, .ref h_this_letters, .int x_this_at, .int x_this_begun, .int x_this_token, .int x_this_value, .int x_this_opened, .int x_this_steps, .ref h_this_code0, .ref h_this_read, .ref h_this_saved, .ref h_this_plan, .ref h_this_bestPlan, .int x_this_most, .int x_this_many, .int x_this_few, .int x_this_everHome, .ref h_this_offThen, .ref h_this_paidThen, .int x_this_firstFit, .ref h_this_rows, .int x_this_rowMany, .ref h_this_sorts, .ref h_this_sizes, .ref h_this_number, .ref h_this_holds, .ref h_this_heldOne, .ref h_this_trace, .int x_this_traced, .int x_this_own, .int x_this_isParted]), (h_this_s, ia G 313 f_this_s)] r [(h_this, ob 9 [.ref h_this_s, .ref h_this_kept, .ref h_this_laid, .int x_this_isKept, .ref h_this_pile, .ref h_this_tape, .int x_this_taped, .ref h_this_letters, .int x_this_at, .int x_this_begun, .int x_this_token, .int x_this_value, .int x_this_opened, .int x_this_steps, .ref h_this_code0, .ref h_this_read, .ref h_this_saved, .ref h_this_plan, .ref h_this_bestPlan, .int x_this_most, .int x_this_many, .int x_this_few, .int x_this_everHome, .ref h_this_offThen, .ref h_this_paidThen, .int x_this_firstFit, .ref h_this_rows, .int x_this_rowMany, .ref h_this_sorts, .ref h_this_sizes, .ref h_this_number, .ref h_this_holds, .ref h_this_heldOne, .ref h_this_trace, .int x_this_traced, .int x_this_own, .int x_this_isParted]), (h_this_s, ia G 313 f_this_s)] := by
  refine mFi.of (by decide +kernel) (Nat.le_of_ble_eq_true rfl) ?_
  intro p e s m below meth c A C hr hlk h ls hl
  obtain ⟨hx, hb, hml, hown, hts⟩ := id C
  replace hl : lv_has ls 3 [(0, .ref h_this), (1, .int p0), (2, .int p1)] := hl
  unfold f_X9_get at hf
  refine lv_aload_n hx hb dX9_get_0 rfl (lv_at hl 0 rfl) ?_
  refine r_get C h fk_X9_9 0 rfl rfl dX9_get_1 ?_
  refine lv_bipush (v := (35 : Int32)) hx hb dX9_get_4 rfl ?_
  refine lv_iconst (v := (5 : Int32)) hx hb dX9_get_6 rfl ?_
  refine lv_iload_n hx hb dX9_get_7 rfl (lv_at hl 1 rfl) ?_
  refine lv_imul hx hb dX9_get_8 ?_
  refine lv_iadd hx hb dX9_get_9 ?_
  refine lv_iload_n hx hb dX9_get_10 rfl (lv_at hl 2 rfl) ?_
  refine lv_iadd hx hb dX9_get_11 ?_
  replace hf := chkI_inv hf
  obtain ⟨hi1, hf⟩ := hf
  refine r_iald C h 1 rfl hi1 dX9_get_12 ?_
  cases hf
  exact r_iret C h hr hlk rfl dX9_get_13
set_option maxRecDepth 100000 in
set_option maxHeartbeats 4000000 in
theorem c_X9_lightNow {l : Launch} {G : Gt} {h_this h_this_s h_this_kept h_this_laid h_this_pile h_this_tape h_this_letters h_this_code0 h_this_read h_this_saved h_this_plan h_this_bestPlan h_this_offThen h_this_paidThen h_this_rows h_this_sorts h_this_sizes h_this_number h_this_holds h_this_heldOne h_this_trace : Nat} {x_this_isKept : Int32} {x_this_taped : Int32} {x_this_at : Int32} {x_this_begun : Int32} {x_this_token : Int32} {x_this_value : Int32} {x_this_opened : Int32} {x_this_steps : Int32} {x_this_most : Int32} {x_this_many : Int32} {x_this_few : Int32} {x_this_everHome : Int32} {x_this_firstFit : Int32} {x_this_rowMany : Int32} {x_this_traced : Int32} {x_this_own : Int32} {x_this_isParted : Int32} {f_this_s : Nat → Int32} {r : Int32} (hf : f_X9_lightNow f_this_s = some r) : mFi l G yX9_lightNow cX9_lightNow 1 .int 0 [.ref h_this] [(h_this, ob 9 [.ref h_this_s, .ref h_this_kept, .ref h_this_laid, .int x_this_isKept, .ref h_this_pile, .ref h_this_tape, .int x_this_taped, .ref h_this_letters, .int x_this_at, .int x_this_begun, .int x_this_token, .int x_this_value, .int x_this_opened, .int x_this_steps, .ref h_this_code0, .ref h_this_read, .ref h_this_saved, .ref h_this_plan, .ref h_this_bestPlan, .int x_this_most, .int x_this_many, .int x_this_few, .int x_this_everHome, .ref h_this_offThen, .ref h_this_paidThen, .int x_this_firstFit, .ref h_this_rows, .int x_this_rowMany, .ref h_this_sorts, .ref h_this_sizes, .ref h_this_number, .ref h_this_holds, .ref h_this_heldOne, .ref h_this_trace, .int x_this_traced, .int x_this_own, .int x_this_isParted]), (h_this_s, ia G 313 f_this_s)] r [(h_this, ob 9 [.ref h_this_s, .ref h_this_kept, .ref h_this_laid, .int x_this_isKept, .ref h_this_pile, .ref h_this_tape, .int x_this_taped, .ref h_this_letters, .int x_this_at, .int x_this_begun, .int x_this_token, .int x_this_value, .int x_this_opened, .int x_this_steps, .ref h_this_code0, .ref h_this_read, .ref h_this_saved, .ref h_this_plan, .ref h_this_bestPlan, .int x_this_most, .int x_this_many, .int x_this_few, .int x_this_everHome, .ref h_this_offThen, .ref h_this_paidThen, .int x_this_firstFit, .ref h_this_rows, .int x_this_rowMany, .ref h_this_sorts, .ref h_this_sizes, .ref h_this_number, .ref h_this_holds, .ref h_this_heldOne, .ref h_this_trace, .int x_this_traced, .int x_this_own, .int x_this_isParted]), (h_this_s, ia G 313 f_this_s)] := by
  refine mFi.of (by decide +kernel) (Nat.le_of_ble_eq_true rfl) ?_
  intro p e s m below meth c A C hr hlk h ls hl
  obtain ⟨hx, hb, hml, hown, hts⟩ := id C
  replace hl : lv_has ls 1 [(0, .ref h_this)] := hl
  unfold f_X9_lightNow at hf
  refine lv_aload_n hx hb dX9_lightNow_0 rfl (lv_at hl 0 rfl) ?_
  refine r_get C h fk_X9_9 0 rfl rfl dX9_lightNow_1 ?_
  refine lv_iconst (v := (0 : Int32)) hx hb dX9_lightNow_4 rfl ?_
  refine r_ialdL C h 1 rfl (vlit rfl) 0 rfl dX9_lightNow_5 ?_
  refine lv_bipush (v := (16 : Int32)) hx hb dX9_lightNow_6 rfl ?_
  refine lv_icmp_ge (tgt := 28) hx hb dX9_lightNow_8 rfl (fun c1 => ?_) (fun c1 => ?_)
  · replace hf := ifp c1 hf
    refine lv_iconst (v := (0 : Int32)) hx hb dX9_lightNow_28 rfl ?_
    cases hf
    exact r_iret C h hr hlk rfl dX9_lightNow_29
  · replace hf := ifn c1 hf
    refine lv_aload_n hx hb dX9_lightNow_11 rfl (lv_at hl 0 rfl) ?_
    refine r_get C h fk_X9_9 0 rfl rfl dX9_lightNow_12 ?_
    refine lv_bipush (v := (7 : Int32)) hx hb dX9_lightNow_15 rfl ?_
    refine lv_aload_n hx hb dX9_lightNow_17 rfl (lv_at hl 0 rfl) ?_
    refine r_get C h fk_X9_9 0 rfl rfl dX9_lightNow_18 ?_
    refine lv_iconst (v := (0 : Int32)) hx hb dX9_lightNow_21 rfl ?_
    refine r_ialdL C h 1 rfl (vlit rfl) 0 rfl dX9_lightNow_22 ?_
    refine lv_iadd hx hb dX9_lightNow_23 ?_
    replace hf := chkI_inv hf
    obtain ⟨hi2, hf⟩ := hf
    refine r_iald C h 1 rfl hi2 dX9_lightNow_24 ?_
    refine lv_goto (tgt := 29) hx hb dX9_lightNow_25 rfl ?_
    cases hf
    exact r_iret C h hr hlk rfl dX9_lightNow_29
set_option maxRecDepth 100000 in
set_option maxHeartbeats 4000000 in
theorem c_X9_nearsBy {l : Launch} {G : Gt} {p0 : Int32} {p1 : Int32} {p2 : Int32} {p3 : Int32} {r : Int32} (hf : f_X9_nearsBy p0 p1 p2 p3 = some r) : mFi l G yX9_nearsBy cX9_nearsBy 4 .int 0 [.int p0, .int p1, .int p2, .int p3] ([] : va_W) r ([] : va_W) := by
  refine mFi.of (by decide +kernel) (Nat.le_of_ble_eq_true rfl) ?_
  intro p e s m below meth c A C hr hlk h ls hl
  obtain ⟨hx, hb, hml, hown, hts⟩ := id C
  replace hl : lv_has ls 4 [(0, .int p0), (1, .int p1), (2, .int p2), (3, .int p3)] := hl
  unfold f_X9_nearsBy at hf
  refine lv_iload_n hx hb dX9_nearsBy_0 rfl (lv_at hl 0 rfl) ?_
  by_cases c1 : p0 = (1 : Int32)
  · replace hf := ifp c1 hf
    refine r_tab (tgt := 36) C dX9_nearsBy_1 (1 : Int32) c1 (by decide) rfl rfl ?_
    refine lv_iload_n hx hb dX9_nearsBy_36 rfl (lv_at hl 1 rfl) ?_
    refine lv_iload_n hx hb dX9_nearsBy_37 rfl (lv_at hl 2 rfl) ?_
    refine lv_imul hx hb dX9_nearsBy_38 ?_
    cases hf
    exact r_iret C h hr hlk rfl dX9_nearsBy_39
  · replace hf := ifn c1 hf
    by_cases c2 : p0 = (2 : Int32)
    · replace hf := ifp c2 hf
      refine r_tab (tgt := 40) C dX9_nearsBy_1 (2 : Int32) c2 (by decide) rfl rfl ?_
      refine lv_iconst (v := (2 : Int32)) hx hb dX9_nearsBy_40 rfl ?_
      refine lv_iload_n hx hb dX9_nearsBy_41 rfl (lv_at hl 1 rfl) ?_
      refine lv_imul hx hb dX9_nearsBy_42 ?_
      cases hf
      exact r_iret C h hr hlk rfl dX9_nearsBy_43
    · replace hf := ifn c2 hf
      by_cases c3 : p0 = (3 : Int32)
      · replace hf := ifp c3 hf
        refine r_tab (tgt := 44) C dX9_nearsBy_1 (3 : Int32) c3 (by decide) rfl rfl ?_
        refine lv_iconst (v := (2 : Int32)) hx hb dX9_nearsBy_44 rfl ?_
        refine lv_iload_n hx hb dX9_nearsBy_45 rfl (lv_at hl 1 rfl) ?_
        refine lv_imul hx hb dX9_nearsBy_46 ?_
        refine lv_iload_n hx hb dX9_nearsBy_47 rfl (lv_at hl 2 rfl) ?_
        refine lv_iadd hx hb dX9_nearsBy_48 ?_
        cases hf
        exact r_iret C h hr hlk rfl dX9_nearsBy_49
      · replace hf := ifn c3 hf
        by_cases c4 : p0 = (4 : Int32)
        · replace hf := ifp c4 hf
          refine r_tab (tgt := 50) C dX9_nearsBy_1 (4 : Int32) c4 (by decide) rfl rfl ?_
          refine lv_iconst (v := (3 : Int32)) hx hb dX9_nearsBy_50 rfl ?_
          refine lv_iload_n hx hb dX9_nearsBy_51 rfl (lv_at hl 2 rfl) ?_
          refine lv_iadd hx hb dX9_nearsBy_52 ?_
          cases hf
          exact r_iret C h hr hlk rfl dX9_nearsBy_53
        · replace hf := ifn c4 hf
          by_cases c5 : p0 = (5 : Int32)
          · replace hf := ifp c5 hf
            refine r_tab (tgt := 54) C dX9_nearsBy_1 (5 : Int32) c5 (by decide) rfl rfl ?_
            refine lv_iload_n hx hb dX9_nearsBy_54 rfl (lv_at hl 3 rfl) ?_
            refine lv_iconst (v := (3 : Int32)) hx hb dX9_nearsBy_55 rfl ?_
            refine lv_irem hx hb dX9_nearsBy_56 (by decide) ?_
            refine lv_if_ne (tgt := 64) hx hb dX9_nearsBy_57 rfl (fun c6 => ?_) (fun c6 => ?_)
            · replace hf := ifn c6 hf
              refine lv_iconst (v := (3 : Int32)) hx hb dX9_nearsBy_64 rfl ?_
              refine lv_iload_n hx hb dX9_nearsBy_65 rfl (lv_at hl 2 rfl) ?_
              refine lv_iadd hx hb dX9_nearsBy_66 ?_
              cases hf
              exact r_iret C h hr hlk rfl dX9_nearsBy_67
            · replace hf := ifp c6 hf
              refine lv_iconst (v := (0 : Int32)) hx hb dX9_nearsBy_60 rfl ?_
              refine lv_goto (tgt := 67) hx hb dX9_nearsBy_61 rfl ?_
              cases hf
              exact r_iret C h hr hlk rfl dX9_nearsBy_67
          · replace hf := ifn c5 hf
            refine r_tabD (tgt := 68) C dX9_nearsBy_1 [(1 : Int32), (2 : Int32), (3 : Int32), (4 : Int32), (5 : Int32)] (by decide) (nel_c c1 (nel_c c2 (nel_c c3 (nel_c c4 (nel_c c5 nel_0))))) rfl ?_
            refine lv_iconst (v := (2 : Int32)) hx hb dX9_nearsBy_68 rfl ?_
            refine lv_iload_n hx hb dX9_nearsBy_69 rfl (lv_at hl 1 rfl) ?_
            refine lv_iadd hx hb dX9_nearsBy_70 ?_
            cases hf
            exact r_iret C h hr hlk rfl dX9_nearsBy_71
set_option maxRecDepth 100000 in
set_option maxHeartbeats 4000000 in
theorem c_X9_nearsOf {l : Launch} {G : Gt} {h_this h_this_s h_this_kept h_this_laid h_this_pile h_this_tape h_this_letters h_this_code0 h_this_read h_this_saved h_this_plan h_this_bestPlan h_this_offThen h_this_paidThen h_this_rows h_this_sorts h_this_sizes h_this_number h_this_holds h_this_heldOne h_this_trace : Nat} {p0 : Int32} {x_this_isKept : Int32} {x_this_taped : Int32} {x_this_at : Int32} {x_this_begun : Int32} {x_this_token : Int32} {x_this_value : Int32} {x_this_opened : Int32} {x_this_steps : Int32} {x_this_most : Int32} {x_this_many : Int32} {x_this_few : Int32} {x_this_everHome : Int32} {x_this_firstFit : Int32} {x_this_rowMany : Int32} {x_this_traced : Int32} {x_this_own : Int32} {x_this_isParted : Int32} {f_this_s : Nat → Int32} {r : Int32} (hf : f_X9_nearsOf p0 f_this_s = some r) : mFi l G yX9_nearsOf cX9_nearsOf 4 .int 1 [.ref h_this, .int p0] [(h_this, ob 9 [.ref h_this_s, .ref h_this_kept, .ref h_this_laid, .int x_this_isKept, .ref h_this_pile, .ref h_this_tape, .int x_this_taped, .ref h_this_letters, .int x_this_at, .int x_this_begun, .int x_this_token, .int x_this_value, .int x_this_opened, .int x_this_steps, .ref h_this_code0, .ref h_this_read, .ref h_this_saved, .ref h_this_plan, .ref h_this_bestPlan, .int x_this_most, .int x_this_many, .int x_this_few, .int x_this_everHome, .ref h_this_offThen, .ref h_this_paidThen, .int x_this_firstFit, .ref h_this_rows, .int x_this_rowMany, .ref h_this_sorts, .ref h_this_sizes, .ref h_this_number, .ref h_this_holds, .ref h_this_heldOne, .ref h_this_trace, .int x_this_traced, .int x_this_own, .int x_this_isParted]), (h_this_s, ia G 313 f_this_s)] r [(h_this, ob 9 [.ref h_this_s, .ref h_this_kept, .ref h_this_laid, .int x_this_isKept, .ref h_this_pile, .ref h_this_tape, .int x_this_taped, .ref h_this_letters, .int x_this_at, .int x_this_begun, .int x_this_token, .int x_this_value, .int x_this_opened, .int x_this_steps, .ref h_this_code0, .ref h_this_read, .ref h_this_saved, .ref h_this_plan, .ref h_this_bestPlan, .int x_this_most, .int x_this_many, .int x_this_few, .int x_this_everHome, .ref h_this_offThen, .ref h_this_paidThen, .int x_this_firstFit, .ref h_this_rows, .int x_this_rowMany, .ref h_this_sorts, .ref h_this_sizes, .ref h_this_number, .ref h_this_holds, .ref h_this_heldOne, .ref h_this_trace, .int x_this_traced, .int x_this_own, .int x_this_isParted]), (h_this_s, ia G 313 f_this_s)] := by
  refine mFi.of (by decide +kernel) (Nat.le_of_ble_eq_true rfl) ?_
  intro p e s m below meth c A C hr hlk h ls hl
  obtain ⟨hx, hb, hml, hown, hts⟩ := id C
  replace hl : lv_has ls 4 [(0, .ref h_this), (1, .int p0)] := hl
  unfold f_X9_nearsOf at hf
  refine with_K G A 4 (fun K hK1 hK2 => ?_)
  have L45 : ∀ (n : Nat) (v2 : Int32) (v3 : Int32), f_X9_nearsOf_L45 p0 f_this_s n v2 v3 = some r → K 45 ([] : List Value) [(h_this, ob 9 [.ref h_this_s, .ref h_this_kept, .ref h_this_laid, .int x_this_isKept, .ref h_this_pile, .ref h_this_tape, .int x_this_taped, .ref h_this_letters, .int x_this_at, .int x_this_begun, .int x_this_token, .int x_this_value, .int x_this_opened, .int x_this_steps, .ref h_this_code0, .ref h_this_read, .ref h_this_saved, .ref h_this_plan, .ref h_this_bestPlan, .int x_this_most, .int x_this_many, .int x_this_few, .int x_this_everHome, .ref h_this_offThen, .ref h_this_paidThen, .int x_this_firstFit, .ref h_this_rows, .int x_this_rowMany, .ref h_this_sorts, .ref h_this_sizes, .ref h_this_number, .ref h_this_holds, .ref h_this_heldOne, .ref h_this_trace, .int x_this_traced, .int x_this_own, .int x_this_isParted]), (h_this_s, ia G 313 f_this_s)] [(0, .ref h_this), (1, .int p0), (2, .int v2), (3, .int v3)] := by
    intro n
    induction n with
    | zero =>
      intro v2 v3 hf
      replace hf : (none : Option _) = some _ := hf
      cases hf
    | succ n ih =>
      intro v2 v3 hf
      rw [f_X9_nearsOf_L45] at hf
      refine hK1 _ _ _ _ (fun H locs ls h hl => ?_)
      refine lv_iload_n hx hb dX9_nearsOf_45 rfl (lv_at hl 3 rfl) ?_
      refine lv_aload_n hx hb dX9_nearsOf_46 rfl (lv_at hl 0 rfl) ?_
      refine r_get C h fk_X9_9 0 rfl rfl dX9_nearsOf_47 ?_
      refine lv_iconst (v := (4 : Int32)) hx hb dX9_nearsOf_50 rfl ?_
      refine r_ialdL C h 1 rfl (vlit rfl) 4 rfl dX9_nearsOf_51 ?_
      refine lv_icmp_ge (tgt := 98) hx hb dX9_nearsOf_52 rfl (fun c13 => ?_) (fun c13 => ?_)
      · replace hf := ifp c13 hf
        refine lv_iload_n hx hb dX9_nearsOf_98 rfl (lv_at hl 2 rfl) ?_
        refine lv_if_ge (tgt := 106) hx hb dX9_nearsOf_99 rfl (fun c14 => ?_) (fun c14 => ?_)
        · replace hf := ifp c14 hf
          refine lv_iload_n hx hb dX9_nearsOf_106 rfl (lv_at hl 2 rfl) ?_
          cases hf
          exact r_iret C h hr hlk rfl dX9_nearsOf_107
        · replace hf := ifn c14 hf
          refine lv_iconst (v := (0 : Int32)) hx hb dX9_nearsOf_102 rfl ?_
          refine lv_goto (tgt := 107) hx hb dX9_nearsOf_103 rfl ?_
          cases hf
          exact r_iret C h hr hlk rfl dX9_nearsOf_107
      · replace hf := ifn c13 hf
        refine lv_iload_n hx hb dX9_nearsOf_55 rfl (lv_at hl 2 rfl) ?_
        refine lv_iload_n hx hb dX9_nearsOf_56 rfl (lv_at hl 3 rfl) ?_
        refine lv_iload_n hx hb dX9_nearsOf_57 rfl (lv_at hl 1 rfl) ?_
        refine lv_icmp_eq (tgt := 89) hx hb dX9_nearsOf_58 rfl (fun c15 => ?_) (fun c15 => ?_)
        · replace hf := ifp c15 hf
          refine lv_iconst (v := (0 : Int32)) hx hb dX9_nearsOf_89 rfl ?_
          refine lv_isub hx hb dX9_nearsOf_90 ?_
          refine lv_topi (fun t16 et16 => ?_)
          replace hf := lt1_inv et16 hf
          refine lv_istore_n (lv' := [(2, .int t16), (0, .ref h_this), (1, .int p0), (3, .int v3)]) hx hb dX9_nearsOf_91 rfl hl (by decide) rfl (fun ls hl => ?_)
          obtain ⟨t17, et17⟩ : ∃ y : Int32, y = v3 + (1 : Int32) := ⟨_, rfl⟩
          replace hf := lt1_inv et17 hf
          refine lv_iinc (v := t17) (lv' := [(3, .int t17), (2, .int t16), (0, .ref h_this), (1, .int p0)]) hx hb dX9_nearsOf_92 hl (k := 3) rfl (by rw [et17]; rfl) (by decide) rfl (fun ls hl => ?_)
          refine lv_goto (tgt := 45) hx hb dX9_nearsOf_95 rfl ?_
          exact hK2 _ _ _ _ (ih t16 t17 hf) _ _ _ h (lv_sub hl [2, 3, 1, 0] rfl)
        · replace hf := ifn c15 hf
          refine lv_aload_n hx hb dX9_nearsOf_61 rfl (lv_at hl 0 rfl) ?_
          refine lv_iload_n hx hb dX9_nearsOf_62 rfl (lv_at hl 3 rfl) ?_
          refine lv_iconst (v := (4 : Int32)) hx hb dX9_nearsOf_63 rfl ?_
          replace hf := bd1_inv hf
          obtain ⟨r18, hc19, hf⟩ := hf
          refine r_ciV0 C h (c_X9_get hc19) mv_X9_79 rfl 0 rfl [0, 1] rfl rfl hl.1 rfl (Nat.le_of_ble_eq_true rfl) (rok (by decide)) dX9_nearsOf_64 (fun H locs h => ?_)
          refine lv_if_ne (tgt := 89) hx hb dX9_nearsOf_67 rfl (fun c20 => ?_) (fun c20 => ?_)
          · replace hf := ifn c20 hf
            refine lv_iconst (v := (0 : Int32)) hx hb dX9_nearsOf_89 rfl ?_
            refine lv_isub hx hb dX9_nearsOf_90 ?_
            refine lv_topi (fun t21 et21 => ?_)
            replace hf := lt1_inv et21 hf
            refine lv_istore_n (lv' := [(2, .int t21), (0, .ref h_this), (1, .int p0), (3, .int v3)]) hx hb dX9_nearsOf_91 rfl hl (by decide) rfl (fun ls hl => ?_)
            obtain ⟨t22, et22⟩ : ∃ y : Int32, y = v3 + (1 : Int32) := ⟨_, rfl⟩
            replace hf := lt1_inv et22 hf
            refine lv_iinc (v := t22) (lv' := [(3, .int t22), (2, .int t21), (0, .ref h_this), (1, .int p0)]) hx hb dX9_nearsOf_92 hl (k := 3) rfl (by rw [et22]; rfl) (by decide) rfl (fun ls hl => ?_)
            refine lv_goto (tgt := 45) hx hb dX9_nearsOf_95 rfl ?_
            exact hK2 _ _ _ _ (ih t21 t22 hf) _ _ _ h (lv_sub hl [2, 3, 1, 0] rfl)
          · replace hf := ifp c20 hf
            refine lv_aload_n hx hb dX9_nearsOf_70 rfl (lv_at hl 0 rfl) ?_
            refine lv_iload_n hx hb dX9_nearsOf_71 rfl (lv_at hl 3 rfl) ?_
            refine lv_iconst (v := (3 : Int32)) hx hb dX9_nearsOf_72 rfl ?_
            replace hf := bd1_inv hf
            obtain ⟨r23, hc24, hf⟩ := hf
            refine r_ciV0 C h (c_X9_get hc24) mv_X9_79 rfl 0 rfl [0, 1] rfl rfl hl.1 rfl (Nat.le_of_ble_eq_true rfl) (rok (by decide)) dX9_nearsOf_73 (fun H locs h => ?_)
            refine lv_aload_n hx hb dX9_nearsOf_76 rfl (lv_at hl 0 rfl) ?_
            refine lv_iload_n hx hb dX9_nearsOf_77 rfl (lv_at hl 1 rfl) ?_
            refine lv_iconst (v := (3 : Int32)) hx hb dX9_nearsOf_78 rfl ?_
            replace hf := bd1_inv hf
            obtain ⟨r25, hc26, hf⟩ := hf
            refine r_ciV0 C h (c_X9_get hc26) mv_X9_79 rfl 0 rfl [0, 1] rfl rfl hl.1 rfl (Nat.le_of_ble_eq_true rfl) (rok (by decide)) dX9_nearsOf_79 (fun H locs h => ?_)
            refine lv_icmp_ne (tgt := 89) hx hb dX9_nearsOf_82 rfl (fun c27 => ?_) (fun c27 => ?_)
            · replace hf := ifn c27 hf
              refine lv_iconst (v := (0 : Int32)) hx hb dX9_nearsOf_89 rfl ?_
              refine lv_isub hx hb dX9_nearsOf_90 ?_
              refine lv_topi (fun t28 et28 => ?_)
              replace hf := lt1_inv et28 hf
              refine lv_istore_n (lv' := [(2, .int t28), (0, .ref h_this), (1, .int p0), (3, .int v3)]) hx hb dX9_nearsOf_91 rfl hl (by decide) rfl (fun ls hl => ?_)
              obtain ⟨t29, et29⟩ : ∃ y : Int32, y = v3 + (1 : Int32) := ⟨_, rfl⟩
              replace hf := lt1_inv et29 hf
              refine lv_iinc (v := t29) (lv' := [(3, .int t29), (2, .int t28), (0, .ref h_this), (1, .int p0)]) hx hb dX9_nearsOf_92 hl (k := 3) rfl (by rw [et29]; rfl) (by decide) rfl (fun ls hl => ?_)
              refine lv_goto (tgt := 45) hx hb dX9_nearsOf_95 rfl ?_
              exact hK2 _ _ _ _ (ih t28 t29 hf) _ _ _ h (lv_sub hl [2, 3, 1, 0] rfl)
            · replace hf := ifp c27 hf
              refine lv_iconst (v := (1 : Int32)) hx hb dX9_nearsOf_85 rfl ?_
              refine lv_goto (tgt := 90) hx hb dX9_nearsOf_86 rfl ?_
              refine lv_isub hx hb dX9_nearsOf_90 ?_
              refine lv_topi (fun t30 et30 => ?_)
              replace hf := lt1_inv et30 hf
              refine lv_istore_n (lv' := [(2, .int t30), (0, .ref h_this), (1, .int p0), (3, .int v3)]) hx hb dX9_nearsOf_91 rfl hl (by decide) rfl (fun ls hl => ?_)
              obtain ⟨t31, et31⟩ : ∃ y : Int32, y = v3 + (1 : Int32) := ⟨_, rfl⟩
              replace hf := lt1_inv et31 hf
              refine lv_iinc (v := t31) (lv' := [(3, .int t31), (2, .int t30), (0, .ref h_this), (1, .int p0)]) hx hb dX9_nearsOf_92 hl (k := 3) rfl (by rw [et31]; rfl) (by decide) rfl (fun ls hl => ?_)
              refine lv_goto (tgt := 45) hx hb dX9_nearsOf_95 rfl ?_
              exact hK2 _ _ _ _ (ih t30 t31 hf) _ _ _ h (lv_sub hl [2, 3, 1, 0] rfl)
  refine lv_aload_n hx hb dX9_nearsOf_0 rfl (lv_at hl 0 rfl) ?_
  refine lv_iload_n hx hb dX9_nearsOf_1 rfl (lv_at hl 1 rfl) ?_
  refine lv_iconst (v := (0 : Int32)) hx hb dX9_nearsOf_2 rfl ?_
  replace hf := bd1_inv hf
  obtain ⟨r1, hc2, hf⟩ := hf
  refine r_ciV0 C h (c_X9_get hc2) mv_X9_79 rfl 0 rfl [0, 1] rfl rfl hl.1 rfl (Nat.le_of_ble_eq_true rfl) (rok (by decide)) dX9_nearsOf_3 (fun H locs h => ?_)
  refine lv_aload_n hx hb dX9_nearsOf_6 rfl (lv_at hl 0 rfl) ?_
  replace hf := bd1_inv hf
  obtain ⟨r3, hc4, hf⟩ := hf
  refine r_ciV0 C h (c_X9_lightNow hc4) mv_X9_83 rfl 0 rfl [0, 1] rfl rfl hl.1 rfl (Nat.le_of_ble_eq_true rfl) (rok (by decide)) dX9_nearsOf_7 (fun H locs h => ?_)
  refine lv_iconst (v := (4 : Int32)) hx hb dX9_nearsOf_10 rfl ?_
  refine lv_idiv hx hb dX9_nearsOf_11 (by decide) ?_
  refine lv_aload_n hx hb dX9_nearsOf_12 rfl (lv_at hl 0 rfl) ?_
  replace hf := bd1_inv hf
  obtain ⟨r5, hc6, hf⟩ := hf
  refine r_ciV0 C h (c_X9_lightNow hc6) mv_X9_83 rfl 0 rfl [0, 1] rfl rfl hl.1 rfl (Nat.le_of_ble_eq_true rfl) (rok (by decide)) dX9_nearsOf_13 (fun H locs h => ?_)
  refine lv_iconst (v := (4 : Int32)) hx hb dX9_nearsOf_16 rfl ?_
  refine lv_irem hx hb dX9_nearsOf_17 (by decide) ?_
  refine lv_aload_n hx hb dX9_nearsOf_18 rfl (lv_at hl 0 rfl) ?_
  refine r_get C h fk_X9_9 0 rfl rfl dX9_nearsOf_19 ?_
  refine lv_iconst (v := (0 : Int32)) hx hb dX9_nearsOf_22 rfl ?_
  refine r_ialdL C h 1 rfl (vlit rfl) 0 rfl dX9_nearsOf_23 ?_
  replace hf := bd1_inv hf
  obtain ⟨r7, hc8, hf⟩ := hf
  refine r_ciS0 C h (c_X9_nearsBy hc8) ms_X9_87 rfl [] rfl rfl hl.1 rfl (Nat.le_of_ble_eq_true rfl) (rok (by decide)) dX9_nearsOf_24 (fun H locs h => ?_)
  refine lv_aload_n hx hb dX9_nearsOf_27 rfl (lv_at hl 0 rfl) ?_
  refine r_get C h fk_X9_9 0 rfl rfl dX9_nearsOf_28 ?_
  refine lv_bipush (v := (23 : Int32)) hx hb dX9_nearsOf_31 rfl ?_
  refine lv_aload_n hx hb dX9_nearsOf_33 rfl (lv_at hl 0 rfl) ?_
  refine lv_iload_n hx hb dX9_nearsOf_34 rfl (lv_at hl 1 rfl) ?_
  refine lv_iconst (v := (3 : Int32)) hx hb dX9_nearsOf_35 rfl ?_
  replace hf := bd1_inv hf
  obtain ⟨r9, hc10, hf⟩ := hf
  refine r_ciV0 C h (c_X9_get hc10) mv_X9_79 rfl 0 rfl [0, 1] rfl rfl hl.1 rfl (Nat.le_of_ble_eq_true rfl) (rok (by decide)) dX9_nearsOf_36 (fun H locs h => ?_)
  refine lv_iadd hx hb dX9_nearsOf_39 ?_
  replace hf := chkI_inv hf
  obtain ⟨hi11, hf⟩ := hf
  refine r_iald C h 1 rfl hi11 dX9_nearsOf_40 ?_
  refine lv_iadd hx hb dX9_nearsOf_41 ?_
  refine lv_topi (fun t12 et12 => ?_)
  replace hf := lt1_inv et12 hf
  refine lv_istore_n (lv' := [(2, .int t12), (0, .ref h_this), (1, .int p0)]) hx hb dX9_nearsOf_42 rfl hl (by decide) rfl (fun ls hl => ?_)
  refine lv_iconst (v := (0 : Int32)) hx hb dX9_nearsOf_43 rfl ?_
  refine lv_istore_n (lv' := [(3, .int (0 : Int32)), (2, .int t12), (0, .ref h_this), (1, .int p0)]) hx hb dX9_nearsOf_44 rfl hl (by decide) rfl (fun ls hl => ?_)
  exact hK2 _ _ _ _ (L45 1000 t12 (0 : Int32) hf) _ _ _ h (lv_sub hl [2, 3, 1, 0] rfl)
