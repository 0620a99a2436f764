set_option maxRecDepth 100000 in
set_option maxHeartbeats 4000000 in
theorem c_X9_seed {l : Launch} {G : Gt} {h_this h_this_s h_this_kept h_this_laid h_this_pile h_this_tape h_this_letters h_this_code0 h_this_read h_this_saved h_this_plan h_this_bestPlan h_this_offThen h_this_paidThen h_this_rows h_this_sorts h_this_sizes h_this_number h_this_holds h_this_heldOne h_this_trace : Nat} {p0 : Int32} {x_this_isKept : Int32} {x_this_taped : Int32} {x_this_at : Int32} {x_this_begun : Int32} {x_this_token : Int32} {x_this_value : Int32} {x_this_opened : Int32} {x_this_steps : Int32} {x_this_most : Int32} {x_this_many : Int32} {x_this_few : Int32} {x_this_everHome : Int32} {x_this_firstFit : Int32} {x_this_rowMany : Int32} {x_this_traced : Int32} {x_this_own : Int32} {x_this_isParted : Int32} {f_this_s : Nat → Int32} {r : Int32} {m_this_s : Nat → Int32} (hf : f_X9_seed p0 f_this_s = some (r, m_this_s)) : mFi l G yX9_seed cX9_seed 2 .int 1 [.ref h_this, .int p0] [(h_this, ob 9 [.ref h_this_s, .ref h_this_kept, .ref h_this_laid, .int x_this_isKept, .ref h_this_pile, .ref h_this_tape, .int x_this_taped, .ref h_this_letters, .int x_this_at, .int x_this_begun, .int x_this_token, .int x_this_value, .int x_this_opened, .int x_this_steps, .ref h_this_code0, .ref h_this_read, .ref h_this_saved, .ref h_this_plan, .ref h_this_bestPlan, .int x_this_most, .int x_this_many, .int x_this_few, .int x_this_everHome, .ref h_this_offThen, .ref h_this_paidThen, .int x_this_firstFit, .ref h_this_rows, .int x_this_rowMany, .ref h_this_sorts, .ref h_this_sizes, .ref h_this_number, .ref h_this_holds, .ref h_this_heldOne, .ref h_this_trace, .int x_this_traced, .int x_this_own, .int x_this_isParted]), (h_this_s, ia G 313 f_this_s)] r [(h_this, ob 9 [.ref h_this_s, .ref h_this_kept, .ref h_this_laid, .int x_this_isKept, .ref h_this_pile, .ref h_this_tape, .int x_this_taped, .ref h_this_letters, .int x_this_at, .int x_this_begun, .int x_this_token, .int x_this_value, .int x_this_opened, .int x_this_steps, .ref h_this_code0, .ref h_this_read, .ref h_this_saved, .ref h_this_plan, .ref h_this_bestPlan, .int x_this_most, .int x_this_many, .int x_this_few, .int x_this_everHome, .ref h_this_offThen, .ref h_this_paidThen, .int x_this_firstFit, .ref h_this_rows, .int x_this_rowMany, .ref h_this_sorts, .ref h_this_sizes, .ref h_this_number, .ref h_this_holds, .ref h_this_heldOne, .ref h_this_trace, .int x_this_traced, .int x_this_own, .int x_this_isParted]), (h_this_s, ia G 313 m_this_s)] := by
  refine mFi.of (by decide +kernel) (Nat.le_of_ble_eq_true rfl) ?_
  intro p e s m below meth c A C hr hlk h ls hl
  obtain ⟨hx, hb, hml, hown, hts⟩ := id C
  replace hl : lv_has ls 2 [(0, .ref h_this), (1, .int p0)] := hl
  unfold f_X9_seed at hf
  refine lv_aload_n hx hb dX9_seed_0 rfl (lv_at hl 0 rfl) ?_
  refine lv_iconst (v := (3 : Int32)) hx hb dX9_seed_1 rfl ?_
  refine lv_iload_n hx hb dX9_seed_2 rfl (lv_at hl 1 rfl) ?_
  replace hf := bd2_inv hf
  obtain ⟨r1, g2, hc3, hf⟩ := hf
  refine r_ciV (ws' := [(h_this, ob 9 [.ref h_this_s, .ref h_this_kept, .ref h_this_laid, .int x_this_isKept, .ref h_this_pile, .ref h_this_tape, .int x_this_taped, .ref h_this_letters, .int x_this_at, .int x_this_begun, .int x_this_token, .int x_this_value, .int x_this_opened, .int x_this_steps, .ref h_this_code0, .ref h_this_read, .ref h_this_saved, .ref h_this_plan, .ref h_this_bestPlan, .int x_this_most, .int x_this_many, .int x_this_few, .int x_this_everHome, .ref h_this_offThen, .ref h_this_paidThen, .int x_this_firstFit, .ref h_this_rows, .int x_this_rowMany, .ref h_this_sorts, .ref h_this_sizes, .ref h_this_number, .ref h_this_holds, .ref h_this_heldOne, .ref h_this_trace, .int x_this_traced, .int x_this_own, .int x_this_isParted]), (h_this_s, ia G 313 g2)]) C h (c_X9_becomes hc3) mv_X9_229 rfl 0 rfl [0, 1] rfl rfl [1] [(h_this_s, ia G 313 g2)] rfl rfl (by decide +kernel) rfl hl.1 rfl (Nat.le_of_ble_eq_true rfl) (rok (by decide)) dX9_seed_3 (fun H locs h => ?_)
  cases hf
  exact r_iret C h hr hlk rfl dX9_seed_6
set_option maxRecDepth 100000 in
set_option maxHeartbeats 4000000 in
theorem c_X9_byLot {l : Launch} {G : Gt} {h_this h_this_s h_this_kept h_this_laid h_this_pile h_this_tape h_this_letters h_this_code0 h_this_read h_this_saved h_this_plan h_this_bestPlan h_this_offThen h_this_paidThen h_this_rows h_this_sorts h_this_sizes h_this_number h_this_holds h_this_heldOne h_this_trace : Nat} {x_this_isKept : Int32} {x_this_taped : Int32} {x_this_at : Int32} {x_this_begun : Int32} {x_this_token : Int32} {x_this_value : Int32} {x_this_opened : Int32} {x_this_steps : Int32} {x_this_most : Int32} {x_this_many : Int32} {x_this_few : Int32} {x_this_everHome : Int32} {x_this_firstFit : Int32} {x_this_rowMany : Int32} {x_this_traced : Int32} {x_this_own : Int32} {x_this_isParted : Int32} {f_this_pile : Nat → Int32} {f_this_s : Nat → Int32} {r : Int32} {m_this_pile : Nat → Int32} {m_this_s : Nat → Int32} (hf : f_X9_byLot f_this_pile f_this_s = some (r, m_this_pile, m_this_s)) : mFi l G yX9_byLot cX9_byLot 1 .int 7 [.ref h_this] [(h_this, ob 9 [.ref h_this_s, .ref h_this_kept, .ref h_this_laid, .int x_this_isKept, .ref h_this_pile, .ref h_this_tape, .int x_this_taped, .ref h_this_letters, .int x_this_at, .int x_this_begun, .int x_this_token, .int x_this_value, .int x_this_opened, .int x_this_steps, .ref h_this_code0, .ref h_this_read, .ref h_this_saved, .ref h_this_plan, .ref h_this_bestPlan, .int x_this_most, .int x_this_many, .int x_this_few, .int x_this_everHome, .ref h_this_offThen, .ref h_this_paidThen, .int x_this_firstFit, .ref h_this_rows, .int x_this_rowMany, .ref h_this_sorts, .ref h_this_sizes, .ref h_this_number, .ref h_this_holds, .ref h_this_heldOne, .ref h_this_trace, .int x_this_traced, .int x_this_own, .int x_this_isParted]), (h_this_pile, ia G 200 f_this_pile), (h_this_s, ia G 313 f_this_s)] r [(h_this, ob 9 [.ref h_this_s, .ref h_this_kept, .ref h_this_laid, .int x_this_isKept, .ref h_this_pile, .ref h_this_tape, .int x_this_taped, .ref h_this_letters, .int x_this_at, .int x_this_begun, .int x_this_token, .int x_this_value, .int x_this_opened, .int x_this_steps, .ref h_this_code0, .ref h_this_read, .ref h_this_saved, .ref h_this_plan, .ref h_this_bestPlan, .int x_this_most, .int x_this_many, .int x_this_few, .int x_this_everHome, .ref h_this_offThen, .ref h_this_paidThen, .int x_this_firstFit, .ref h_this_rows, .int x_this_rowMany, .ref h_this_sorts, .ref h_this_sizes, .ref h_this_number, .ref h_this_holds, .ref h_this_heldOne, .ref h_this_trace, .int x_this_traced, .int x_this_own, .int x_this_isParted]), (h_this_pile, ia G 200 m_this_pile), (h_this_s, ia G 313 m_this_s)] := by
  refine mFi.of (by decide +kernel) (Nat.le_of_ble_eq_true rfl) ?_
  intro p e s m below meth c A C hr hlk h ls hl
  obtain ⟨hx, hb, hml, hown, hts⟩ := id C
  replace hl : lv_has ls 1 [(0, .ref h_this)] := hl
  unfold f_X9_byLot at hf
  refine lv_aload_n hx hb dX9_byLot_0 rfl (lv_at hl 0 rfl) ?_
  refine r_get C h fk_X9_9 0 rfl rfl dX9_byLot_1 ?_
  refine lv_iconst (v := (3 : Int32)) hx hb dX9_byLot_4 rfl ?_
  refine lv_aload_n hx hb dX9_byLot_5 rfl (lv_at hl 0 rfl) ?_
  refine r_get C h fk_X9_9 0 rfl rfl dX9_byLot_6 ?_
  refine lv_iconst (v := (3 : Int32)) hx hb dX9_byLot_9 rfl ?_
  refine r_ialdL C h 2 rfl (vlit rfl) 3 rfl dX9_byLot_10 ?_
  refine lv_ldcw hx hb hown (hts _ cw_X9_316) dX9_byLot_11 ?_
  refine lv_imul hx hb dX9_byLot_14 ?_
  refine lv_sipush (v := (12345 : Int32)) hx hb dX9_byLot_15 rfl ?_
  refine lv_iadd hx hb dX9_byLot_18 ?_
  refine lv_topi (fun t1 et1 => ?_)
  replace hf := lt1_inv et1 hf
  refine r_iastL (ws' := [(h_this, ob 9 [.ref h_this_s, .ref h_this_kept, .ref h_this_laid, .int x_this_isKept, .ref h_this_pile, .ref h_this_tape, .int x_this_taped, .ref h_this_letters, .int x_this_at, .int x_this_begun, .int x_this_token, .int x_this_value, .int x_this_opened, .int x_this_steps, .ref h_this_code0, .ref h_this_read, .ref h_this_saved, .ref h_this_plan, .ref h_this_bestPlan, .int x_this_most, .int x_this_many, .int x_this_few, .int x_this_everHome, .ref h_this_offThen, .ref h_this_paidThen, .int x_this_firstFit, .ref h_this_rows, .int x_this_rowMany, .ref h_this_sorts, .ref h_this_sizes, .ref h_this_number, .ref h_this_holds, .ref h_this_heldOne, .ref h_this_trace, .int x_this_traced, .int x_this_own, .int x_this_isParted]), (h_this_pile, ia G 200 f_this_pile), (h_this_s, ia G 313 (upd f_this_s 3 t1))]) C h 2 rfl (vlit rfl) 3 rfl dX9_byLot_19 rfl (fun H locs h => ?_)
  refine lv_aload_n hx hb dX9_byLot_20 rfl (lv_at hl 0 rfl) ?_
  refine lv_aload_n hx hb dX9_byLot_21 rfl (lv_at hl 0 rfl) ?_
  refine r_get C h fk_X9_9 0 rfl rfl dX9_byLot_22 ?_
  refine lv_iconst (v := (3 : Int32)) hx hb dX9_byLot_25 rfl ?_
  refine r_ialdL C h 2 rfl (vlit rfl) 3 rfl dX9_byLot_26 ?_
  refine lv_bipush (v := (16 : Int32)) hx hb dX9_byLot_27 rfl ?_
  refine lv_iushr (v := iushr ((upd f_this_s 3 t1) 3) (16 : Int32)) hx hb dX9_byLot_29 rfl ?_
  refine lv_aload_n hx hb dX9_byLot_30 rfl (lv_at hl 0 rfl) ?_
  refine r_get C h fk_X9_9 0 rfl rfl dX9_byLot_31 ?_
  refine lv_iconst (v := (4 : Int32)) hx hb dX9_byLot_34 rfl ?_
  refine r_ialdL C h 2 rfl (vlit rfl) 4 rfl dX9_byLot_35 ?_
  refine lv_iconst (v := (1 : Int32)) hx hb dX9_byLot_36 rfl ?_
  refine lv_iadd hx hb dX9_byLot_37 ?_
  replace hf := chkD_inv hf
  obtain ⟨hd2, hf⟩ := hf
  refine lv_irem hx hb dX9_byLot_38 hd2 ?_
  replace hf := bd3_inv hf
  obtain ⟨r3, g4, g5, hc6, hf⟩ := hf
  refine r_ciV (ws' := [(h_this, ob 9 [.ref h_this_s, .ref h_this_kept, .ref h_this_laid, .int x_this_isKept, .ref h_this_pile, .ref h_this_tape, .int x_this_taped, .ref h_this_letters, .int x_this_at, .int x_this_begun, .int x_this_token, .int x_this_value, .int x_this_opened, .int x_this_steps, .ref h_this_code0, .ref h_this_read, .ref h_this_saved, .ref h_this_plan, .ref h_this_bestPlan, .int x_this_most, .int x_this_many, .int x_this_few, .int x_this_everHome, .ref h_this_offThen, .ref h_this_paidThen, .int x_this_firstFit, .ref h_this_rows, .int x_this_rowMany, .ref h_this_sorts, .ref h_this_sizes, .ref h_this_number, .ref h_this_holds, .ref h_this_heldOne, .ref h_this_trace, .int x_this_traced, .int x_this_own, .int x_this_isParted]), (h_this_pile, ia G 200 g4), (h_this_s, ia G 313 g5)]) C h (c_X9_goesBy hc6) mv_X9_238 rfl 0 rfl [0, 1, 2] rfl rfl [1, 2] [(h_this_pile, ia G 200 g4), (h_this_s, ia G 313 g5)] rfl rfl (by decide +kernel) rfl hl.1 rfl (Nat.le_of_ble_eq_true rfl) (rok (by decide)) dX9_byLot_39 (fun H locs h => ?_)
  cases hf
  exact r_iret C h hr hlk rfl dX9_byLot_42
set_option maxRecDepth 100000 in
set_option maxHeartbeats 4000000 in
theorem c_X9_lot {l : Launch} {G : Gt} {h_this h_this_s h_this_kept h_this_laid h_this_pile h_this_tape h_this_letters h_this_code0 h_this_read h_this_saved h_this_plan h_this_bestPlan h_this_offThen h_this_paidThen h_this_rows h_this_sorts h_this_sizes h_this_number h_this_holds h_this_heldOne h_this_trace : Nat} {x_this_isKept : Int32} {x_this_taped : Int32} {x_this_at : Int32} {x_this_begun : Int32} {x_this_token : Int32} {x_this_value : Int32} {x_this_opened : Int32} {x_this_steps : Int32} {x_this_most : Int32} {x_this_many : Int32} {x_this_few : Int32} {x_this_everHome : Int32} {x_this_firstFit : Int32} {x_this_rowMany : Int32} {x_this_traced : Int32} {x_this_own : Int32} {x_this_isParted : Int32} {f_this_pile : Nat → Int32} {f_this_s : Nat → Int32} {r : Int32} {m_this_pile : Nat → Int32} {m_this_s : Nat → Int32} (hf : f_X9_lot f_this_pile f_this_s = some (r, m_this_pile, m_this_s)) : mFi l G yX9_lot cX9_lot 1 .int 8 [.ref h_this] [(h_this, ob 9 [.ref h_this_s, .ref h_this_kept, .ref h_this_laid, .int x_this_isKept, .ref h_this_pile, .ref h_this_tape, .int x_this_taped, .ref h_this_letters, .int x_this_at, .int x_this_begun, .int x_this_token, .int x_this_value, .int x_this_opened, .int x_this_steps, .ref h_this_code0, .ref h_this_read, .ref h_this_saved, .ref h_this_plan, .ref h_this_bestPlan, .int x_this_most, .int x_this_many, .int x_this_few, .int x_this_everHome, .ref h_this_offThen, .ref h_this_paidThen, .int x_this_firstFit, .ref h_this_rows, .int x_this_rowMany, .ref h_this_sorts, .ref h_this_sizes, .ref h_this_number, .ref h_this_holds, .ref h_this_heldOne, .ref h_this_trace, .int x_this_traced, .int x_this_own, .int x_this_isParted]), (h_this_pile, ia G 200 f_this_pile), (h_this_s, ia G 313 f_this_s)] r [(h_this, ob 9 [.ref h_this_s, .ref h_this_kept, .ref h_this_laid, .int x_this_isKept, .ref h_this_pile, .ref h_this_tape, .int x_this_taped, .ref h_this_letters, .int x_this_at, .int x_this_begun, .int x_this_token, .int x_this_value, .int x_this_opened, .int x_this_steps, .ref h_this_code0, .ref h_this_read, .ref h_this_saved, .ref h_this_plan, .ref h_this_bestPlan, .int x_this_most, .int x_this_many, .int x_this_few, .int x_this_everHome, .ref h_this_offThen, .ref h_this_paidThen, .int x_this_firstFit, .ref h_this_rows, .int x_this_rowMany, .ref h_this_sorts, .ref h_this_sizes, .ref h_this_number, .ref h_this_holds, .ref h_this_heldOne, .ref h_this_trace, .int x_this_traced, .int x_this_own, .int x_this_isParted]), (h_this_pile, ia G 200 m_this_pile), (h_this_s, ia G 313 m_this_s)] := by
  refine mFi.of (by decide +kernel) (Nat.le_of_ble_eq_true rfl) ?_
  intro p e s m below meth c A C hr hlk h ls hl
  obtain ⟨hx, hb, hml, hown, hts⟩ := id C
  replace hl : lv_has ls 1 [(0, .ref h_this)] := hl
  unfold f_X9_lot at hf
  refine lv_aload_n hx hb dX9_lot_0 rfl (lv_at hl 0 rfl) ?_
  replace hf := bd1_inv hf
  obtain ⟨r1, hc2, hf⟩ := hf
  refine r_ciV0 C h (c_X9_isOver hc2) mv_X9_232 rfl 0 rfl [0, 2] rfl rfl hl.1 rfl (Nat.le_of_ble_eq_true rfl) (rok (by decide)) dX9_lot_1 (fun H locs h => ?_)
  refine lv_if_eq (tgt := 12) hx hb dX9_lot_4 rfl (fun c3 => ?_) (fun c3 => ?_)
  · replace hf := ifp c3 hf
    refine lv_aload_n hx hb dX9_lot_12 rfl (lv_at hl 0 rfl) ?_
    replace hf := bd3_inv hf
    obtain ⟨r4, g5, g6, hc7, hf⟩ := hf
    refine r_ciV (ws' := [(h_this, ob 9 [.ref h_this_s, .ref h_this_kept, .ref h_this_laid, .int x_this_isKept, .ref h_this_pile, .ref h_this_tape, .int x_this_taped, .ref h_this_letters, .int x_this_at, .int x_this_begun, .int x_this_token, .int x_this_value, .int x_this_opened, .int x_this_steps, .ref h_this_code0, .ref h_this_read, .ref h_this_saved, .ref h_this_plan, .ref h_this_bestPlan, .int x_this_most, .int x_this_many, .int x_this_few, .int x_this_everHome, .ref h_this_offThen, .ref h_this_paidThen, .int x_this_firstFit, .ref h_this_rows, .int x_this_rowMany, .ref h_this_sorts, .ref h_this_sizes, .ref h_this_number, .ref h_this_holds, .ref h_this_heldOne, .ref h_this_trace, .int x_this_traced, .int x_this_own, .int x_this_isParted]), (h_this_pile, ia G 200 g5), (h_this_s, ia G 313 g6)]) C h (c_X9_byLot hc7) mv_X9_317 rfl 0 rfl [0, 1, 2] rfl rfl [1, 2] [(h_this_pile, ia G 200 g5), (h_this_s, ia G 313 g6)] rfl rfl (by decide +kernel) rfl hl.1 rfl (Nat.le_of_ble_eq_true rfl) (rok (by decide)) dX9_lot_13 (fun H locs h => ?_)
    cases hf
    exact r_iret C h hr hlk rfl dX9_lot_16
  · replace hf := ifn c3 hf
    refine lv_bipush (v := (-4 : Int32)) hx hb dX9_lot_7 rfl ?_
    refine lv_goto (tgt := 16) hx hb dX9_lot_9 rfl ?_
    cases hf
    exact r_iret C h hr hlk rfl dX9_lot_16
set_option maxRecDepth 100000 in
set_option maxHeartbeats 4000000 in
theorem c_X9_times {l : Launch} {G : Gt} {h_this h_this_s h_this_kept h_this_laid h_this_pile h_this_tape h_this_letters h_this_code0 h_this_read h_this_saved h_this_plan h_this_bestPlan h_this_offThen h_this_paidThen h_this_rows h_this_sorts h_this_sizes h_this_number h_this_holds h_this_heldOne h_this_trace : Nat} {p0 : Int32} {p1 : Int32} {x_this_isKept : Int32} {x_this_taped : Int32} {x_this_at : Int32} {x_this_begun : Int32} {x_this_token : Int32} {x_this_value : Int32} {x_this_opened : Int32} {x_this_steps : Int32} {x_this_most : Int32} {x_this_many : Int32} {x_this_few : Int32} {x_this_everHome : Int32} {x_this_firstFit : Int32} {x_this_rowMany : Int32} {x_this_traced : Int32} {x_this_own : Int32} {x_this_isParted : Int32} {f_this_laid : Nat → Int32} {f_this_pile : Nat → Int32} {f_this_s : Nat → Int32} {r : Int32} {m_this_laid : Nat → Int32} {m_this_pile : Nat → Int32} {m_this_s : Nat → Int32} (hf : f_X9_times p0 p1 f_this_laid f_this_pile f_this_s = some (r, m_this_laid, m_this_pile, m_this_s)) : mFi l G yX9_times cX9_times 7 .int 8 [.ref h_this, .int p0, .int p1] [(h_this, ob 9 [.ref h_this_s, .ref h_this_kept, .ref h_this_laid, .int x_this_isKept, .ref h_this_pile, .ref h_this_tape, .int x_this_taped, .ref h_this_letters, .int x_this_at, .int x_this_begun, .int x_this_token, .int x_this_value, .int x_this_opened, .int x_this_steps, .ref h_this_code0, .ref h_this_read, .ref h_this_saved, .ref h_this_plan, .ref h_this_bestPlan, .int x_this_most, .int x_this_many, .int x_this_few, .int x_this_everHome, .ref h_this_offThen, .ref h_this_paidThen, .int x_this_firstFit, .ref h_this_rows, .int x_this_rowMany, .ref h_this_sorts, .ref h_this_sizes, .ref h_this_number, .ref h_this_holds, .ref h_this_heldOne, .ref h_this_trace, .int x_this_traced, .int x_this_own, .int x_this_isParted]), (h_this_laid, ia G 65 f_this_laid), (h_this_pile, ia G 200 f_this_pile), (h_this_s, ia G 313 f_this_s)] r [(h_this, ob 9 [.ref h_this_s, .ref h_this_kept, .ref h_this_laid, .int x_this_isKept, .ref h_this_pile, .ref h_this_tape, .int x_this_taped, .ref h_this_letters, .int x_this_at, .int x_this_begun, .int x_this_token, .int x_this_value, .int x_this_opened, .int x_this_steps, .ref h_this_code0, .ref h_this_read, .ref h_this_saved, .ref h_this_plan, .ref h_this_bestPlan, .int x_this_most, .int x_this_many, .int x_this_few, .int x_this_everHome, .ref h_this_offThen, .ref h_this_paidThen, .int x_this_firstFit, .ref h_this_rows, .int x_this_rowMany, .ref h_this_sorts, .ref h_this_sizes, .ref h_this_number, .ref h_this_holds, .ref h_this_heldOne, .ref h_this_trace, .int x_this_traced, .int x_this_own, .int x_this_isParted]), (h_this_laid, ia G 65 m_this_laid), (h_this_pile, ia G 200 m_this_pile), (h_this_s, ia G 313 m_this_s)] := by
  refine mFi.of (by decide +kernel) (Nat.le_of_ble_eq_true rfl) ?_
  intro p e s m below meth c A C hr hlk h ls hl
  obtain ⟨hx, hb, hml, hown, hts⟩ := id C
  replace hl : lv_has ls 7 [(0, .ref h_this), (1, .int p0), (2, .int p1)] := hl
  unfold f_X9_times at hf
  refine with_K G A 7 (fun K hK1 hK2 => ?_)
  have B72 : ∀ (rec32 : Int32 → Int32 → (Nat → Int32) → (Nat → Int32) → (Nat → Int32) → Option (Int32 × (Nat → Int32) × (Nat → Int32) × (Nat → Int32))) (hrec32 : ∀ (v3 : Int32) (v4 : Int32) (g_this_laid : Nat → Int32) (g_this_pile : Nat → Int32) (g_this_s : Nat → Int32), rec32 v3 v4 g_this_laid g_this_pile g_this_s = some (r, m_this_laid, m_this_pile, m_this_s) → K 32 ([] : List Value) [(h_this, ob 9 [.ref h_this_s, .ref h_this_kept, .ref h_this_laid, .int x_this_isKept, .ref h_this_pile, .ref h_this_tape, .int x_this_taped, .ref h_this_letters, .int x_this_at, .int x_this_begun, .int x_this_token, .int x_this_value, .int x_this_opened, .int x_this_steps, .ref h_this_code0, .ref h_this_read, .ref h_this_saved, .ref h_this_plan, .ref h_this_bestPlan, .int x_this_most, .int x_this_many, .int x_this_few, .int x_this_everHome, .ref h_this_offThen, .ref h_this_paidThen, .int x_this_firstFit, .ref h_this_rows, .int x_this_rowMany, .ref h_this_sorts, .ref h_this_sizes, .ref h_this_number, .ref h_this_holds, .ref h_this_heldOne, .ref h_this_trace, .int x_this_traced, .int x_this_own, .int x_this_isParted]), (h_this_laid, ia G 65 g_this_laid), (h_this_pile, ia G 200 g_this_pile), (h_this_s, ia G 313 g_this_s)] [(0, .ref h_this), (1, .int p0), (2, .int p1), (3, .int v3), (4, .int v4)]) (v4 : Int32) (s0 : Int32) (s1 : Int32) (g_this_laid : Nat → Int32) (g_this_pile : Nat → Int32) (g_this_s : Nat → Int32), f_X9_times_b72 rec32 v4 s0 s1 g_this_laid g_this_pile g_this_s = some (r, m_this_laid, m_this_pile, m_this_s) → K 72 [.int s1, .int s0] [(h_this, ob 9 [.ref h_this_s, .ref h_this_kept, .ref h_this_laid, .int x_this_isKept, .ref h_this_pile, .ref h_this_tape, .int x_this_taped, .ref h_this_letters, .int x_this_at, .int x_this_begun, .int x_this_token, .int x_this_value, .int x_this_opened, .int x_this_steps, .ref h_this_code0, .ref h_this_read, .ref h_this_saved, .ref h_this_plan, .ref h_this_bestPlan, .int x_this_most, .int x_this_many, .int x_this_few, .int x_this_everHome, .ref h_this_offThen, .ref h_this_paidThen, .int x_this_firstFit, .ref h_this_rows, .int x_this_rowMany, .ref h_this_sorts, .ref h_this_sizes, .ref h_this_number, .ref h_this_holds, .ref h_this_heldOne, .ref h_this_trace, .int x_this_traced, .int x_this_own, .int x_this_isParted]), (h_this_laid, ia G 65 g_this_laid), (h_this_pile, ia G 200 g_this_pile), (h_this_s, ia G 313 g_this_s)] [(0, .ref h_this), (1, .int p0), (2, .int p1), (4, .int v4)] := by
    intro rec32 hrec32 v4 s0 s1 g_this_laid g_this_pile g_this_s hf
    unfold f_X9_times_b72 at hf
    refine hK1 _ _ _ _ (fun H locs ls h hl => ?_)
    refine lv_iadd hx hb dX9_times_72 ?_
    refine lv_topi (fun t16 et16 => ?_)
    replace hf := lt1_inv et16 hf
    refine lv_istore_n (lv' := [(3, .int t16), (0, .ref h_this), (1, .int p0), (2, .int p1), (4, .int v4)]) hx hb dX9_times_73 rfl hl (by decide) rfl (fun ls hl => ?_)
    refine lv_aload_n hx hb dX9_times_74 rfl (lv_at hl 1 rfl) ?_
    refine r_get C h fk_X9_9 0 rfl rfl dX9_times_75 ?_
    refine lv_iconst (v := (3 : Int32)) hx hb dX9_times_78 rfl ?_
    refine r_ialdL C h 3 rfl (vlit rfl) 3 rfl dX9_times_79 ?_
    refine lv_topi (fun t17 et17 => ?_)
    replace hf := lt1_inv et17 hf
    refine lv_istore (lv' := [(6, .int t17), (3, .int t16), (0, .ref h_this), (1, .int p0), (2, .int p1), (4, .int v4)]) hx hb dX9_times_80 hl (by decide) rfl (fun ls hl => ?_)
    refine lv_aload_n hx hb dX9_times_82 rfl (lv_at hl 2 rfl) ?_
    replace hf := bd1_inv hf
    obtain ⟨g18, hc19, hf⟩ := hf
    refine r_cvV (ws' := [(h_this, ob 9 [.ref h_this_s, .ref h_this_kept, .ref h_this_laid, .int x_this_isKept, .ref h_this_pile, .ref h_this_tape, .int x_this_taped, .ref h_this_letters, .int x_this_at, .int x_this_begun, .int x_this_token, .int x_this_value, .int x_this_opened, .int x_this_steps, .ref h_this_code0, .ref h_this_read, .ref h_this_saved, .ref h_this_plan, .ref h_this_bestPlan, .int x_this_most, .int x_this_many, .int x_this_few, .int x_this_everHome, .ref h_this_offThen, .ref h_this_paidThen, .int x_this_firstFit, .ref h_this_rows, .int x_this_rowMany, .ref h_this_sorts, .ref h_this_sizes, .ref h_this_number, .ref h_this_holds, .ref h_this_heldOne, .ref h_this_trace, .int x_this_traced, .int x_this_own, .int x_this_isParted]), (h_this_laid, ia G 65 g_this_laid), (h_this_pile, ia G 200 g_this_pile), (h_this_s, ia G 313 g18)]) C h (c_X9_layBack hc19) mv_X9_247 rfl 0 rfl [0, 1, 3] rfl rfl [3] [(h_this_s, ia G 313 g18)] rfl rfl (by decide +kernel) rfl hl.1 rfl (Nat.le_of_ble_eq_true rfl) (rok (by decide)) dX9_times_83 (fun H locs h => ?_)
    refine lv_aload_n hx hb dX9_times_86 rfl (lv_at hl 2 rfl) ?_
    refine r_get C h fk_X9_9 0 rfl rfl dX9_times_87 ?_
    refine lv_iconst (v := (3 : Int32)) hx hb dX9_times_90 rfl ?_
    refine lv_iload hx hb dX9_times_91 (lv_at hl 0 rfl) ?_
    refine r_iastL (ws' := [(h_this, ob 9 [.ref h_this_s, .ref h_this_kept, .ref h_this_laid, .int x_this_isKept, .ref h_this_pile, .ref h_this_tape, .int x_this_taped, .ref h_this_letters, .int x_this_at, .int x_this_begun, .int x_this_token, .int x_this_value, .int x_this_opened, .int x_this_steps, .ref h_this_code0, .ref h_this_read, .ref h_this_saved, .ref h_this_plan, .ref h_this_bestPlan, .int x_this_most, .int x_this_many, .int x_this_few, .int x_this_everHome, .ref h_this_offThen, .ref h_this_paidThen, .int x_this_firstFit, .ref h_this_rows, .int x_this_rowMany, .ref h_this_sorts, .ref h_this_sizes, .ref h_this_number, .ref h_this_holds, .ref h_this_heldOne, .ref h_this_trace, .int x_this_traced, .int x_this_own, .int x_this_isParted]), (h_this_laid, ia G 65 g_this_laid), (h_this_pile, ia G 200 g_this_pile), (h_this_s, ia G 313 (upd g18 3 t17))]) C h 3 rfl (vlit rfl) 3 rfl dX9_times_93 rfl (fun H locs h => ?_)
    obtain ⟨t20, et20⟩ : ∃ y : Int32, y = v4 + (1 : Int32) := ⟨_, rfl⟩
    replace hf := lt1_inv et20 hf
    refine lv_iinc (v := t20) (lv' := [(4, .int t20), (6, .int t17), (3, .int t16), (0, .ref h_this), (1, .int p0), (2, .int p1)]) hx hb dX9_times_94 hl (k := 5) rfl (by rw [et20]; rfl) (by decide) rfl (fun ls hl => ?_)
    refine lv_goto (tgt := 32) hx hb dX9_times_97 rfl ?_
    exact hK2 _ _ _ _ (hrec32 t16 t20 g_this_laid g_this_pile (upd g18 3 t17) hf) _ _ _ h (lv_sub hl [3, 4, 5, 2, 0] rfl)
  have B60 : ∀ (rec32 : Int32 → Int32 → (Nat → Int32) → (Nat → Int32) → (Nat → Int32) → Option (Int32 × (Nat → Int32) × (Nat → Int32) × (Nat → Int32))) (hrec32 : ∀ (v3 : Int32) (v4 : Int32) (g_this_laid : Nat → Int32) (g_this_pile : Nat → Int32) (g_this_s : Nat → Int32), rec32 v3 v4 g_this_laid g_this_pile g_this_s = some (r, m_this_laid, m_this_pile, m_this_s) → K 32 ([] : List Value) [(h_this, ob 9 [.ref h_this_s, .ref h_this_kept, .ref h_this_laid, .int x_this_isKept, .ref h_this_pile, .ref h_this_tape, .int x_this_taped, .ref h_this_letters, .int x_this_at, .int x_this_begun, .int x_this_token, .int x_this_value, .int x_this_opened, .int x_this_steps, .ref h_this_code0, .ref h_this_read, .ref h_this_saved, .ref h_this_plan, .ref h_this_bestPlan, .int x_this_most, .int x_this_many, .int x_this_few, .int x_this_everHome, .ref h_this_offThen, .ref h_this_paidThen, .int x_this_firstFit, .ref h_this_rows, .int x_this_rowMany, .ref h_this_sorts, .ref h_this_sizes, .ref h_this_number, .ref h_this_holds, .ref h_this_heldOne, .ref h_this_trace, .int x_this_traced, .int x_this_own, .int x_this_isParted]), (h_this_laid, ia G 65 g_this_laid), (h_this_pile, ia G 200 g_this_pile), (h_this_s, ia G 313 g_this_s)] [(0, .ref h_this), (1, .int p0), (2, .int p1), (3, .int v3), (4, .int v4)]) (v3 : Int32) (v4 : Int32) (v5 : Int32) (g_this_laid : Nat → Int32) (g_this_pile : Nat → Int32) (g_this_s : Nat → Int32), f_X9_times_b60 rec32 p1 v3 v4 v5 g_this_laid g_this_pile g_this_s = some (r, m_this_laid, m_this_pile, m_this_s) → K 60 ([] : List Value) [(h_this, ob 9 [.ref h_this_s, .ref h_this_kept, .ref h_this_laid, .int x_this_isKept, .ref h_this_pile, .ref h_this_tape, .int x_this_taped, .ref h_this_letters, .int x_this_at, .int x_this_begun, .int x_this_token, .int x_this_value, .int x_this_opened, .int x_this_steps, .ref h_this_code0, .ref h_this_read, .ref h_this_saved, .ref h_this_plan, .ref h_this_bestPlan, .int x_this_most, .int x_this_many, .int x_this_few, .int x_this_everHome, .ref h_this_offThen, .ref h_this_paidThen, .int x_this_firstFit, .ref h_this_rows, .int x_this_rowMany, .ref h_this_sorts, .ref h_this_sizes, .ref h_this_number, .ref h_this_holds, .ref h_this_heldOne, .ref h_this_trace, .int x_this_traced, .int x_this_own, .int x_this_isParted]), (h_this_laid, ia G 65 g_this_laid), (h_this_pile, ia G 200 g_this_pile), (h_this_s, ia G 313 g_this_s)] [(0, .ref h_this), (1, .int p0), (2, .int p1), (3, .int v3), (4, .int v4), (5, .int v5)] := by
    intro rec32 hrec32 v3 v4 v5 g_this_laid g_this_pile g_this_s hf
    unfold f_X9_times_b60 at hf
    refine hK1 _ _ _ _ (fun H locs ls h hl => ?_)
    refine lv_iload_n hx hb dX9_times_60 rfl (lv_at hl 3 rfl) ?_
    refine lv_iload hx hb dX9_times_61 (lv_at hl 5 rfl) ?_
    refine lv_iload_n hx hb dX9_times_63 rfl (lv_at hl 2 rfl) ?_
    refine lv_icmp_lt (tgt := 71) hx hb dX9_times_64 rfl (fun c15 => ?_) (fun c15 => ?_)
    · replace hf := ifp c15 hf
      refine lv_iconst (v := (0 : Int32)) hx hb dX9_times_71 rfl ?_
      exact hK2 _ _ _ _ (B72 _ hrec32 v4 v3 (0 : Int32) g_this_laid g_this_pile g_this_s hf) _ _ _ h (lv_sub hl [0, 1, 2, 4] rfl)
    · replace hf := ifn c15 hf
      refine lv_iconst (v := (1 : Int32)) hx hb dX9_times_67 rfl ?_
      refine lv_goto (tgt := 72) hx hb dX9_times_68 rfl ?_
      exact hK2 _ _ _ _ (B72 _ hrec32 v4 v3 (1 : Int32) g_this_laid g_this_pile g_this_s hf) _ _ _ h (lv_sub hl [0, 1, 2, 4] rfl)
  have L41 : ∀ (rec32 : Int32 → Int32 → (Nat → Int32) → (Nat → Int32) → (Nat → Int32) → Option (Int32 × (Nat → Int32) × (Nat → Int32) × (Nat → Int32))) (hrec32 : ∀ (v3 : Int32) (v4 : Int32) (g_this_laid : Nat → Int32) (g_this_pile : Nat → Int32) (g_this_s : Nat → Int32), rec32 v3 v4 g_this_laid g_this_pile g_this_s = some (r, m_this_laid, m_this_pile, m_this_s) → K 32 ([] : List Value) [(h_this, ob 9 [.ref h_this_s, .ref h_this_kept, .ref h_this_laid, .int x_this_isKept, .ref h_this_pile, .ref h_this_tape, .int x_this_taped, .ref h_this_letters, .int x_this_at, .int x_this_begun, .int x_this_token, .int x_this_value, .int x_this_opened, .int x_this_steps, .ref h_this_code0, .ref h_this_read, .ref h_this_saved, .ref h_this_plan, .ref h_this_bestPlan, .int x_this_most, .int x_this_many, .int x_this_few, .int x_this_everHome, .ref h_this_offThen, .ref h_this_paidThen, .int x_this_firstFit, .ref h_this_rows, .int x_this_rowMany, .ref h_this_sorts, .ref h_this_sizes, .ref h_this_number, .ref h_this_holds, .ref h_this_heldOne, .ref h_this_trace, .int x_this_traced, .int x_this_own, .int x_this_isParted]), (h_this_laid, ia G 65 g_this_laid), (h_this_pile, ia G 200 g_this_pile), (h_this_s, ia G 313 g_this_s)] [(0, .ref h_this), (1, .int p0), (2, .int p1), (3, .int v3), (4, .int v4)]) (n : Nat) (v3 : Int32) (v4 : Int32) (v5 : Int32) (g_this_laid : Nat → Int32) (g_this_pile : Nat → Int32) (g_this_s : Nat → Int32), f_X9_times_L41 rec32 p1 n v3 v4 v5 g_this_laid g_this_pile g_this_s = some (r, m_this_laid, m_this_pile, m_this_s) → K 41 ([] : List Value) [(h_this, ob 9 [.ref h_this_s, .ref h_this_kept, .ref h_this_laid, .int x_this_isKept, .ref h_this_pile, .ref h_this_tape, .int x_this_taped, .ref h_this_letters, .int x_this_at, .int x_this_begun, .int x_this_token, .int x_this_value, .int x_this_opened, .int x_this_steps, .ref h_this_code0, .ref h_this_read, .ref h_this_saved, .ref h_this_plan, .ref h_this_bestPlan, .int x_this_most, .int x_this_many, .int x_this_few, .int x_this_everHome, .ref h_this_offThen, .ref h_this_paidThen, .int x_this_firstFit, .ref h_this_rows, .int x_this_rowMany, .ref h_this_sorts, .ref h_this_sizes, .ref h_this_number, .ref h_this_holds, .ref h_this_heldOne, .ref h_this_trace, .int x_this_traced, .int x_this_own, .int x_this_isParted]), (h_this_laid, ia G 65 g_this_laid), (h_this_pile, ia G 200 g_this_pile), (h_this_s, ia G 313 g_this_s)] [(0, .ref h_this), (1, .int p0), (2, .int p1), (3, .int v3), (4, .int v4), (5, .int v5)] := by
    intro rec32 hrec32 n
    induction n with
    | zero =>
      intro v3 v4 v5 g_this_laid g_this_pile g_this_s hf
      replace hf : (none : Option _) = some _ := hf
      cases hf
    | succ n ih =>
      intro v3 v4 v5 g_this_laid g_this_pile g_this_s hf
      rw [f_X9_times_L41] at hf
      refine hK1 _ _ _ _ (fun H locs ls h hl => ?_)
      refine lv_aload_n hx hb dX9_times_41 rfl (lv_at hl 0 rfl) ?_
      replace hf := bd1_inv hf
      obtain ⟨r12, hc13, hf⟩ := hf
      refine r_ciV0 C h (c_X9_isOver hc13) mv_X9_232 rfl 0 rfl [0, 3] rfl rfl hl.1 rfl (Nat.le_of_ble_eq_true rfl) (rok (by decide)) dX9_times_42 (fun H locs h => ?_)
      refine lv_if_ne (tgt := 60) hx hb dX9_times_45 rfl (fun c14 => ?_) (fun c14 => ?_)
      · replace hf := ifn c14 hf
        exact hK2 _ _ _ _ (B60 _ hrec32 v3 v4 v5 g_this_laid g_this_pile g_this_s hf) _ _ _ h (lv_sub hl [0, 1, 2, 3, 4, 5] rfl)
      · replace hf := ifp c14 hf
        refine lv_iload hx hb dX9_times_48 (lv_at hl 5 rfl) ?_
        refine lv_aload_n hx hb dX9_times_50 rfl (lv_at hl 0 rfl) ?_
        replace hf := bd3_inv hf
        obtain ⟨r21, g22, g23, hc24, hf⟩ := hf
        refine r_ciV (ws' := [(h_this, ob 9 [.ref h_this_s, .ref h_this_kept, .ref h_this_laid, .int x_this_isKept, .ref h_this_pile, .ref h_this_tape, .int x_this_taped, .ref h_this_letters, .int x_this_at, .int x_this_begun, .int x_this_token, .int x_this_value, .int x_this_opened, .int x_this_steps, .ref h_this_code0, .ref h_this_read, .ref h_this_saved, .ref h_this_plan, .ref h_this_bestPlan, .int x_this_most, .int x_this_many, .int x_this_few, .int x_this_everHome, .ref h_this_offThen, .ref h_this_paidThen, .int x_this_firstFit, .ref h_this_rows, .int x_this_rowMany, .ref h_this_sorts, .ref h_this_sizes, .ref h_this_number, .ref h_this_holds, .ref h_this_heldOne, .ref h_this_trace, .int x_this_traced, .int x_this_own, .int x_this_isParted]), (h_this_laid, ia G 65 g_this_laid), (h_this_pile, ia G 200 g22), (h_this_s, ia G 313 g23)]) C h (c_X9_byLot hc24) mv_X9_317 rfl 0 rfl [0, 2, 3] rfl rfl [2, 3] [(h_this_pile, ia G 200 g22), (h_this_s, ia G 313 g23)] rfl rfl (by decide +kernel) rfl hl.1 rfl (Nat.le_of_ble_eq_true rfl) (rok (by decide)) dX9_times_51 (fun H locs h => ?_)
        refine lv_iadd hx hb dX9_times_54 ?_
        refine lv_topi (fun t25 et25 => ?_)
        replace hf := lt1_inv et25 hf
        refine lv_istore (lv' := [(5, .int t25), (0, .ref h_this), (1, .int p0), (2, .int p1), (3, .int v3), (4, .int v4)]) hx hb dX9_times_55 hl (by decide) rfl (fun ls hl => ?_)
        refine lv_goto (tgt := 41) hx hb dX9_times_57 rfl ?_
        exact hK2 _ _ _ _ (ih v3 v4 t25 g_this_laid g22 g23 hf) _ _ _ h (lv_sub hl [1, 2, 3, 4, 5, 0] rfl)
  have L32 : ∀ (n : Nat) (v3 : Int32) (v4 : Int32) (g_this_laid : Nat → Int32) (g_this_pile : Nat → Int32) (g_this_s : Nat → Int32), f_X9_times_L32 p0 p1 n v3 v4 g_this_laid g_this_pile g_this_s = some (r, m_this_laid, m_this_pile, m_this_s) → K 32 ([] : List Value) [(h_this, ob 9 [.ref h_this_s, .ref h_this_kept, .ref h_this_laid, .int x_this_isKept, .ref h_this_pile, .ref h_this_tape, .int x_this_taped, .ref h_this_letters, .int x_this_at, .int x_this_begun, .int x_this_token, .int x_this_value, .int x_this_opened, .int x_this_steps, .ref h_this_code0, .ref h_this_read, .ref h_this_saved, .ref h_this_plan, .ref h_this_bestPlan, .int x_this_most, .int x_this_many, .int x_this_few, .int x_this_everHome, .ref h_this_offThen, .ref h_this_paidThen, .int x_this_firstFit, .ref h_this_rows, .int x_this_rowMany, .ref h_this_sorts, .ref h_this_sizes, .ref h_this_number, .ref h_this_holds, .ref h_this_heldOne, .ref h_this_trace, .int x_this_traced, .int x_this_own, .int x_this_isParted]), (h_this_laid, ia G 65 g_this_laid), (h_this_pile, ia G 200 g_this_pile), (h_this_s, ia G 313 g_this_s)] [(0, .ref h_this), (1, .int p0), (2, .int p1), (3, .int v3), (4, .int v4)] := by
    intro n
    induction n with
    | zero =>
      intro v3 v4 g_this_laid g_this_pile g_this_s hf
      replace hf : (none : Option _) = some _ := hf
      cases hf
    | succ n ih =>
      intro v3 v4 g_this_laid g_this_pile g_this_s hf
      rw [f_X9_times_L32] at hf
      refine hK1 _ _ _ _ (fun H locs ls h hl => ?_)
      refine lv_iload hx hb dX9_times_32 (lv_at hl 4 rfl) ?_
      refine lv_iload_n hx hb dX9_times_34 rfl (lv_at hl 1 rfl) ?_
      refine lv_icmp_ge (tgt := 100) hx hb dX9_times_35 rfl (fun c9 => ?_) (fun c9 => ?_)
      · replace hf := ifp c9 hf
        refine lv_aload_n hx hb dX9_times_100 rfl (lv_at hl 0 rfl) ?_
        replace hf := bd1_inv hf
        obtain ⟨g10, hc11, hf⟩ := hf
        refine r_cvV (ws' := [(h_this, ob 9 [.ref h_this_s, .ref h_this_kept, .ref h_this_laid, .int x_this_isKept, .ref h_this_pile, .ref h_this_tape, .int x_this_taped, .ref h_this_letters, .int x_this_at, .int x_this_begun, .int x_this_token, .int x_this_value, .int x_this_opened, .int x_this_steps, .ref h_this_code0, .ref h_this_read, .ref h_this_saved, .ref h_this_plan, .ref h_this_bestPlan, .int x_this_most, .int x_this_many, .int x_this_few, .int x_this_everHome, .ref h_this_offThen, .ref h_this_paidThen, .int x_this_firstFit, .ref h_this_rows, .int x_this_rowMany, .ref h_this_sorts, .ref h_this_sizes, .ref h_this_number, .ref h_this_holds, .ref h_this_heldOne, .ref h_this_trace, .int x_this_traced, .int x_this_own, .int x_this_isParted]), (h_this_laid, ia G 65 g_this_laid), (h_this_pile, ia G 200 g_this_pile), (h_this_s, ia G 313 g10)]) C h (c_X9_layBack hc11) mv_X9_247 rfl 0 rfl [0, 1, 3] rfl rfl [3] [(h_this_s, ia G 313 g10)] rfl rfl (by decide +kernel) rfl hl.1 rfl (Nat.le_of_ble_eq_true rfl) (rok (by decide)) dX9_times_101 (fun H locs h => ?_)
        refine lv_iload_n hx hb dX9_times_104 rfl (lv_at hl 3 rfl) ?_
        cases hf
        exact r_iret C h hr hlk rfl dX9_times_105
      · replace hf := ifn c9 hf
        refine lv_iconst (v := (0 : Int32)) hx hb dX9_times_38 rfl ?_
        refine lv_istore (lv' := [(5, .int (0 : Int32)), (0, .ref h_this), (1, .int p0), (2, .int p1), (3, .int v3), (4, .int v4)]) hx hb dX9_times_39 hl (by decide) rfl (fun ls hl => ?_)
        exact hK2 _ _ _ _ (L41 _ ih 1000 v3 v4 (0 : Int32) g_this_laid g_this_pile g_this_s hf) _ _ _ h (lv_sub hl [1, 2, 3, 4, 5, 0] rfl)
  refine lv_iload_n hx hb dX9_times_0 rfl (lv_at hl 1 rfl) ?_
  refine lv_iconst (v := (1 : Int32)) hx hb dX9_times_1 rfl ?_
  refine lv_bipush (v := (40 : Int32)) hx hb dX9_times_2 rfl ?_
  replace hf := bd1_inv hf
  obtain ⟨r1, hc2, hf⟩ := hf
  refine r_ciS0 C h (c_X9_in1 hc2) ms_X9_71 rfl [] rfl rfl hl.1 rfl (Nat.le_of_ble_eq_true rfl) (rok (by decide)) dX9_times_4 (fun H locs h => ?_)
  refine lv_if_eq (tgt := 21) hx hb dX9_times_7 rfl (fun c3 => ?_) (fun c3 => ?_)
  · replace hf := ifp c3 hf
    refine lv_iconst (v := (-1 : Int32)) hx hb dX9_times_21 rfl ?_
    cases hf
    exact r_iret C h hr hlk rfl dX9_times_22
  · replace hf := ifn c3 hf
    refine lv_iload_n hx hb dX9_times_10 rfl (lv_at hl 2 rfl) ?_
    refine lv_iconst (v := (0 : Int32)) hx hb dX9_times_11 rfl ?_
    refine lv_sipush (v := (999 : Int32)) hx hb dX9_times_12 rfl ?_
    replace hf := bd1_inv hf
    obtain ⟨r4, hc5, hf⟩ := hf
    refine r_ciS0 C h (c_X9_in1 hc5) ms_X9_71 rfl [] rfl rfl hl.1 rfl (Nat.le_of_ble_eq_true rfl) (rok (by decide)) dX9_times_15 (fun H locs h => ?_)
    refine lv_if_ne (tgt := 23) hx hb dX9_times_18 rfl (fun c6 => ?_) (fun c6 => ?_)
    · replace hf := ifn c6 hf
      refine lv_aload_n hx hb dX9_times_23 rfl (lv_at hl 0 rfl) ?_
      replace hf := bd1_inv hf
      obtain ⟨g7, hc8, hf⟩ := hf
      refine r_cvV (ws' := [(h_this, ob 9 [.ref h_this_s, .ref h_this_kept, .ref h_this_laid, .int x_this_isKept, .ref h_this_pile, .ref h_this_tape, .int x_this_taped, .ref h_this_letters, .int x_this_at, .int x_this_begun, .int x_this_token, .int x_this_value, .int x_this_opened, .int x_this_steps, .ref h_this_code0, .ref h_this_read, .ref h_this_saved, .ref h_this_plan, .ref h_this_bestPlan, .int x_this_most, .int x_this_many, .int x_this_few, .int x_this_everHome, .ref h_this_offThen, .ref h_this_paidThen, .int x_this_firstFit, .ref h_this_rows, .int x_this_rowMany, .ref h_this_sorts, .ref h_this_sizes, .ref h_this_number, .ref h_this_holds, .ref h_this_heldOne, .ref h_this_trace, .int x_this_traced, .int x_this_own, .int x_this_isParted]), (h_this_laid, ia G 65 g7), (h_this_pile, ia G 200 f_this_pile), (h_this_s, ia G 313 f_this_s)]) C h (c_X9_layDown hc8) mv_X9_241 rfl 0 rfl [0, 1, 3] rfl rfl [1] [(h_this_laid, ia G 65 g7)] rfl rfl (by decide +kernel) rfl hl.1 rfl (Nat.le_of_ble_eq_true rfl) (rok (by decide)) dX9_times_24 (fun H locs h => ?_)
      refine lv_iconst (v := (0 : Int32)) hx hb dX9_times_27 rfl ?_
      refine lv_istore_n (lv' := [(3, .int (0 : Int32)), (0, .ref h_this), (1, .int p0), (2, .int p1)]) hx hb dX9_times_28 rfl hl (by decide) rfl (fun ls hl => ?_)
      refine lv_iconst (v := (0 : Int32)) hx hb dX9_times_29 rfl ?_
      refine lv_istore (lv' := [(4, .int (0 : Int32)), (3, .int (0 : Int32)), (0, .ref h_this), (1, .int p0), (2, .int p1)]) hx hb dX9_times_30 hl (by decide) rfl (fun ls hl => ?_)
      exact hK2 _ _ _ _ (L32 1000 (0 : Int32) (0 : Int32) g7 f_this_pile f_this_s hf) _ _ _ h (lv_sub hl [2, 3, 4, 1, 0] rfl)
    · replace hf := ifp c6 hf
      refine lv_iconst (v := (-1 : Int32)) hx hb dX9_times_21 rfl ?_
      cases hf
      exact r_iret C h hr hlk rfl dX9_times_22
set_option maxRecDepth 100000 in
set_option maxHeartbeats 4000000 in
theorem c_X9_prove {l : Launch} {G : Gt} {h_this h_this_s h_this_kept h_this_laid h_this_pile h_this_tape h_this_letters h_this_code0 h_this_read h_this_saved h_this_plan h_this_bestPlan h_this_offThen h_this_paidThen h_this_rows h_this_sorts h_this_sizes h_this_number h_this_holds h_this_heldOne h_this_trace : Nat} {p0 : Int32} {x_this_isKept : Int32} {x_this_taped : Int32} {x_this_at : Int32} {x_this_begun : Int32} {x_this_token : Int32} {x_this_value : Int32} {x_this_opened : Int32} {x_this_steps : Int32} {x_this_most : Int32} {x_this_many : Int32} {x_this_few : Int32} {x_this_everHome : Int32} {x_this_firstFit : Int32} {x_this_rowMany : Int32} {x_this_traced : Int32} {x_this_own : Int32} {x_this_isParted : Int32} {f_this_bestPlan : Nat → Int32} {f_this_laid : Nat → Int32} {f_this_pile : Nat → Int32} {f_this_plan : Nat → Int32} {f_this_rows : Nat → Int32} {f_this_s : Nat → Int32} {f_this_saved : Nat → Int32} {r : Int32} {m_this_most : Int32} {m_this_many : Int32} {m_this_few : Int32} {m_this_everHome : Int32} {m_this_rowMany : Int32} {m_this_bestPlan : Nat → Int32} {m_this_laid : Nat → Int32} {m_this_pile : Nat → Int32} {m_this_plan : Nat → Int32} {m_this_rows : Nat → Int32} {m_this_s : Nat → Int32} {m_this_saved : Nat → Int32} (hf : f_X9_prove p0 x_this_most x_this_many x_this_few x_this_everHome x_this_rowMany f_this_bestPlan f_this_laid f_this_pile f_this_plan f_this_rows f_this_s f_this_saved = some (r, m_this_most, m_this_many, m_this_few, m_this_everHome, m_this_rowMany, m_this_bestPlan, m_this_laid, m_this_pile, m_this_plan, m_this_rows, m_this_s, m_this_saved)) : mFi l G yX9_prove cX9_prove 3 .int 44 [.ref h_this, .int p0] [(h_this, ob 9 [.ref h_this_s, .ref h_this_kept, .ref h_this_laid, .int x_this_isKept, .ref h_this_pile, .ref h_this_tape, .int x_this_taped, .ref h_this_letters, .int x_this_at, .int x_this_begun, .int x_this_token, .int x_this_value, .int x_this_opened, .int x_this_steps, .ref h_this_code0, .ref h_this_read, .ref h_this_saved, .ref h_this_plan, .ref h_this_bestPlan, .int x_this_most, .int x_this_many, .int x_this_few, .int x_this_everHome, .ref h_this_offThen, .ref h_this_paidThen, .int x_this_firstFit, .ref h_this_rows, .int x_this_rowMany, .ref h_this_sorts, .ref h_this_sizes, .ref h_this_number, .ref h_this_holds, .ref h_this_heldOne, .ref h_this_trace, .int x_this_traced, .int x_this_own, .int x_this_isParted]), (h_this_bestPlan, ia G 4 f_this_bestPlan), (h_this_laid, ia G 65 f_this_laid), (h_this_pile, ia G 200 f_this_pile), (h_this_plan, ia G 4 f_this_plan), (h_this_rows, ia G 12 f_this_rows), (h_this_s, ia G 313 f_this_s), (h_this_saved, ia G 325 f_this_saved)] r [(h_this, ob 9 [.ref h_this_s, .ref h_this_kept, .ref h_this_laid, .int x_this_isKept, .ref h_this_pile, .ref h_this_tape, .int x_this_taped, .ref h_this_letters, .int x_this_at, .int x_this_begun, .int x_this_token, .int x_this_value, .int x_this_opened, .int x_this_steps, .ref h_this_code0, .ref h_this_read, .ref h_this_saved, .ref h_this_plan, .ref h_this_bestPlan, .int m_this_most, .int m_this_many, .int m_this_few, .int m_this_everHome, .ref h_this_offThen, .ref h_this_paidThen, .int x_this_firstFit, .ref h_this_rows, .int m_this_rowMany, .ref h_this_sorts, .ref h_this_sizes, .ref h_this_number, .ref h_this_holds, .ref h_this_heldOne, .ref h_this_trace, .int x_this_traced, .int x_this_own, .int x_this_isParted]), (h_this_bestPlan, ia G 4 m_this_bestPlan), (h_this_laid, ia G 65 m_this_laid), (h_this_pile, ia G 200 m_this_pile), (h_this_plan, ia G 4 m_this_plan), (h_this_rows, ia G 12 m_this_rows), (h_this_s, ia G 313 m_this_s), (h_this_saved, ia G 325 m_this_saved)] := by
  refine mFi.of (by decide +kernel) (Nat.le_of_ble_eq_true rfl) ?_
  intro p e s m below meth c A C hr hlk h ls hl
  obtain ⟨hx, hb, hml, hown, hts⟩ := id C
  replace hl : lv_has ls 3 [(0, .ref h_this), (1, .int p0)] := hl
  unfold f_X9_prove at hf
  refine with_K G A 3 (fun K hK1 hK2 => ?_)
  have L30 : ∀ (n : Nat) (v2 : Int32) (y_this_most : Int32) (y_this_many : Int32) (y_this_few : Int32) (y_this_everHome : Int32) (y_this_rowMany : Int32) (g_this_bestPlan : Nat → Int32) (g_this_laid : Nat → Int32) (g_this_pile : Nat → Int32) (g_this_plan : Nat → Int32) (g_this_rows : Nat → Int32) (g_this_s : Nat → Int32) (g_this_saved : Nat → Int32), f_X9_prove_L30 n v2 y_this_most y_this_many y_this_few y_this_everHome y_this_rowMany g_this_bestPlan g_this_laid g_this_pile g_this_plan g_this_rows g_this_s g_this_saved = some (r, m_this_most, m_this_many, m_this_few, m_this_everHome, m_this_rowMany, m_this_bestPlan, m_this_laid, m_this_pile, m_this_plan, m_this_rows, m_this_s, m_this_saved) → K 30 ([] : List Value) [(h_this, ob 9 [.ref h_this_s, .ref h_this_kept, .ref h_this_laid, .int x_this_isKept, .ref h_this_pile, .ref h_this_tape, .int x_this_taped, .ref h_this_letters, .int x_this_at, .int x_this_begun, .int x_this_token, .int x_this_value, .int x_this_opened, .int x_this_steps, .ref h_this_code0, .ref h_this_read, .ref h_this_saved, .ref h_this_plan, .ref h_this_bestPlan, .int y_this_most, .int y_this_many, .int y_this_few, .int y_this_everHome, .ref h_this_offThen, .ref h_this_paidThen, .int x_this_firstFit, .ref h_this_rows, .int y_this_rowMany, .ref h_this_sorts, .ref h_this_sizes, .ref h_this_number, .ref h_this_holds, .ref h_this_heldOne, .ref h_this_trace, .int x_this_traced, .int x_this_own, .int x_this_isParted]), (h_this_bestPlan, ia G 4 g_this_bestPlan), (h_this_laid, ia G 65 g_this_laid), (h_this_pile, ia G 200 g_this_pile), (h_this_plan, ia G 4 g_this_plan), (h_this_rows, ia G 12 g_this_rows), (h_this_s, ia G 313 g_this_s), (h_this_saved, ia G 325 g_this_saved)] [(0, .ref h_this), (2, .int v2)] := by
    intro n
    induction n with
    | zero =>
      intro v2 y_this_most y_this_many y_this_few y_this_everHome y_this_rowMany g_this_bestPlan g_this_laid g_this_pile g_this_plan g_this_rows g_this_s g_this_saved hf
      replace hf : (none : Option _) = some _ := hf
      cases hf
    | succ n ih =>
      intro v2 y_this_most y_this_many y_this_few y_this_everHome y_this_rowMany g_this_bestPlan g_this_laid g_this_pile g_this_plan g_this_rows g_this_s g_this_saved hf
      rw [f_X9_prove_L30] at hf
      refine hK1 _ _ _ _ (fun H locs ls h hl => ?_)
      refine lv_iload_n hx hb dX9_prove_30 rfl (lv_at hl 1 rfl) ?_
      refine lv_aload_n hx hb dX9_prove_31 rfl (lv_at hl 0 rfl) ?_
      refine r_get C h fk_X9_320 0 rfl rfl dX9_prove_32 ?_
      refine lv_icmp_ge (tgt := 93) hx hb dX9_prove_35 rfl (fun c18 => ?_) (fun c18 => ?_)
      · replace hf := ifp c18 hf
        refine lv_aload_n hx hb dX9_prove_93 rfl (lv_at hl 0 rfl) ?_
        replace hf := bd1_inv hf
        obtain ⟨g19, hc20, hf⟩ := hf
        refine r_cvV (ws' := [(h_this, ob 9 [.ref h_this_s, .ref h_this_kept, .ref h_this_laid, .int x_this_isKept, .ref h_this_pile, .ref h_this_tape, .int x_this_taped, .ref h_this_letters, .int x_this_at, .int x_this_begun, .int x_this_token, .int x_this_value, .int x_this_opened, .int x_this_steps, .ref h_this_code0, .ref h_this_read, .ref h_this_saved, .ref h_this_plan, .ref h_this_bestPlan, .int y_this_most, .int y_this_many, .int y_this_few, .int y_this_everHome, .ref h_this_offThen, .ref h_this_paidThen, .int x_this_firstFit, .ref h_this_rows, .int y_this_rowMany, .ref h_this_sorts, .ref h_this_sizes, .ref h_this_number, .ref h_this_holds, .ref h_this_heldOne, .ref h_this_trace, .int x_this_traced, .int x_this_own, .int x_this_isParted]), (h_this_bestPlan, ia G 4 g_this_bestPlan), (h_this_laid, ia G 65 g_this_laid), (h_this_pile, ia G 200 g_this_pile), (h_this_plan, ia G 4 g_this_plan), (h_this_rows, ia G 12 g_this_rows), (h_this_s, ia G 313 g19), (h_this_saved, ia G 325 g_this_saved)]) C h (c_X9_layBack hc20) mv_X9_247 rfl 0 rfl [0, 2, 6] rfl rfl [6] [(h_this_s, ia G 313 g19)] rfl rfl (by decide +kernel) rfl hl.1 rfl (Nat.le_of_ble_eq_true rfl) (rok (by decide)) dX9_prove_94 (fun H locs h => ?_)
        refine lv_aload_n hx hb dX9_prove_97 rfl (lv_at hl 0 rfl) ?_
        refine r_get C h fk_X9_320 0 rfl rfl dX9_prove_98 ?_
        obtain ⟨rfl, rfl, rfl, rfl, rfl, rfl, rfl, rfl, rfl, rfl, rfl, rfl, rfl⟩ := sm13 hf
        exact r_iret C h hr hlk rfl dX9_prove_101
      · replace hf := ifn c18 hf
        refine lv_aload_n hx hb dX9_prove_38 rfl (lv_at hl 0 rfl) ?_
        refine r_get C h fk_X9_50 0 rfl rfl dX9_prove_39 ?_
        refine lv_iconst (v := (3 : Int32)) hx hb dX9_prove_42 rfl ?_
        refine lv_iload_n hx hb dX9_prove_43 rfl (lv_at hl 1 rfl) ?_
        refine lv_imul hx hb dX9_prove_44 ?_
        refine lv_aload_n hx hb dX9_prove_45 rfl (lv_at hl 0 rfl) ?_
        refine r_get C h fk_X9_41 0 rfl rfl dX9_prove_46 ?_
        refine lv_iload_n hx hb dX9_prove_49 rfl (lv_at hl 1 rfl) ?_
        replace hf := chkI_inv hf
        obtain ⟨hi21, hf⟩ := hf
        refine r_iald C h 1 rfl hi21 dX9_prove_50 ?_
        refine lv_topi (fun t22 et22 => ?_)
        replace hf := lt1_inv et22 hf
        replace hf := chkI_inv hf
        obtain ⟨hi23, hf⟩ := hf
        refine r_iast (ws' := [(h_this, ob 9 [.ref h_this_s, .ref h_this_kept, .ref h_this_laid, .int x_this_isKept, .ref h_this_pile, .ref h_this_tape, .int x_this_taped, .ref h_this_letters, .int x_this_at, .int x_this_begun, .int x_this_token, .int x_this_value, .int x_this_opened, .int x_this_steps, .ref h_this_code0, .ref h_this_read, .ref h_this_saved, .ref h_this_plan, .ref h_this_bestPlan, .int y_this_most, .int y_this_many, .int y_this_few, .int y_this_everHome, .ref h_this_offThen, .ref h_this_paidThen, .int x_this_firstFit, .ref h_this_rows, .int y_this_rowMany, .ref h_this_sorts, .ref h_this_sizes, .ref h_this_number, .ref h_this_holds, .ref h_this_heldOne, .ref h_this_trace, .int x_this_traced, .int x_this_own, .int x_this_isParted]), (h_this_bestPlan, ia G 4 g_this_bestPlan), (h_this_laid, ia G 65 g_this_laid), (h_this_pile, ia G 200 g_this_pile), (h_this_plan, ia G 4 g_this_plan), (h_this_rows, ia G 12 (upd g_this_rows ((3 : Int32) * v2).toNatClampNeg t22)), (h_this_s, ia G 313 g_this_s), (h_this_saved, ia G 325 g_this_saved)]) C h 5 rfl hi23 dX9_prove_51 rfl (fun H locs h => ?_)
        refine lv_aload_n hx hb dX9_prove_52 rfl (lv_at hl 0 rfl) ?_
        refine r_get C h fk_X9_50 0 rfl rfl dX9_prove_53 ?_
        refine lv_iconst (v := (3 : Int32)) hx hb dX9_prove_56 rfl ?_
        refine lv_iload_n hx hb dX9_prove_57 rfl (lv_at hl 1 rfl) ?_
        refine lv_imul hx hb dX9_prove_58 ?_
        refine lv_iconst (v := (1 : Int32)) hx hb dX9_prove_59 rfl ?_
        refine lv_iadd hx hb dX9_prove_60 ?_
        refine lv_aload_n hx hb dX9_prove_61 rfl (lv_at hl 0 rfl) ?_
        refine lv_aload_n hx hb dX9_prove_62 rfl (lv_at hl 0 rfl) ?_
        refine r_get C h fk_X9_41 0 rfl rfl dX9_prove_63 ?_
        refine lv_iload_n hx hb dX9_prove_66 rfl (lv_at hl 1 rfl) ?_
        replace hf := chkI_inv hf
        obtain ⟨hi24, hf⟩ := hf
        refine r_iald C h 1 rfl hi24 dX9_prove_67 ?_
        replace hf := bd3_inv hf
        obtain ⟨r25, g26, g27, hc28, hf⟩ := hf
        refine r_ciV (ws' := [(h_this, ob 9 [.ref h_this_s, .ref h_this_kept, .ref h_this_laid, .int x_this_isKept, .ref h_this_pile, .ref h_this_tape, .int x_this_taped, .ref h_this_letters, .int x_this_at, .int x_this_begun, .int x_this_token, .int x_this_value, .int x_this_opened, .int x_this_steps, .ref h_this_code0, .ref h_this_read, .ref h_this_saved, .ref h_this_plan, .ref h_this_bestPlan, .int y_this_most, .int y_this_many, .int y_this_few, .int y_this_everHome, .ref h_this_offThen, .ref h_this_paidThen, .int x_this_firstFit, .ref h_this_rows, .int y_this_rowMany, .ref h_this_sorts, .ref h_this_sizes, .ref h_this_number, .ref h_this_holds, .ref h_this_heldOne, .ref h_this_trace, .int x_this_traced, .int x_this_own, .int x_this_isParted]), (h_this_bestPlan, ia G 4 g_this_bestPlan), (h_this_laid, ia G 65 g_this_laid), (h_this_pile, ia G 200 g26), (h_this_plan, ia G 4 g_this_plan), (h_this_rows, ia G 12 (upd g_this_rows ((3 : Int32) * v2).toNatClampNeg t22)), (h_this_s, ia G 313 g27), (h_this_saved, ia G 325 g_this_saved)]) C h (c_X9_goesBy hc28) mv_X9_238 rfl 0 rfl [0, 3, 6] rfl rfl [3, 6] [(h_this_pile, ia G 200 g26), (h_this_s, ia G 313 g27)] rfl rfl (by decide +kernel) rfl hl.1 rfl (Nat.le_of_ble_eq_true rfl) (rok (by decide)) dX9_prove_68 (fun H locs h => ?_)
        replace hf := chkI_inv hf
        obtain ⟨hi29, hf⟩ := hf
        refine r_iast (ws' := [(h_this, ob 9 [.ref h_this_s, .ref h_this_kept, .ref h_this_laid, .int x_this_isKept, .ref h_this_pile, .ref h_this_tape, .int x_this_taped, .ref h_this_letters, .int x_this_at, .int x_this_begun, .int x_this_token, .int x_this_value, .int x_this_opened, .int x_this_steps, .ref h_this_code0, .ref h_this_read, .ref h_this_saved, .ref h_this_plan, .ref h_this_bestPlan, .int y_this_most, .int y_this_many, .int y_this_few, .int y_this_everHome, .ref h_this_offThen, .ref h_this_paidThen, .int x_this_firstFit, .ref h_this_rows, .int y_this_rowMany, .ref h_this_sorts, .ref h_this_sizes, .ref h_this_number, .ref h_this_holds, .ref h_this_heldOne, .ref h_this_trace, .int x_this_traced, .int x_this_own, .int x_this_isParted]), (h_this_bestPlan, ia G 4 g_this_bestPlan), (h_this_laid, ia G 65 g_this_laid), (h_this_pile, ia G 200 g26), (h_this_plan, ia G 4 g_this_plan), (h_this_rows, ia G 12 (upd (upd g_this_rows ((3 : Int32) * v2).toNatClampNeg t22) (((3 : Int32) * v2) + (1 : Int32)).toNatClampNeg r25)), (h_this_s, ia G 313 g27), (h_this_saved, ia G 325 g_this_saved)]) C h 5 rfl hi29 dX9_prove_71 rfl (fun H locs h => ?_)
        refine lv_aload_n hx hb dX9_prove_72 rfl (lv_at hl 0 rfl) ?_
        refine r_get C h fk_X9_50 0 rfl rfl dX9_prove_73 ?_
        refine lv_iconst (v := (3 : Int32)) hx hb dX9_prove_76 rfl ?_
        refine lv_iload_n hx hb dX9_prove_77 rfl (lv_at hl 1 rfl) ?_
        refine lv_imul hx hb dX9_prove_78 ?_
        refine lv_iconst (v := (2 : Int32)) hx hb dX9_prove_79 rfl ?_
        refine lv_iadd hx hb dX9_prove_80 ?_
        refine lv_aload_n hx hb dX9_prove_81 rfl (lv_at hl 0 rfl) ?_
        refine lv_iconst (v := (4 : Int32)) hx hb dX9_prove_82 rfl ?_
        replace hf := bd1_inv hf
        obtain ⟨r30, hc31, hf⟩ := hf
        refine r_ciV0 C h (c_X9_those hc31) mv_X9_235 rfl 0 rfl [0, 6] rfl rfl hl.1 rfl (Nat.le_of_ble_eq_true rfl) (rok (by decide)) dX9_prove_83 (fun H locs h => ?_)
        replace hf := chkI_inv hf
        obtain ⟨hi32, hf⟩ := hf
        refine r_iast (ws' := [(h_this, ob 9 [.ref h_this_s, .ref h_this_kept, .ref h_this_laid, .int x_this_isKept, .ref h_this_pile, .ref h_this_tape, .int x_this_taped, .ref h_this_letters, .int x_this_at, .int x_this_begun, .int x_this_token, .int x_this_value, .int x_this_opened, .int x_this_steps, .ref h_this_code0, .ref h_this_read, .ref h_this_saved, .ref h_this_plan, .ref h_this_bestPlan, .int y_this_most, .int y_this_many, .int y_this_few, .int y_this_everHome, .ref h_this_offThen, .ref h_this_paidThen, .int x_this_firstFit, .ref h_this_rows, .int y_this_rowMany, .ref h_this_sorts, .ref h_this_sizes, .ref h_this_number, .ref h_this_holds, .ref h_this_heldOne, .ref h_this_trace, .int x_this_traced, .int x_this_own, .int x_this_isParted]), (h_this_bestPlan, ia G 4 g_this_bestPlan), (h_this_laid, ia G 65 g_this_laid), (h_this_pile, ia G 200 g26), (h_this_plan, ia G 4 g_this_plan), (h_this_rows, ia G 12 (upd (upd (upd g_this_rows ((3 : Int32) * v2).toNatClampNeg t22) (((3 : Int32) * v2) + (1 : Int32)).toNatClampNeg r25) (((3 : Int32) * v2) + (2 : Int32)).toNatClampNeg r30)), (h_this_s, ia G 313 g27), (h_this_saved, ia G 325 g_this_saved)]) C h 5 rfl hi32 dX9_prove_86 rfl (fun H locs h => ?_)
        obtain ⟨t33, et33⟩ : ∃ y : Int32, y = v2 + (1 : Int32) := ⟨_, rfl⟩
        replace hf := lt1_inv et33 hf
        refine lv_iinc (v := t33) (lv' := [(2, .int t33), (0, .ref h_this)]) hx hb dX9_prove_87 hl (k := 1) rfl (by rw [et33]; rfl) (by decide) rfl (fun ls hl => ?_)
        refine lv_goto (tgt := 30) hx hb dX9_prove_90 rfl ?_
        exact hK2 _ _ _ _ (ih t33 y_this_most y_this_many y_this_few y_this_everHome y_this_rowMany g_this_bestPlan g_this_laid g26 g_this_plan (upd (upd (upd g_this_rows ((3 : Int32) * v2).toNatClampNeg t22) (((3 : Int32) * v2) + (1 : Int32)).toNatClampNeg r25) (((3 : Int32) * v2) + (2 : Int32)).toNatClampNeg r30) g27 g_this_saved hf) _ _ _ h (lv_sub hl [1, 0] rfl)
  refine lv_iload_n hx hb dX9_prove_0 rfl (lv_at hl 1 rfl) ?_
  replace hf := bd1_inv hf
  obtain ⟨r1, hc2, hf⟩ := hf
  refine r_ciS0 C h (c_X9_isPlan hc2) ms_X9_291 rfl [] rfl rfl hl.1 rfl (Nat.le_of_ble_eq_true rfl) (rok (by decide)) dX9_prove_1 (fun H locs h => ?_)
  refine lv_if_ne (tgt := 9) hx hb dX9_prove_4 rfl (fun c3 => ?_) (fun c3 => ?_)
  · replace hf := ifn c3 hf
    refine lv_aload_n hx hb dX9_prove_9 rfl (lv_at hl 0 rfl) ?_
    refine lv_iload_n hx hb dX9_prove_10 rfl (lv_at hl 1 rfl) ?_
    refine lv_iconst (v := (0 : Int32)) hx hb dX9_prove_11 rfl ?_
    replace hf := bd9_inv hf
    obtain ⟨y4, y5, y6, y7, g8, g9, g10, g11, g12, hc13, hf⟩ := hf
    refine r_cvV (ws' := [(h_this, ob 9 [.ref h_this_s, .ref h_this_kept, .ref h_this_laid, .int x_this_isKept, .ref h_this_pile, .ref h_this_tape, .int x_this_taped, .ref h_this_letters, .int x_this_at, .int x_this_begun, .int x_this_token, .int x_this_value, .int x_this_opened, .int x_this_steps, .ref h_this_code0, .ref h_this_read, .ref h_this_saved, .ref h_this_plan, .ref h_this_bestPlan, .int y4, .int y5, .int y6, .int y7, .ref h_this_offThen, .ref h_this_paidThen, .int x_this_firstFit, .ref h_this_rows, .int x_this_rowMany, .ref h_this_sorts, .ref h_this_sizes, .ref h_this_number, .ref h_this_holds, .ref h_this_heldOne, .ref h_this_trace, .int x_this_traced, .int x_this_own, .int x_this_isParted]), (h_this_bestPlan, ia G 4 g8), (h_this_laid, ia G 65 f_this_laid), (h_this_pile, ia G 200 g9), (h_this_plan, ia G 4 g10), (h_this_rows, ia G 12 f_this_rows), (h_this_s, ia G 313 g11), (h_this_saved, ia G 325 g12)]) C h (c_X9_triesAll hc13) mv_X9_294 rfl 0 rfl [0, 1, 3, 4, 6, 7] rfl rfl [0, 1, 3, 4, 6, 7] [(h_this, ob 9 [.ref h_this_s, .ref h_this_kept, .ref h_this_laid, .int x_this_isKept, .ref h_this_pile, .ref h_this_tape, .int x_this_taped, .ref h_this_letters, .int x_this_at, .int x_this_begun, .int x_this_token, .int x_this_value, .int x_this_opened, .int x_this_steps, .ref h_this_code0, .ref h_this_read, .ref h_this_saved, .ref h_this_plan, .ref h_this_bestPlan, .int y4, .int y5, .int y6, .int y7, .ref h_this_offThen, .ref h_this_paidThen, .int x_this_firstFit, .ref h_this_rows, .int x_this_rowMany, .ref h_this_sorts, .ref h_this_sizes, .ref h_this_number, .ref h_this_holds, .ref h_this_heldOne, .ref h_this_trace, .int x_this_traced, .int x_this_own, .int x_this_isParted]), (h_this_bestPlan, ia G 4 g8), (h_this_pile, ia G 200 g9), (h_this_plan, ia G 4 g10), (h_this_s, ia G 313 g11), (h_this_saved, ia G 325 g12)] rfl rfl (by decide +kernel) rfl hl.1 rfl (Nat.le_of_ble_eq_true rfl) (rok (by decide)) dX9_prove_12 (fun H locs h => ?_)
    refine lv_aload_n hx hb dX9_prove_15 rfl (lv_at hl 0 rfl) ?_
    refine lv_aload_n hx hb dX9_prove_16 rfl (lv_at hl 0 rfl) ?_
    refine lv_iload_n hx hb dX9_prove_17 rfl (lv_at hl 1 rfl) ?_
    replace hf := bd1_inv hf
    obtain ⟨r14, hc15, hf⟩ := hf
    refine r_ciV0 C h (c_X9_daysOf hc15) mv_X9_288 rfl 0 rfl [0, 6] rfl rfl hl.1 rfl (Nat.le_of_ble_eq_true rfl) (rok (by decide)) dX9_prove_18 (fun H locs h => ?_)
    refine r_put (ws' := [(h_this, ob 9 [.ref h_this_s, .ref h_this_kept, .ref h_this_laid, .int x_this_isKept, .ref h_this_pile, .ref h_this_tape, .int x_this_taped, .ref h_this_letters, .int x_this_at, .int x_this_begun, .int x_this_token, .int x_this_value, .int x_this_opened, .int x_this_steps, .ref h_this_code0, .ref h_this_read, .ref h_this_saved, .ref h_this_plan, .ref h_this_bestPlan, .int y4, .int y5, .int y6, .int y7, .ref h_this_offThen, .ref h_this_paidThen, .int x_this_firstFit, .ref h_this_rows, .int r14, .ref h_this_sorts, .ref h_this_sizes, .ref h_this_number, .ref h_this_holds, .ref h_this_heldOne, .ref h_this_trace, .int x_this_traced, .int x_this_own, .int x_this_isParted]), (h_this_bestPlan, ia G 4 g8), (h_this_laid, ia G 65 f_this_laid), (h_this_pile, ia G 200 g9), (h_this_plan, ia G 4 g10), (h_this_rows, ia G 12 f_this_rows), (h_this_s, ia G 313 g11), (h_this_saved, ia G 325 g12)]) C h fw_X9_320 0 rfl rfl rfl (Nat.le_of_ble_eq_true rfl) dX9_prove_21 rfl (fun H locs h => ?_)
    refine lv_aload_n hx hb dX9_prove_24 rfl (lv_at hl 0 rfl) ?_
    replace hf := bd1_inv hf
    obtain ⟨g16, hc17, hf⟩ := hf
    refine r_cvV (ws' := [(h_this, ob 9 [.ref h_this_s, .ref h_this_kept, .ref h_this_laid, .int x_this_isKept, .ref h_this_pile, .ref h_this_tape, .int x_this_taped, .ref h_this_letters, .int x_this_at, .int x_this_begun, .int x_this_token, .int x_this_value, .int x_this_opened, .int x_this_steps, .ref h_this_code0, .ref h_this_read, .ref h_this_saved, .ref h_this_plan, .ref h_this_bestPlan, .int y4, .int y5, .int y6, .int y7, .ref h_this_offThen, .ref h_this_paidThen, .int x_this_firstFit, .ref h_this_rows, .int r14, .ref h_this_sorts, .ref h_this_sizes, .ref h_this_number, .ref h_this_holds, .ref h_this_heldOne, .ref h_this_trace, .int x_this_traced, .int x_this_own, .int x_this_isParted]), (h_this_bestPlan, ia G 4 g8), (h_this_laid, ia G 65 g16), (h_this_pile, ia G 200 g9), (h_this_plan, ia G 4 g10), (h_this_rows, ia G 12 f_this_rows), (h_this_s, ia G 313 g11), (h_this_saved, ia G 325 g12)]) C h (c_X9_layDown hc17) mv_X9_241 rfl 0 rfl [0, 2, 6] rfl rfl [2] [(h_this_laid, ia G 65 g16)] rfl rfl (by decide +kernel) rfl hl.1 rfl (Nat.le_of_ble_eq_true rfl) (rok (by decide)) dX9_prove_25 (fun H locs h => ?_)
    refine lv_iconst (v := (0 : Int32)) hx hb dX9_prove_28 rfl ?_
    refine lv_istore_n (lv' := [(2, .int (0 : Int32)), (0, .ref h_this), (1, .int p0)]) hx hb dX9_prove_29 rfl hl (by decide) rfl (fun ls hl => ?_)
    exact hK2 _ _ _ _ (L30 1000 (0 : Int32) y4 y5 y6 y7 r14 g8 g16 g9 g10 f_this_rows g11 g12 hf) _ _ _ h (lv_sub hl [1, 0] rfl)
  · replace hf := ifp c3 hf
    refine lv_iconst (v := (-1 : Int32)) hx hb dX9_prove_7 rfl ?_
    obtain ⟨rfl, rfl, rfl, rfl, rfl, rfl, rfl, rfl, rfl, rfl, rfl, rfl, rfl⟩ := sm13 hf
    exact r_iret C h hr hlk rfl dX9_prove_8
set_option maxRecDepth 100000 in
set_option maxHeartbeats 4000000 in
theorem c_X9_isRow {l : Launch} {G : Gt} {h_this h_this_s h_this_kept h_this_laid h_this_pile h_this_tape h_this_letters h_this_code0 h_this_read h_this_saved h_this_plan h_this_bestPlan h_this_offThen h_this_paidThen h_this_rows h_this_sorts h_this_sizes h_this_number h_this_holds h_this_heldOne h_this_trace : Nat} {p0 : Int32} {p1 : Int32} {x_this_isKept : Int32} {x_this_taped : Int32} {x_this_at : Int32} {x_this_begun : Int32} {x_this_token : Int32} {x_this_value : Int32} {x_this_opened : Int32} {x_this_steps : Int32} {x_this_most : Int32} {x_this_many : Int32} {x_this_few : Int32} {x_this_everHome : Int32} {x_this_firstFit : Int32} {x_this_rowMany : Int32} {x_this_traced : Int32} {x_this_own : Int32} {x_this_isParted : Int32} {r : Int32} (hf : f_X9_isRow p0 p1 x_this_rowMany = some r) : mFi l G yX9_isRow cX9_isRow 3 .boolean 1 [.ref h_this, .int p0, .int p1] [(h_this, ob 9 [.ref h_this_s, .ref h_this_kept, .ref h_this_laid, .int x_this_isKept, .ref h_this_pile, .ref h_this_tape, .int x_this_taped, .ref h_this_letters, .int x_this_at, .int x_this_begun, .int x_this_token, .int x_this_value, .int x_this_opened, .int x_this_steps, .ref h_this_code0, .ref h_this_read, .ref h_this_saved, .ref h_this_plan, .ref h_this_bestPlan, .int x_this_most, .int x_this_many, .int x_this_few, .int x_this_everHome, .ref h_this_offThen, .ref h_this_paidThen, .int x_this_firstFit, .ref h_this_rows, .int x_this_rowMany, .ref h_this_sorts, .ref h_this_sizes, .ref h_this_number, .ref h_this_holds, .ref h_this_heldOne, .ref h_this_trace, .int x_this_traced, .int x_this_own, .int x_this_isParted])] r [(h_this, ob 9 [.ref h_this_s, .ref h_this_kept, .ref h_this_laid, .int x_this_isKept, .ref h_this_pile, .ref h_this_tape, .int x_this_taped, .ref h_this_letters, .int x_this_at, .int x_this_begun, .int x_this_token, .int x_this_value, .int x_this_opened, .int x_this_steps, .ref h_this_code0, .ref h_this_read, .ref h_this_saved, .ref h_this_plan, .ref h_this_bestPlan, .int x_this_most, .int x_this_many, .int x_this_few, .int x_this_everHome, .ref h_this_offThen, .ref h_this_paidThen, .int x_this_firstFit, .ref h_this_rows, .int x_this_rowMany, .ref h_this_sorts, .ref h_this_sizes, .ref h_this_number, .ref h_this_holds, .ref h_this_heldOne, .ref h_this_trace, .int x_this_traced, .int x_this_own, .int x_this_isParted])] := by
  refine mFi.of (by decide +kernel) (Nat.le_of_ble_eq_true rfl) ?_
  intro p e s m below meth c A C hr hlk h ls hl
  obtain ⟨hx, hb, hml, hown, hts⟩ := id C
  replace hl : lv_has ls 3 [(0, .ref h_this), (1, .int p0), (2, .int p1)] := hl
  unfold f_X9_isRow at hf
  refine lv_iload_n hx hb dX9_isRow_0 rfl (lv_at hl 1 rfl) ?_
  refine lv_iconst (v := (0 : Int32)) hx hb dX9_isRow_1 rfl ?_
  refine lv_aload_n hx hb dX9_isRow_2 rfl (lv_at hl 0 rfl) ?_
  refine r_get C h fk_X9_320 0 rfl rfl dX9_isRow_3 ?_
  refine lv_iconst (v := (1 : Int32)) hx hb dX9_isRow_6 rfl ?_
  refine lv_isub hx hb dX9_isRow_7 ?_
  replace hf := bd1_inv hf
  obtain ⟨r1, hc2, hf⟩ := hf
  refine r_ciS0 C h (c_X9_in1 hc2) ms_X9_71 rfl [] rfl rfl hl.1 rfl (Nat.le_of_ble_eq_true rfl) (rok (by decide)) dX9_isRow_8 (fun H locs h => ?_)
  refine lv_if_eq (tgt := 27) hx hb dX9_isRow_11 rfl (fun c3 => ?_) (fun c3 => ?_)
  · replace hf := ifp c3 hf
    refine lv_iconst (v := (0 : Int32)) hx hb dX9_isRow_27 rfl ?_
    cases hf
    exact r_iret C h hr hlk rfl dX9_isRow_28
  · replace hf := ifn c3 hf
    refine lv_iload_n hx hb dX9_isRow_14 rfl (lv_at hl 2 rfl) ?_
    refine lv_iconst (v := (0 : Int32)) hx hb dX9_isRow_15 rfl ?_
    refine lv_iconst (v := (2 : Int32)) hx hb dX9_isRow_16 rfl ?_
    replace hf := bd1_inv hf
    obtain ⟨r4, hc5, hf⟩ := hf
    refine r_ciS0 C h (c_X9_in1 hc5) ms_X9_71 rfl [] rfl rfl hl.1 rfl (Nat.le_of_ble_eq_true rfl) (rok (by decide)) dX9_isRow_17 (fun H locs h => ?_)
    refine lv_if_eq (tgt := 27) hx hb dX9_isRow_20 rfl (fun c6 => ?_) (fun c6 => ?_)
    · replace hf := ifp c6 hf
      refine lv_iconst (v := (0 : Int32)) hx hb dX9_isRow_27 rfl ?_
      cases hf
      exact r_iret C h hr hlk rfl dX9_isRow_28
    · replace hf := ifn c6 hf
      refine lv_iconst (v := (1 : Int32)) hx hb dX9_isRow_23 rfl ?_
      refine lv_goto (tgt := 28) hx hb dX9_isRow_24 rfl ?_
      cases hf
      exact r_iret C h hr hlk rfl dX9_isRow_28
set_option maxRecDepth 100000 in
set_option maxHeartbeats 4000000 in
theorem c_X9_row {l : Launch} {G : Gt} {h_this h_this_s h_this_kept h_this_laid h_this_pile h_this_tape h_this_letters h_this_code0 h_this_read h_this_saved h_this_plan h_this_bestPlan h_this_offThen h_this_paidThen h_this_rows h_this_sorts h_this_sizes h_this_number h_this_holds h_this_heldOne h_this_trace : Nat} {p0 : Int32} {p1 : Int32} {x_this_isKept : Int32} {x_this_taped : Int32} {x_this_at : Int32} {x_this_begun : Int32} {x_this_token : Int32} {x_this_value : Int32} {x_this_opened : Int32} {x_this_steps : Int32} {x_this_most : Int32} {x_this_many : Int32} {x_this_few : Int32} {x_this_everHome : Int32} {x_this_firstFit : Int32} {x_this_rowMany : Int32} {x_this_traced : Int32} {x_this_own : Int32} {x_this_isParted : Int32} {f_this_rows : Nat → Int32} {r : Int32} (hf : f_X9_row p0 p1 x_this_rowMany f_this_rows = some r) : mFi l G yX9_row cX9_row 3 .int 2 [.ref h_this, .int p0, .int p1] [(h_this, ob 9 [.ref h_this_s, .ref h_this_kept, .ref h_this_laid, .int x_this_isKept, .ref h_this_pile, .ref h_this_tape, .int x_this_taped, .ref h_this_letters, .int x_this_at, .int x_this_begun, .int x_this_token, .int x_this_value, .int x_this_opened, .int x_this_steps, .ref h_this_code0, .ref h_this_read, .ref h_this_saved, .ref h_this_plan, .ref h_this_bestPlan, .int x_this_most, .int x_this_many, .int x_this_few, .int x_this_everHome, .ref h_this_offThen, .ref h_this_paidThen, .int x_this_firstFit, .ref h_this_rows, .int x_this_rowMany, .ref h_this_sorts, .ref h_this_sizes, .ref h_this_number, .ref h_this_holds, .ref h_this_heldOne, .ref h_this_trace, .int x_this_traced, .int x_this_own, .int x_this_isParted]), (h_this_rows, ia G 12 f_this_rows)] r [(h_this, ob 9 [.ref h_this_s, .ref h_this_kept, .ref h_this_laid, .int x_this_isKept, .ref h_this_pile, .ref h_this_tape, .int x_this_taped, .ref h_this_letters, .int x_this_at, .int x_this_begun, .int x_this_token, .int x_this_value, .int x_this_opened, .int x_this_steps, .ref h_this_code0, .ref h_this_read, .ref h_this_saved, .ref h_this_plan, .ref h_this_bestPlan, .int x_this_most, .int x_this_many, .int x_this_few, .int x_this_everHome, .ref h_this_offThen, .ref h_this_paidThen, .int x_this_firstFit, .ref h_this_rows, .int x_this_rowMany, .ref h_this_sorts, .ref h_this_sizes, .ref h_this_number, .ref h_this_holds, .ref h_this_heldOne, .ref h_this_trace, .int x_this_traced, .int x_this_own, .int x_this_isParted]), (h_this_rows, ia G 12 f_this_rows)] := by
  refine mFi.of (by decide +kernel) (Nat.le_of_ble_eq_true rfl) ?_
  intro p e s m below meth c A C hr hlk h ls hl
  obtain ⟨hx, hb, hml, hown, hts⟩ := id C
  replace hl : lv_has ls 3 [(0, .ref h_this), (1, .int p0), (2, .int p1)] := hl
  unfold f_X9_row at hf
  refine lv_aload_n hx hb dX9_row_0 rfl (lv_at hl 0 rfl) ?_
  refine lv_iload_n hx hb dX9_row_1 rfl (lv_at hl 1 rfl) ?_
  refine lv_iload_n hx hb dX9_row_2 rfl (lv_at hl 2 rfl) ?_
  replace hf := bd1_inv hf
  obtain ⟨r1, hc2, hf⟩ := hf
  refine r_ciV0 C h (c_X9_isRow hc2) mv_X9_323 rfl 0 rfl [0] rfl rfl hl.1 rfl (Nat.le_of_ble_eq_true rfl) (rok (by decide)) dX9_row_3 (fun H locs h => ?_)
  refine lv_if_eq (tgt := 22) hx hb dX9_row_6 rfl (fun c3 => ?_) (fun c3 => ?_)
  · replace hf := ifp c3 hf
    refine lv_bipush (v := (-9 : Int32)) hx hb dX9_row_22 rfl ?_
    cases hf
    exact r_iret C h hr hlk rfl dX9_row_24
  · replace hf := ifn c3 hf
    refine lv_aload_n hx hb dX9_row_9 rfl (lv_at hl 0 rfl) ?_
    refine r_get C h fk_X9_50 0 rfl rfl dX9_row_10 ?_
    refine lv_iconst (v := (3 : Int32)) hx hb dX9_row_13 rfl ?_
    refine lv_iload_n hx hb dX9_row_14 rfl (lv_at hl 1 rfl) ?_
    refine lv_imul hx hb dX9_row_15 ?_
    refine lv_iload_n hx hb dX9_row_16 rfl (lv_at hl 2 rfl) ?_
    refine lv_iadd hx hb dX9_row_17 ?_
    replace hf := chkI_inv hf
    obtain ⟨hi4, hf⟩ := hf
    refine r_iald C h 1 rfl hi4 dX9_row_18 ?_
    refine lv_goto (tgt := 24) hx hb dX9_row_19 rfl ?_
    cases hf
    exact r_iret C h hr hlk rfl dX9_row_24
set_option maxRecDepth 100000 in
set_option maxHeartbeats 4000000 in
theorem c_X9_alterRow {l : Launch} {G : Gt} {h_this h_this_s h_this_kept h_this_laid h_this_pile h_this_tape h_this_letters h_this_code0 h_this_read h_this_saved h_this_plan h_this_bestPlan h_this_offThen h_this_paidThen h_this_rows h_this_sorts h_this_sizes h_this_number h_this_holds h_this_heldOne h_this_trace : Nat} {p0 : Int32} {p1 : Int32} {p2 : Int32} {x_this_isKept : Int32} {x_this_taped : Int32} {x_this_at : Int32} {x_this_begun : Int32} {x_this_token : Int32} {x_this_value : Int32} {x_this_opened : Int32} {x_this_steps : Int32} {x_this_most : Int32} {x_this_many : Int32} {x_this_few : Int32} {x_this_everHome : Int32} {x_this_firstFit : Int32} {x_this_rowMany : Int32} {x_this_traced : Int32} {x_this_own : Int32} {x_this_isParted : Int32} {f_this_rows : Nat → Int32} {r : Int32} {m_this_rows : Nat → Int32} (hf : f_X9_alterRow p0 p1 p2 x_this_rowMany f_this_rows = some (r, m_this_rows)) : mFi l G yX9_alterRow cX9_alterRow 5 .int 2 [.ref h_this, .int p0, .int p1, .int p2] [(h_this, ob 9 [.ref h_this_s, .ref h_this_kept, .ref h_this_laid, .int x_this_isKept, .ref h_this_pile, .ref h_this_tape, .int x_this_taped, .ref h_this_letters, .int x_this_at, .int x_this_begun, .int x_this_token, .int x_this_value, .int x_this_opened, .int x_this_steps, .ref h_this_code0, .ref h_this_read, .ref h_this_saved, .ref h_this_plan, .ref h_this_bestPlan, .int x_this_most, .int x_this_many, .int x_this_few, .int x_this_everHome, .ref h_this_offThen, .ref h_this_paidThen, .int x_this_firstFit, .ref h_this_rows, .int x_this_rowMany, .ref h_this_sorts, .ref h_this_sizes, .ref h_this_number, .ref h_this_holds, .ref h_this_heldOne, .ref h_this_trace, .int x_this_traced, .int x_this_own, .int x_this_isParted]), (h_this_rows, ia G 12 f_this_rows)] r [(h_this, ob 9 [.ref h_this_s, .ref h_this_kept, .ref h_this_laid, .int x_this_isKept, .ref h_this_pile, .ref h_this_tape, .int x_this_taped, .ref h_this_letters, .int x_this_at, .int x_this_begun, .int x_this_token, .int x_this_value, .int x_this_opened, .int x_this_steps, .ref h_this_code0, .ref h_this_read, .ref h_this_saved, .ref h_this_plan, .ref h_this_bestPlan, .int x_this_most, .int x_this_many, .int x_this_few, .int x_this_everHome, .ref h_this_offThen, .ref h_this_paidThen, .int x_this_firstFit, .ref h_this_rows, .int x_this_rowMany, .ref h_this_sorts, .ref h_this_sizes, .ref h_this_number, .ref h_this_holds, .ref h_this_heldOne, .ref h_this_trace, .int x_this_traced, .int x_this_own, .int x_this_isParted]), (h_this_rows, ia G 12 m_this_rows)] := by
  refine mFi.of (by decide +kernel) (Nat.le_of_ble_eq_true rfl) ?_
  intro p e s m below meth c A C hr hlk h ls hl
  obtain ⟨hx, hb, hml, hown, hts⟩ := id C
  replace hl : lv_has ls 5 [(0, .ref h_this), (1, .int p0), (2, .int p1), (3, .int p2)] := hl
  unfold f_X9_alterRow at hf
  refine lv_aload_n hx hb dX9_alterRow_0 rfl (lv_at hl 0 rfl) ?_
  refine lv_iload_n hx hb dX9_alterRow_1 rfl (lv_at hl 1 rfl) ?_
  refine lv_iload_n hx hb dX9_alterRow_2 rfl (lv_at hl 2 rfl) ?_
  replace hf := bd1_inv hf
  obtain ⟨r1, hc2, hf⟩ := hf
  refine r_ciV0 C h (c_X9_isRow hc2) mv_X9_323 rfl 0 rfl [0] rfl rfl hl.1 rfl (Nat.le_of_ble_eq_true rfl) (rok (by decide)) dX9_alterRow_3 (fun H locs h => ?_)
  refine lv_if_ne (tgt := 12) hx hb dX9_alterRow_6 rfl (fun c3 => ?_) (fun c3 => ?_)
  · replace hf := ifn c3 hf
    refine lv_aload_n hx hb dX9_alterRow_12 rfl (lv_at hl 0 rfl) ?_
    refine r_get C h fk_X9_50 0 rfl rfl dX9_alterRow_13 ?_
    refine lv_iconst (v := (3 : Int32)) hx hb dX9_alterRow_16 rfl ?_
    refine lv_iload_n hx hb dX9_alterRow_17 rfl (lv_at hl 1 rfl) ?_
    refine lv_imul hx hb dX9_alterRow_18 ?_
    refine lv_iload_n hx hb dX9_alterRow_19 rfl (lv_at hl 2 rfl) ?_
    refine lv_iadd hx hb dX9_alterRow_20 ?_
    replace hf := chkI_inv hf
    obtain ⟨hi4, hf⟩ := hf
    refine r_iald C h 1 rfl hi4 dX9_alterRow_21 ?_
    refine lv_topi (fun t5 et5 => ?_)
    replace hf := lt1_inv et5 hf
    refine lv_istore (lv' := [(4, .int t5), (0, .ref h_this), (1, .int p0), (2, .int p1), (3, .int p2)]) hx hb dX9_alterRow_22 hl (by decide) rfl (fun ls hl => ?_)
    refine lv_aload_n hx hb dX9_alterRow_24 rfl (lv_at hl 1 rfl) ?_
    refine r_get C h fk_X9_50 0 rfl rfl dX9_alterRow_25 ?_
    refine lv_iconst (v := (3 : Int32)) hx hb dX9_alterRow_28 rfl ?_
    refine lv_iload_n hx hb dX9_alterRow_29 rfl (lv_at hl 2 rfl) ?_
    refine lv_imul hx hb dX9_alterRow_30 ?_
    refine lv_iload_n hx hb dX9_alterRow_31 rfl (lv_at hl 3 rfl) ?_
    refine lv_iadd hx hb dX9_alterRow_32 ?_
    refine lv_iload_n hx hb dX9_alterRow_33 rfl (lv_at hl 4 rfl) ?_
    replace hf := chkI_inv hf
    obtain ⟨hi6, hf⟩ := hf
    refine r_iast (ws' := [(h_this, ob 9 [.ref h_this_s, .ref h_this_kept, .ref h_this_laid, .int x_this_isKept, .ref h_this_pile, .ref h_this_tape, .int x_this_taped, .ref h_this_letters, .int x_this_at, .int x_this_begun, .int x_this_token, .int x_this_value, .int x_this_opened, .int x_this_steps, .ref h_this_code0, .ref h_this_read, .ref h_this_saved, .ref h_this_plan, .ref h_this_bestPlan, .int x_this_most, .int x_this_many, .int x_this_few, .int x_this_everHome, .ref h_this_offThen, .ref h_this_paidThen, .int x_this_firstFit, .ref h_this_rows, .int x_this_rowMany, .ref h_this_sorts, .ref h_this_sizes, .ref h_this_number, .ref h_this_holds, .ref h_this_heldOne, .ref h_this_trace, .int x_this_traced, .int x_this_own, .int x_this_isParted]), (h_this_rows, ia G 12 (upd f_this_rows (((3 : Int32) * p0) + p1).toNatClampNeg p2))]) C h 1 rfl hi6 dX9_alterRow_34 rfl (fun H locs h => ?_)
    refine lv_iload hx hb dX9_alterRow_35 (lv_at hl 0 rfl) ?_
    cases hf
    exact r_iret C h hr hlk rfl dX9_alterRow_37
  · replace hf := ifp c3 hf
    refine lv_bipush (v := (-9 : Int32)) hx hb dX9_alterRow_9 rfl ?_
    cases hf
    exact r_iret C h hr hlk rfl dX9_alterRow_11
set_option maxRecDepth 100000 in
set_option maxHeartbeats 4000000 in
theorem c_X9_isAct {l : Launch} {G : Gt} {h_this h_this_s h_this_kept h_this_laid h_this_pile h_this_tape h_this_letters h_this_code0 h_this_read h_this_saved h_this_plan h_this_bestPlan h_this_offThen h_this_paidThen h_this_rows h_this_sorts h_this_sizes h_this_number h_this_holds h_this_heldOne h_this_trace : Nat} {p0 : Int32} {x_this_isKept : Int32} {x_this_taped : Int32} {x_this_at : Int32} {x_this_begun : Int32} {x_this_token : Int32} {x_this_value : Int32} {x_this_opened : Int32} {x_this_steps : Int32} {x_this_most : Int32} {x_this_many : Int32} {x_this_few : Int32} {x_this_everHome : Int32} {x_this_firstFit : Int32} {x_this_rowMany : Int32} {x_this_traced : Int32} {x_this_own : Int32} {x_this_isParted : Int32} {f_this_s : Nat → Int32} {r : Int32} (hf : f_X9_isAct p0 f_this_s = some r) : mFi l G yX9_isAct cX9_isAct 2 .boolean 1 [.ref h_this, .int p0] [(h_this, ob 9 [.ref h_this_s, .ref h_this_kept, .ref h_this_laid, .int x_this_isKept, .ref h_this_pile, .ref h_this_tape, .int x_this_taped, .ref h_this_letters, .int x_this_at, .int x_this_begun, .int x_this_token, .int x_this_value, .int x_this_opened, .int x_this_steps, .ref h_this_code0, .ref h_this_read, .ref h_this_saved, .ref h_this_plan, .ref h_this_bestPlan, .int x_this_most, .int x_this_many, .int x_this_few, .int x_this_everHome, .ref h_this_offThen, .ref h_this_paidThen, .int x_this_firstFit, .ref h_this_rows, .int x_this_rowMany, .ref h_this_sorts, .ref h_this_sizes, .ref h_this_number, .ref h_this_holds, .ref h_this_heldOne, .ref h_this_trace, .int x_this_traced, .int x_this_own, .int x_this_isParted]), (h_this_s, ia G 313 f_this_s)] r [(h_this, ob 9 [.ref h_this_s, .ref h_this_kept, .ref h_this_laid, .int x_this_isKept, .ref h_this_pile, .ref h_this_tape, .int x_this_taped, .ref h_this_letters, .int x_this_at, .int x_this_begun, .int x_this_token, .int x_this_value, .int x_this_opened, .int x_this_steps, .ref h_this_code0, .ref h_this_read, .ref h_this_saved, .ref h_this_plan, .ref h_this_bestPlan, .int x_this_most, .int x_this_many, .int x_this_few, .int x_this_everHome, .ref h_this_offThen, .ref h_this_paidThen, .int x_this_firstFit, .ref h_this_rows, .int x_this_rowMany, .ref h_this_sorts, .ref h_this_sizes, .ref h_this_number, .ref h_this_holds, .ref h_this_heldOne, .ref h_this_trace, .int x_this_traced, .int x_this_own, .int x_this_isParted]), (h_this_s, ia G 313 f_this_s)] := by
  refine mFi.of (by decide +kernel) (Nat.le_of_ble_eq_true rfl) ?_
  intro p e s m below meth c A C hr hlk h ls hl
  obtain ⟨hx, hb, hml, hown, hts⟩ := id C
  replace hl : lv_has ls 2 [(0, .ref h_this), (1, .int p0)] := hl
  unfold f_X9_isAct at hf
  refine lv_iload_n hx hb dX9_isAct_0 rfl (lv_at hl 1 rfl) ?_
  refine lv_iconst (v := (0 : Int32)) hx hb dX9_isAct_1 rfl ?_
  refine lv_aload_n hx hb dX9_isAct_2 rfl (lv_at hl 0 rfl) ?_
  refine r_get C h fk_X9_9 0 rfl rfl dX9_isAct_3 ?_
  refine lv_iconst (v := (4 : Int32)) hx hb dX9_isAct_6 rfl ?_
  refine r_ialdL C h 1 rfl (vlit rfl) 4 rfl dX9_isAct_7 ?_
  replace hf := bd1_inv hf
  obtain ⟨r1, hc2, hf⟩ := hf
  refine r_ciS0 C h (c_X9_in1 hc2) ms_X9_71 rfl [] rfl rfl hl.1 rfl (Nat.le_of_ble_eq_true rfl) (rok (by decide)) dX9_isAct_8 (fun H locs h => ?_)
  replace hf := chkB_inv hf
  obtain ⟨hb3, hf⟩ := hf
  cases hf
  exact r_iret C h hr hlk hb3 dX9_isAct_11
set_option maxRecDepth 100000 in
set_option maxHeartbeats 4000000 in
theorem c_X9_judge {l : Launch} {G : Gt} {h_this h_this_s h_this_kept h_this_laid h_this_pile h_this_tape h_this_letters h_this_code0 h_this_read h_this_saved h_this_plan h_this_bestPlan h_this_offThen h_this_paidThen h_this_rows h_this_sorts h_this_sizes h_this_number h_this_holds h_this_heldOne h_this_trace : Nat} {x_this_isKept : Int32} {x_this_taped : Int32} {x_this_at : Int32} {x_this_begun : Int32} {x_this_token : Int32} {x_this_value : Int32} {x_this_opened : Int32} {x_this_steps : Int32} {x_this_most : Int32} {x_this_many : Int32} {x_this_few : Int32} {x_this_everHome : Int32} {x_this_firstFit : Int32} {x_this_rowMany : Int32} {x_this_traced : Int32} {x_this_own : Int32} {x_this_isParted : Int32} {f_this_laid : Nat → Int32} {f_this_pile : Nat → Int32} {f_this_rows : Nat → Int32} {f_this_s : Nat → Int32} {r : Int32} {m_this_laid : Nat → Int32} {m_this_pile : Nat → Int32} {m_this_s : Nat → Int32} (hf : f_X9_judge x_this_rowMany f_this_laid f_this_pile f_this_rows f_this_s = some (r, m_this_laid, m_this_pile, m_this_s)) : mFi l G yX9_judge cX9_judge 6 .int 7 [.ref h_this] [(h_this, ob 9 [.ref h_this_s, .ref h_this_kept, .ref h_this_laid, .int x_this_isKept, .ref h_this_pile, .ref h_this_tape, .int x_this_taped, .ref h_this_letters, .int x_this_at, .int x_this_begun, .int x_this_token, .int x_this_value, .int x_this_opened, .int x_this_steps, .ref h_this_code0, .ref h_this_read, .ref h_this_saved, .ref h_this_plan, .ref h_this_bestPlan, .int x_this_most, .int x_this_many, .int x_this_few, .int x_this_everHome, .ref h_this_offThen, .ref h_this_paidThen, .int x_this_firstFit, .ref h_this_rows, .int x_this_rowMany, .ref h_this_sorts, .ref h_this_sizes, .ref h_this_number, .ref h_this_holds, .ref h_this_heldOne, .ref h_this_trace, .int x_this_traced, .int x_this_own, .int x_this_isParted]), (h_this_laid, ia G 65 f_this_laid), (h_this_pile, ia G 200 f_this_pile), (h_this_rows, ia G 12 f_this_rows), (h_this_s, ia G 313 f_this_s)] r [(h_this, ob 9 [.ref h_this_s, .ref h_this_kept, .ref h_this_laid, .int x_this_isKept, .ref h_this_pile, .ref h_this_tape, .int x_this_taped, .ref h_this_letters, .int x_this_at, .int x_this_begun, .int x_this_token, .int x_this_value, .int x_this_opened, .int x_this_steps, .ref h_this_code0, .ref h_this_read, .ref h_this_saved, .ref h_this_plan, .ref h_this_bestPlan, .int x_this_most, .int x_this_many, .int x_this_few, .int x_this_everHome, .ref h_this_offThen, .ref h_this_paidThen, .int x_this_firstFit, .ref h_this_rows, .int x_this_rowMany, .ref h_this_sorts, .ref h_this_sizes, .ref h_this_number, .ref h_this_holds, .ref h_this_heldOne, .ref h_this_trace, .int x_this_traced, .int x_this_own, .int x_this_isParted]), (h_this_laid, ia G 65 m_this_laid), (h_this_pile, ia G 200 m_this_pile), (h_this_rows, ia G 12 f_this_rows), (h_this_s, ia G 313 m_this_s)] := by
  refine mFi.of (by decide +kernel) (Nat.le_of_ble_eq_true rfl) ?_
  intro p e s m below meth c A C hr hlk h ls hl
  obtain ⟨hx, hb, hml, hown, hts⟩ := id C
  replace hl : lv_has ls 6 [(0, .ref h_this)] := hl
  unfold f_X9_judge at hf
  refine with_K G A 6 (fun K hK1 hK2 => ?_)
  have B112 : ∀ (rec8 : Int32 → Int32 → (Nat → Int32) → (Nat → Int32) → (Nat → Int32) → Option (Int32 × (Nat → Int32) × (Nat → Int32) × (Nat → Int32))) (hrec8 : ∀ (v1 : Int32) (v2 : Int32) (g_this_laid : Nat → Int32) (g_this_pile : Nat → Int32) (g_this_s : Nat → Int32), rec8 v1 v2 g_this_laid g_this_pile g_this_s = some (r, m_this_laid, m_this_pile, m_this_s) → K 8 ([] : List Value) [(h_this, ob 9 [.ref h_this_s, .ref h_this_kept, .ref h_this_laid, .int x_this_isKept, .ref h_this_pile, .ref h_this_tape, .int x_this_taped, .ref h_this_letters, .int x_this_at, .int x_this_begun, .int x_this_token, .int x_this_value, .int x_this_opened, .int x_this_steps, .ref h_this_code0, .ref h_this_read, .ref h_this_saved, .ref h_this_plan, .ref h_this_bestPlan, .int x_this_most, .int x_this_many, .int x_this_few, .int x_this_everHome, .ref h_this_offThen, .ref h_this_paidThen, .int x_this_firstFit, .ref h_this_rows, .int x_this_rowMany, .ref h_this_sorts, .ref h_this_sizes, .ref h_this_number, .ref h_this_holds, .ref h_this_heldOne, .ref h_this_trace, .int x_this_traced, .int x_this_own, .int x_this_isParted]), (h_this_laid, ia G 65 g_this_laid), (h_this_pile, ia G 200 g_this_pile), (h_this_rows, ia G 12 f_this_rows), (h_this_s, ia G 313 g_this_s)] [(0, .ref h_this), (1, .int v1), (2, .int v2)]) (v2 : Int32) (s0 : Int32) (g_this_laid : Nat → Int32) (g_this_pile : Nat → Int32) (g_this_s : Nat → Int32), f_X9_judge_b112 rec8 v2 s0 g_this_laid g_this_pile g_this_s = some (r, m_this_laid, m_this_pile, m_this_s) → K 112 [.int s0] [(h_this, ob 9 [.ref h_this_s, .ref h_this_kept, .ref h_this_laid, .int x_this_isKept, .ref h_this_pile, .ref h_this_tape, .int x_this_taped, .ref h_this_letters, .int x_this_at, .int x_this_begun, .int x_this_token, .int x_this_value, .int x_this_opened, .int x_this_steps, .ref h_this_code0, .ref h_this_read, .ref h_this_saved, .ref h_this_plan, .ref h_this_bestPlan, .int x_this_most, .int x_this_many, .int x_this_few, .int x_this_everHome, .ref h_this_offThen, .ref h_this_paidThen, .int x_this_firstFit, .ref h_this_rows, .int x_this_rowMany, .ref h_this_sorts, .ref h_this_sizes, .ref h_this_number, .ref h_this_holds, .ref h_this_heldOne, .ref h_this_trace, .int x_this_traced, .int x_this_own, .int x_this_isParted]), (h_this_laid, ia G 65 g_this_laid), (h_this_pile, ia G 200 g_this_pile), (h_this_rows, ia G 12 f_this_rows), (h_this_s, ia G 313 g_this_s)] [(0, .ref h_this), (2, .int v2)] := by
    intro rec8 hrec8 v2 s0 g_this_laid g_this_pile g_this_s hf
    unfold f_X9_judge_b112 at hf
    refine hK1 _ _ _ _ (fun H locs ls h hl => ?_)
    refine lv_istore (lv' := [(5, .int s0), (0, .ref h_this), (2, .int v2)]) hx hb dX9_judge_112 hl (by decide) rfl (fun ls hl => ?_)
    refine lv_iload hx hb dX9_judge_114 (lv_at hl 0 rfl) ?_
    refine lv_if_eq (tgt := 123) hx hb dX9_judge_116 rfl (fun c15 => ?_) (fun c15 => ?_)
    · replace hf := ifp c15 hf
      refine lv_iconst (v := (1 : Int32)) hx hb dX9_judge_123 rfl ?_
      refine lv_iload_n hx hb dX9_judge_124 rfl (lv_at hl 2 rfl) ?_
      refine lv_iadd hx hb dX9_judge_125 ?_
      refine lv_topi (fun t16 et16 => ?_)
      replace hf := lt1_inv et16 hf
      refine lv_istore_n (lv' := [(1, .int t16), (5, .int s0), (0, .ref h_this), (2, .int v2)]) hx hb dX9_judge_126 rfl hl (by decide) rfl (fun ls hl => ?_)
      obtain ⟨t17, et17⟩ : ∃ y : Int32, y = v2 + (1 : Int32) := ⟨_, rfl⟩
      replace hf := lt1_inv et17 hf
      refine lv_iinc (v := t17) (lv' := [(2, .int t17), (1, .int t16), (5, .int s0), (0, .ref h_this)]) hx hb dX9_judge_127 hl (k := 3) rfl (by rw [et17]; rfl) (by decide) rfl (fun ls hl => ?_)
      refine lv_goto (tgt := 8) hx hb dX9_judge_130 rfl ?_
      exact hK2 _ _ _ _ (hrec8 t16 t17 g_this_laid g_this_pile g_this_s hf) _ _ _ h (lv_sub hl [3, 1, 0] rfl)
    · replace hf := ifn c15 hf
      refine lv_iconst (v := (0 : Int32)) hx hb dX9_judge_119 rfl ?_
      refine lv_goto (tgt := 126) hx hb dX9_judge_120 rfl ?_
      refine lv_istore_n (lv' := [(1, .int (0 : Int32)), (5, .int s0), (0, .ref h_this), (2, .int v2)]) hx hb dX9_judge_126 rfl hl (by decide) rfl (fun ls hl => ?_)
      obtain ⟨t18, et18⟩ : ∃ y : Int32, y = v2 + (1 : Int32) := ⟨_, rfl⟩
      replace hf := lt1_inv et18 hf
      refine lv_iinc (v := t18) (lv' := [(2, .int t18), (1, .int (0 : Int32)), (5, .int s0), (0, .ref h_this)]) hx hb dX9_judge_127 hl (k := 3) rfl (by rw [et18]; rfl) (by decide) rfl (fun ls hl => ?_)
      refine lv_goto (tgt := 8) hx hb dX9_judge_130 rfl ?_
      exact hK2 _ _ _ _ (hrec8 (0 : Int32) t18 g_this_laid g_this_pile g_this_s hf) _ _ _ h (lv_sub hl [3, 1, 0] rfl)
  have B111 : ∀ (rec8 : Int32 → Int32 → (Nat → Int32) → (Nat → Int32) → (Nat → Int32) → Option (Int32 × (Nat → Int32) × (Nat → Int32) × (Nat → Int32))) (hrec8 : ∀ (v1 : Int32) (v2 : Int32) (g_this_laid : Nat → Int32) (g_this_pile : Nat → Int32) (g_this_s : Nat → Int32), rec8 v1 v2 g_this_laid g_this_pile g_this_s = some (r, m_this_laid, m_this_pile, m_this_s) → K 8 ([] : List Value) [(h_this, ob 9 [.ref h_this_s, .ref h_this_kept, .ref h_this_laid, .int x_this_isKept, .ref h_this_pile, .ref h_this_tape, .int x_this_taped, .ref h_this_letters, .int x_this_at, .int x_this_begun, .int x_this_token, .int x_this_value, .int x_this_opened, .int x_this_steps, .ref h_this_code0, .ref h_this_read, .ref h_this_saved, .ref h_this_plan, .ref h_this_bestPlan, .int x_this_most, .int x_this_many, .int x_this_few, .int x_this_everHome, .ref h_this_offThen, .ref h_this_paidThen, .int x_this_firstFit, .ref h_this_rows, .int x_this_rowMany, .ref h_this_sorts, .ref h_this_sizes, .ref h_this_number, .ref h_this_holds, .ref h_this_heldOne, .ref h_this_trace, .int x_this_traced, .int x_this_own, .int x_this_isParted]), (h_this_laid, ia G 65 g_this_laid), (h_this_pile, ia G 200 g_this_pile), (h_this_rows, ia G 12 f_this_rows), (h_this_s, ia G 313 g_this_s)] [(0, .ref h_this), (1, .int v1), (2, .int v2)]) (v2 : Int32) (g_this_laid : Nat → Int32) (g_this_pile : Nat → Int32) (g_this_s : Nat → Int32), f_X9_judge_b111 rec8 v2 g_this_laid g_this_pile g_this_s = some (r, m_this_laid, m_this_pile, m_this_s) → K 111 ([] : List Value) [(h_this, ob 9 [.ref h_this_s, .ref h_this_kept, .ref h_this_laid, .int x_this_isKept, .ref h_this_pile, .ref h_this_tape, .int x_this_taped, .ref h_this_letters, .int x_this_at, .int x_this_begun, .int x_this_token, .int x_this_value, .int x_this_opened, .int x_this_steps, .ref h_this_code0, .ref h_this_read, .ref h_this_saved, .ref h_this_plan, .ref h_this_bestPlan, .int x_this_most, .int x_this_many, .int x_this_few, .int x_this_everHome, .ref h_this_offThen, .ref h_this_paidThen, .int x_this_firstFit, .ref h_this_rows, .int x_this_rowMany, .ref h_this_sorts, .ref h_this_sizes, .ref h_this_number, .ref h_this_holds, .ref h_this_heldOne, .ref h_this_trace, .int x_this_traced, .int x_this_own, .int x_this_isParted]), (h_this_laid, ia G 65 g_this_laid), (h_this_pile, ia G 200 g_this_pile), (h_this_rows, ia G 12 f_this_rows), (h_this_s, ia G 313 g_this_s)] [(0, .ref h_this), (2, .int v2)] := by
    intro rec8 hrec8 v2 g_this_laid g_this_pile g_this_s hf
    unfold f_X9_judge_b111 at hf
    refine hK1 _ _ _ _ (fun H locs ls h hl => ?_)
    refine lv_iconst (v := (0 : Int32)) hx hb dX9_judge_111 rfl ?_
    exact hK2 _ _ _ _ (B112 _ hrec8 v2 (0 : Int32) g_this_laid g_this_pile g_this_s hf) _ _ _ h (lv_sub hl [0, 1] rfl)
  have B68 : ∀ (rec8 : Int32 → Int32 → (Nat → Int32) → (Nat → Int32) → (Nat → Int32) → Option (Int32 × (Nat → Int32) × (Nat → Int32) × (Nat → Int32))) (hrec8 : ∀ (v1 : Int32) (v2 : Int32) (g_this_laid : Nat → Int32) (g_this_pile : Nat → Int32) (g_this_s : Nat → Int32), rec8 v1 v2 g_this_laid g_this_pile g_this_s = some (r, m_this_laid, m_this_pile, m_this_s) → K 8 ([] : List Value) [(h_this, ob 9 [.ref h_this_s, .ref h_this_kept, .ref h_this_laid, .int x_this_isKept, .ref h_this_pile, .ref h_this_tape, .int x_this_taped, .ref h_this_letters, .int x_this_at, .int x_this_begun, .int x_this_token, .int x_this_value, .int x_this_opened, .int x_this_steps, .ref h_this_code0, .ref h_this_read, .ref h_this_saved, .ref h_this_plan, .ref h_this_bestPlan, .int x_this_most, .int x_this_many, .int x_this_few, .int x_this_everHome, .ref h_this_offThen, .ref h_this_paidThen, .int x_this_firstFit, .ref h_this_rows, .int x_this_rowMany, .ref h_this_sorts, .ref h_this_sizes, .ref h_this_number, .ref h_this_holds, .ref h_this_heldOne, .ref h_this_trace, .int x_this_traced, .int x_this_own, .int x_this_isParted]), (h_this_laid, ia G 65 g_this_laid), (h_this_pile, ia G 200 g_this_pile), (h_this_rows, ia G 12 f_this_rows), (h_this_s, ia G 313 g_this_s)] [(0, .ref h_this), (1, .int v1), (2, .int v2)]) (v2 : Int32) (v3 : Int32) (s0 : Int32) (g_this_laid : Nat → Int32) (g_this_pile : Nat → Int32) (g_this_s : Nat → Int32), f_X9_judge_b68 rec8 f_this_rows v2 v3 s0 g_this_laid g_this_pile g_this_s = some (r, m_this_laid, m_this_pile, m_this_s) → K 68 [.int s0] [(h_this, ob 9 [.ref h_this_s, .ref h_this_kept, .ref h_this_laid, .int x_this_isKept, .ref h_this_pile, .ref h_this_tape, .int x_this_taped, .ref h_this_letters, .int x_this_at, .int x_this_begun, .int x_this_token, .int x_this_value, .int x_this_opened, .int x_this_steps, .ref h_this_code0, .ref h_this_read, .ref h_this_saved, .ref h_this_plan, .ref h_this_bestPlan, .int x_this_most, .int x_this_many, .int x_this_few, .int x_this_everHome, .ref h_this_offThen, .ref h_this_paidThen, .int x_this_firstFit, .ref h_this_rows, .int x_this_rowMany, .ref h_this_sorts, .ref h_this_sizes, .ref h_this_number, .ref h_this_holds, .ref h_this_heldOne, .ref h_this_trace, .int x_this_traced, .int x_this_own, .int x_this_isParted]), (h_this_laid, ia G 65 g_this_laid), (h_this_pile, ia G 200 g_this_pile), (h_this_rows, ia G 12 f_this_rows), (h_this_s, ia G 313 g_this_s)] [(0, .ref h_this), (2, .int v2), (3, .int v3)] := by
    intro rec8 hrec8 v2 v3 s0 g_this_laid g_this_pile g_this_s hf
    unfold f_X9_judge_b68 at hf
    refine hK1 _ _ _ _ (fun H locs ls h hl => ?_)
    refine lv_istore (lv' := [(4, .int s0), (0, .ref h_this), (2, .int v2), (3, .int v3)]) hx hb dX9_judge_68 hl (by decide) rfl (fun ls hl => ?_)
    refine lv_iload_n hx hb dX9_judge_70 rfl (lv_at hl 3 rfl) ?_
    refine lv_if_eq (tgt := 111) hx hb dX9_judge_71 rfl (fun c14 => ?_) (fun c14 => ?_)
    · replace hf := ifp c14 hf
      exact hK2 _ _ _ _ (B111 _ hrec8 v2 g_this_laid g_this_pile g_this_s hf) _ _ _ h (lv_sub hl [1, 2] rfl)
    · replace hf := ifn c14 hf
      refine lv_iload hx hb dX9_judge_74 (lv_at hl 0 rfl) ?_
      refine lv_aload_n hx hb dX9_judge_76 rfl (lv_at hl 1 rfl) ?_
      refine r_get C h fk_X9_50 0 rfl rfl dX9_judge_77 ?_
      refine lv_iconst (v := (3 : Int32)) hx hb dX9_judge_80 rfl ?_
      refine lv_iload_n hx hb dX9_judge_81 rfl (lv_at hl 2 rfl) ?_
      refine lv_imul hx hb dX9_judge_82 ?_
      refine lv_iconst (v := (1 : Int32)) hx hb dX9_judge_83 rfl ?_
      refine lv_iadd hx hb dX9_judge_84 ?_
      replace hf := chkI_inv hf
      obtain ⟨hi19, hf⟩ := hf
      refine r_iald C h 3 rfl hi19 dX9_judge_85 ?_
      refine lv_icmp_ne (tgt := 111) hx hb dX9_judge_86 rfl (fun c20 => ?_) (fun c20 => ?_)
      · replace hf := ifn c20 hf
        exact hK2 _ _ _ _ (B111 _ hrec8 v2 g_this_laid g_this_pile g_this_s hf) _ _ _ h (lv_sub hl [1, 2] rfl)
      · replace hf := ifp c20 hf
        refine lv_aload_n hx hb dX9_judge_89 rfl (lv_at hl 1 rfl) ?_
        refine lv_iconst (v := (4 : Int32)) hx hb dX9_judge_90 rfl ?_
        replace hf := bd1_inv hf
        obtain ⟨r21, hc22, hf⟩ := hf
        refine r_ciV0 C h (c_X9_those hc22) mv_X9_235 rfl 0 rfl [0, 4] rfl rfl hl.1 rfl (Nat.le_of_ble_eq_true rfl) (rok (by decide)) dX9_judge_91 (fun H locs h => ?_)
        refine lv_aload_n hx hb dX9_judge_94 rfl (lv_at hl 1 rfl) ?_
        refine r_get C h fk_X9_50 0 rfl rfl dX9_judge_95 ?_
        refine lv_iconst (v := (3 : Int32)) hx hb dX9_judge_98 rfl ?_
        refine lv_iload_n hx hb dX9_judge_99 rfl (lv_at hl 2 rfl) ?_
        refine lv_imul hx hb dX9_judge_100 ?_
        refine lv_iconst (v := (2 : Int32)) hx hb dX9_judge_101 rfl ?_
        refine lv_iadd hx hb dX9_judge_102 ?_
        replace hf := chkI_inv hf
        obtain ⟨hi23, hf⟩ := hf
        refine r_iald C h 3 rfl hi23 dX9_judge_103 ?_
        refine lv_icmp_ne (tgt := 111) hx hb dX9_judge_104 rfl (fun c24 => ?_) (fun c24 => ?_)
        · replace hf := ifn c24 hf
          exact hK2 _ _ _ _ (B111 _ hrec8 v2 g_this_laid g_this_pile g_this_s hf) _ _ _ h (lv_sub hl [1, 2] rfl)
        · replace hf := ifp c24 hf
          refine lv_iconst (v := (1 : Int32)) hx hb dX9_judge_107 rfl ?_
          refine lv_goto (tgt := 112) hx hb dX9_judge_108 rfl ?_
          exact hK2 _ _ _ _ (B112 _ hrec8 v2 (1 : Int32) g_this_laid g_this_pile g_this_s hf) _ _ _ h (lv_sub hl [1, 2] rfl)
  have B47 : ∀ (rec8 : Int32 → Int32 → (Nat → Int32) → (Nat → Int32) → (Nat → Int32) → Option (Int32 × (Nat → Int32) × (Nat → Int32) × (Nat → Int32))) (hrec8 : ∀ (v1 : Int32) (v2 : Int32) (g_this_laid : Nat → Int32) (g_this_pile : Nat → Int32) (g_this_s : Nat → Int32), rec8 v1 v2 g_this_laid g_this_pile g_this_s = some (r, m_this_laid, m_this_pile, m_this_s) → K 8 ([] : List Value) [(h_this, ob 9 [.ref h_this_s, .ref h_this_kept, .ref h_this_laid, .int x_this_isKept, .ref h_this_pile, .ref h_this_tape, .int x_this_taped, .ref h_this_letters, .int x_this_at, .int x_this_begun, .int x_this_token, .int x_this_value, .int x_this_opened, .int x_this_steps, .ref h_this_code0, .ref h_this_read, .ref h_this_saved, .ref h_this_plan, .ref h_this_bestPlan, .int x_this_most, .int x_this_many, .int x_this_few, .int x_this_everHome, .ref h_this_offThen, .ref h_this_paidThen, .int x_this_firstFit, .ref h_this_rows, .int x_this_rowMany, .ref h_this_sorts, .ref h_this_sizes, .ref h_this_number, .ref h_this_holds, .ref h_this_heldOne, .ref h_this_trace, .int x_this_traced, .int x_this_own, .int x_this_isParted]), (h_this_laid, ia G 65 g_this_laid), (h_this_pile, ia G 200 g_this_pile), (h_this_rows, ia G 12 f_this_rows), (h_this_s, ia G 313 g_this_s)] [(0, .ref h_this), (1, .int v1), (2, .int v2)]) (v2 : Int32) (s0 : Int32) (g_this_laid : Nat → Int32) (g_this_pile : Nat → Int32) (g_this_s : Nat → Int32), f_X9_judge_b47 rec8 f_this_rows v2 s0 g_this_laid g_this_pile g_this_s = some (r, m_this_laid, m_this_pile, m_this_s) → K 47 [.int s0] [(h_this, ob 9 [.ref h_this_s, .ref h_this_kept, .ref h_this_laid, .int x_this_isKept, .ref h_this_pile, .ref h_this_tape, .int x_this_taped, .ref h_this_letters, .int x_this_at, .int x_this_begun, .int x_this_token, .int x_this_value, .int x_this_opened, .int x_this_steps, .ref h_this_code0, .ref h_this_read, .ref h_this_saved, .ref h_this_plan, .ref h_this_bestPlan, .int x_this_most, .int x_this_many, .int x_this_few, .int x_this_everHome, .ref h_this_offThen, .ref h_this_paidThen, .int x_this_firstFit, .ref h_this_rows, .int x_this_rowMany, .ref h_this_sorts, .ref h_this_sizes, .ref h_this_number, .ref h_this_holds, .ref h_this_heldOne, .ref h_this_trace, .int x_this_traced, .int x_this_own, .int x_this_isParted]), (h_this_laid, ia G 65 g_this_laid), (h_this_pile, ia G 200 g_this_pile), (h_this_rows, ia G 12 f_this_rows), (h_this_s, ia G 313 g_this_s)] [(0, .ref h_this), (2, .int v2)] := by
    intro rec8 hrec8 v2 s0 g_this_laid g_this_pile g_this_s hf
    unfold f_X9_judge_b47 at hf
    refine hK1 _ _ _ _ (fun H locs ls h hl => ?_)
    refine lv_istore_n (lv' := [(3, .int s0), (0, .ref h_this), (2, .int v2)]) hx hb dX9_judge_47 rfl hl (by decide) rfl (fun ls hl => ?_)
    refine lv_iload_n hx hb dX9_judge_48 rfl (lv_at hl 0 rfl) ?_
    refine lv_if_eq (tgt := 67) hx hb dX9_judge_49 rfl (fun c13 => ?_) (fun c13 => ?_)
    · replace hf := ifp c13 hf
      refine lv_iconst (v := (0 : Int32)) hx hb dX9_judge_67 rfl ?_
      exact hK2 _ _ _ _ (B68 _ hrec8 v2 s0 (0 : Int32) g_this_laid g_this_pile g_this_s hf) _ _ _ h (lv_sub hl [1, 2, 0] rfl)
    · replace hf := ifn c13 hf
      refine lv_aload_n hx hb dX9_judge_52 rfl (lv_at hl 1 rfl) ?_
      refine lv_aload_n hx hb dX9_judge_53 rfl (lv_at hl 1 rfl) ?_
      refine r_get C h fk_X9_50 0 rfl rfl dX9_judge_54 ?_
      refine lv_iconst (v := (3 : Int32)) hx hb dX9_judge_57 rfl ?_
      refine lv_iload_n hx hb dX9_judge_58 rfl (lv_at hl 2 rfl) ?_
      refine lv_imul hx hb dX9_judge_59 ?_
      replace hf := chkI_inv hf
      obtain ⟨hi25, hf⟩ := hf
      refine r_iald C h 3 rfl hi25 dX9_judge_60 ?_
      replace hf := bd3_inv hf
      obtain ⟨r26, g27, g28, hc29, hf⟩ := hf
      refine r_ciV (ws' := [(h_this, ob 9 [.ref h_this_s, .ref h_this_kept, .ref h_this_laid, .int x_this_isKept, .ref h_this_pile, .ref h_this_tape, .int x_this_taped, .ref h_this_letters, .int x_this_at, .int x_this_begun, .int x_this_token, .int x_this_value, .int x_this_opened, .int x_this_steps, .ref h_this_code0, .ref h_this_read, .ref h_this_saved, .ref h_this_plan, .ref h_this_bestPlan, .int x_this_most, .int x_this_many, .int x_this_few, .int x_this_everHome, .ref h_this_offThen, .ref h_this_paidThen, .int x_this_firstFit, .ref h_this_rows, .int x_this_rowMany, .ref h_this_sorts, .ref h_this_sizes, .ref h_this_number, .ref h_this_holds, .ref h_this_heldOne, .ref h_this_trace, .int x_this_traced, .int x_this_own, .int x_this_isParted]), (h_this_laid, ia G 65 g_this_laid), (h_this_pile, ia G 200 g27), (h_this_rows, ia G 12 f_this_rows), (h_this_s, ia G 313 g28)]) C h (c_X9_goesBy hc29) mv_X9_238 rfl 0 rfl [0, 2, 4] rfl rfl [2, 4] [(h_this_pile, ia G 200 g27), (h_this_s, ia G 313 g28)] rfl rfl (by decide +kernel) rfl hl.1 rfl (Nat.le_of_ble_eq_true rfl) (rok (by decide)) dX9_judge_61 (fun H locs h => ?_)
      refine lv_goto (tgt := 68) hx hb dX9_judge_64 rfl ?_
      exact hK2 _ _ _ _ (B68 _ hrec8 v2 s0 r26 g_this_laid g27 g28 hf) _ _ _ h (lv_sub hl [1, 2, 0] rfl)
  have B46 : ∀ (rec8 : Int32 → Int32 → (Nat → Int32) → (Nat → Int32) → (Nat → Int32) → Option (Int32 × (Nat → Int32) × (Nat → Int32) × (Nat → Int32))) (hrec8 : ∀ (v1 : Int32) (v2 : Int32) (g_this_laid : Nat → Int32) (g_this_pile : Nat → Int32) (g_this_s : Nat → Int32), rec8 v1 v2 g_this_laid g_this_pile g_this_s = some (r, m_this_laid, m_this_pile, m_this_s) → K 8 ([] : List Value) [(h_this, ob 9 [.ref h_this_s, .ref h_this_kept, .ref h_this_laid, .int x_this_isKept, .ref h_this_pile, .ref h_this_tape, .int x_this_taped, .ref h_this_letters, .int x_this_at, .int x_this_begun, .int x_this_token, .int x_this_value, .int x_this_opened, .int x_this_steps, .ref h_this_code0, .ref h_this_read, .ref h_this_saved, .ref h_this_plan, .ref h_this_bestPlan, .int x_this_most, .int x_this_many, .int x_this_few, .int x_this_everHome, .ref h_this_offThen, .ref h_this_paidThen, .int x_this_firstFit, .ref h_this_rows, .int x_this_rowMany, .ref h_this_sorts, .ref h_this_sizes, .ref h_this_number, .ref h_this_holds, .ref h_this_heldOne, .ref h_this_trace, .int x_this_traced, .int x_this_own, .int x_this_isParted]), (h_this_laid, ia G 65 g_this_laid), (h_this_pile, ia G 200 g_this_pile), (h_this_rows, ia G 12 f_this_rows), (h_this_s, ia G 313 g_this_s)] [(0, .ref h_this), (1, .int v1), (2, .int v2)]) (v2 : Int32) (g_this_laid : Nat → Int32) (g_this_pile : Nat → Int32) (g_this_s : Nat → Int32), f_X9_judge_b46 rec8 f_this_rows v2 g_this_laid g_this_pile g_this_s = some (r, m_this_laid, m_this_pile, m_this_s) → K 46 ([] : List Value) [(h_this, ob 9 [.ref h_this_s, .ref h_this_kept, .ref h_this_laid, .int x_this_isKept, .ref h_this_pile, .ref h_this_tape, .int x_this_taped, .ref h_this_letters, .int x_this_at, .int x_this_begun, .int x_this_token, .int x_this_value, .int x_this_opened, .int x_this_steps, .ref h_this_code0, .ref h_this_read, .ref h_this_saved, .ref h_this_plan, .ref h_this_bestPlan, .int x_this_most, .int x_this_many, .int x_this_few, .int x_this_everHome, .ref h_this_offThen, .ref h_this_paidThen, .int x_this_firstFit, .ref h_this_rows, .int x_this_rowMany, .ref h_this_sorts, .ref h_this_sizes, .ref h_this_number, .ref h_this_holds, .ref h_this_heldOne, .ref h_this_trace, .int x_this_traced, .int x_this_own, .int x_this_isParted]), (h_this_laid, ia G 65 g_this_laid), (h_this_pile, ia G 200 g_this_pile), (h_this_rows, ia G 12 f_this_rows), (h_this_s, ia G 313 g_this_s)] [(0, .ref h_this), (2, .int v2)] := by
    intro rec8 hrec8 v2 g_this_laid g_this_pile g_this_s hf
    unfold f_X9_judge_b46 at hf
    refine hK1 _ _ _ _ (fun H locs ls h hl => ?_)
    refine lv_iconst (v := (0 : Int32)) hx hb dX9_judge_46 rfl ?_
    exact hK2 _ _ _ _ (B47 _ hrec8 v2 (0 : Int32) g_this_laid g_this_pile g_this_s hf) _ _ _ h (lv_sub hl [0, 1] rfl)
  have L8 : ∀ (n : Nat) (v1 : Int32) (v2 : Int32) (g_this_laid : Nat → Int32) (g_this_pile : Nat → Int32) (g_this_s : Nat → Int32), f_X9_judge_L8 x_this_rowMany f_this_rows n v1 v2 g_this_laid g_this_pile g_this_s = some (r, m_this_laid, m_this_pile, m_this_s) → K 8 ([] : List Value) [(h_this, ob 9 [.ref h_this_s, .ref h_this_kept, .ref h_this_laid, .int x_this_isKept, .ref h_this_pile, .ref h_this_tape, .int x_this_taped, .ref h_this_letters, .int x_this_at, .int x_this_begun, .int x_this_token, .int x_this_value, .int x_this_opened, .int x_this_steps, .ref h_this_code0, .ref h_this_read, .ref h_this_saved, .ref h_this_plan, .ref h_this_bestPlan, .int x_this_most, .int x_this_many, .int x_this_few, .int x_this_everHome, .ref h_this_offThen, .ref h_this_paidThen, .int x_this_firstFit, .ref h_this_rows, .int x_this_rowMany, .ref h_this_sorts, .ref h_this_sizes, .ref h_this_number, .ref h_this_holds, .ref h_this_heldOne, .ref h_this_trace, .int x_this_traced, .int x_this_own, .int x_this_isParted]), (h_this_laid, ia G 65 g_this_laid), (h_this_pile, ia G 200 g_this_pile), (h_this_rows, ia G 12 f_this_rows), (h_this_s, ia G 313 g_this_s)] [(0, .ref h_this), (1, .int v1), (2, .int v2)] := by
    intro n
    induction n with
    | zero =>
      intro v1 v2 g_this_laid g_this_pile g_this_s hf
      replace hf : (none : Option _) = some _ := hf
      cases hf
    | succ n ih =>
      intro v1 v2 g_this_laid g_this_pile g_this_s hf
      rw [f_X9_judge_L8] at hf
      refine hK1 _ _ _ _ (fun H locs ls h hl => ?_)
      refine lv_iload_n hx hb dX9_judge_8 rfl (lv_at hl 2 rfl) ?_
      refine lv_aload_n hx hb dX9_judge_9 rfl (lv_at hl 0 rfl) ?_
      refine r_get C h fk_X9_320 0 rfl rfl dX9_judge_10 ?_
      refine lv_icmp_ge (tgt := 133) hx hb dX9_judge_13 rfl (fun c3 => ?_) (fun c3 => ?_)
      · replace hf := ifp c3 hf
        refine lv_aload_n hx hb dX9_judge_133 rfl (lv_at hl 0 rfl) ?_
        replace hf := bd1_inv hf
        obtain ⟨g4, hc5, hf⟩ := hf
        refine r_cvV (ws' := [(h_this, ob 9 [.ref h_this_s, .ref h_this_kept, .ref h_this_laid, .int x_this_isKept, .ref h_this_pile, .ref h_this_tape, .int x_this_taped, .ref h_this_letters, .int x_this_at, .int x_this_begun, .int x_this_token, .int x_this_value, .int x_this_opened, .int x_this_steps, .ref h_this_code0, .ref h_this_read, .ref h_this_saved, .ref h_this_plan, .ref h_this_bestPlan, .int x_this_most, .int x_this_many, .int x_this_few, .int x_this_everHome, .ref h_this_offThen, .ref h_this_paidThen, .int x_this_firstFit, .ref h_this_rows, .int x_this_rowMany, .ref h_this_sorts, .ref h_this_sizes, .ref h_this_number, .ref h_this_holds, .ref h_this_heldOne, .ref h_this_trace, .int x_this_traced, .int x_this_own, .int x_this_isParted]), (h_this_laid, ia G 65 g_this_laid), (h_this_pile, ia G 200 g_this_pile), (h_this_rows, ia G 12 f_this_rows), (h_this_s, ia G 313 g4)]) C h (c_X9_layBack hc5) mv_X9_247 rfl 0 rfl [0, 1, 4] rfl rfl [4] [(h_this_s, ia G 313 g4)] rfl rfl (by decide +kernel) rfl hl.1 rfl (Nat.le_of_ble_eq_true rfl) (rok (by decide)) dX9_judge_134 (fun H locs h => ?_)
        refine lv_iload_n hx hb dX9_judge_137 rfl (lv_at hl 1 rfl) ?_
        cases hf
        exact r_iret C h hr hlk rfl dX9_judge_138
      · replace hf := ifn c3 hf
        refine lv_iload_n hx hb dX9_judge_16 rfl (lv_at hl 1 rfl) ?_
        refine lv_if_ne (tgt := 133) hx hb dX9_judge_17 rfl (fun c6 => ?_) (fun c6 => ?_)
        · replace hf := ifn c6 hf
          refine lv_aload_n hx hb dX9_judge_133 rfl (lv_at hl 0 rfl) ?_
          replace hf := bd1_inv hf
          obtain ⟨g7, hc8, hf⟩ := hf
          refine r_cvV (ws' := [(h_this, ob 9 [.ref h_this_s, .ref h_this_kept, .ref h_this_laid, .int x_this_isKept, .ref h_this_pile, .ref h_this_tape, .int x_this_taped, .ref h_this_letters, .int x_this_at, .int x_this_begun, .int x_this_token, .int x_this_value, .int x_this_opened, .int x_this_steps, .ref h_this_code0, .ref h_this_read, .ref h_this_saved, .ref h_this_plan, .ref h_this_bestPlan, .int x_this_most, .int x_this_many, .int x_this_few, .int x_this_everHome, .ref h_this_offThen, .ref h_this_paidThen, .int x_this_firstFit, .ref h_this_rows, .int x_this_rowMany, .ref h_this_sorts, .ref h_this_sizes, .ref h_this_number, .ref h_this_holds, .ref h_this_heldOne, .ref h_this_trace, .int x_this_traced, .int x_this_own, .int x_this_isParted]), (h_this_laid, ia G 65 g_this_laid), (h_this_pile, ia G 200 g_this_pile), (h_this_rows, ia G 12 f_this_rows), (h_this_s, ia G 313 g7)]) C h (c_X9_layBack hc8) mv_X9_247 rfl 0 rfl [0, 1, 4] rfl rfl [4] [(h_this_s, ia G 313 g7)] rfl rfl (by decide +kernel) rfl hl.1 rfl (Nat.le_of_ble_eq_true rfl) (rok (by decide)) dX9_judge_134 (fun H locs h => ?_)
          refine lv_iload_n hx hb dX9_judge_137 rfl (lv_at hl 1 rfl) ?_
          cases hf
          exact r_iret C h hr hlk rfl dX9_judge_138
        · replace hf := ifp c6 hf
          refine lv_aload_n hx hb dX9_judge_20 rfl (lv_at hl 0 rfl) ?_
          refine lv_aload_n hx hb dX9_judge_21 rfl (lv_at hl 0 rfl) ?_
          refine r_get C h fk_X9_50 0 rfl rfl dX9_judge_22 ?_
          refine lv_iconst (v := (3 : Int32)) hx hb dX9_judge_25 rfl ?_
          refine lv_iload_n hx hb dX9_judge_26 rfl (lv_at hl 2 rfl) ?_
          refine lv_imul hx hb dX9_judge_27 ?_
          replace hf := chkI_inv hf
          obtain ⟨hi9, hf⟩ := hf
          refine r_iald C h 3 rfl hi9 dX9_judge_28 ?_
          replace hf := bd1_inv hf
          obtain ⟨r10, hc11, hf⟩ := hf
          refine r_ciV0 C h (c_X9_isAct hc11) mv_X9_326 rfl 0 rfl [0, 4] rfl rfl hl.1 rfl (Nat.le_of_ble_eq_true rfl) (rok (by decide)) dX9_judge_29 (fun H locs h => ?_)
          refine lv_if_eq (tgt := 46) hx hb dX9_judge_32 rfl (fun c12 => ?_) (fun c12 => ?_)
          · replace hf := ifp c12 hf
            exact hK2 _ _ _ _ (B46 _ ih v2 g_this_laid g_this_pile g_this_s hf) _ _ _ h (lv_sub hl [0, 2] rfl)
          · replace hf := ifn c12 hf
            refine lv_aload_n hx hb dX9_judge_35 rfl (lv_at hl 0 rfl) ?_
            replace hf := bd1_inv hf
            obtain ⟨r30, hc31, hf⟩ := hf
            refine r_ciV0 C h (c_X9_isOver hc31) mv_X9_232 rfl 0 rfl [0, 4] rfl rfl hl.1 rfl (Nat.le_of_ble_eq_true rfl) (rok (by decide)) dX9_judge_36 (fun H locs h => ?_)
            refine lv_if_ne (tgt := 46) hx hb dX9_judge_39 rfl (fun c32 => ?_) (fun c32 => ?_)
            · replace hf := ifn c32 hf
              exact hK2 _ _ _ _ (B46 _ ih v2 g_this_laid g_this_pile g_this_s hf) _ _ _ h (lv_sub hl [0, 2] rfl)
            · replace hf := ifp c32 hf
              refine lv_iconst (v := (1 : Int32)) hx hb dX9_judge_42 rfl ?_
              refine lv_goto (tgt := 47) hx hb dX9_judge_43 rfl ?_
              exact hK2 _ _ _ _ (B47 _ ih v2 (1 : Int32) g_this_laid g_this_pile g_this_s hf) _ _ _ h (lv_sub hl [0, 2] rfl)
  refine lv_aload_n hx hb dX9_judge_0 rfl (lv_at hl 0 rfl) ?_
  replace hf := bd1_inv hf
  obtain ⟨g1, hc2, hf⟩ := hf
  refine r_cvV (ws' := [(h_this, ob 9 [.ref h_this_s, .ref h_this_kept, .ref h_this_laid, .int x_this_isKept, .ref h_this_pile, .ref h_this_tape, .int x_this_taped, .ref h_this_letters, .int x_this_at, .int x_this_begun, .int x_this_token, .int x_this_value, .int x_this_opened, .int x_this_steps, .ref h_this_code0, .ref h_this_read, .ref h_this_saved, .ref h_this_plan, .ref h_this_bestPlan, .int x_this_most, .int x_this_many, .int x_this_few, .int x_this_everHome, .ref h_this_offThen, .ref h_this_paidThen, .int x_this_firstFit, .ref h_this_rows, .int x_this_rowMany, .ref h_this_sorts, .ref h_this_sizes, .ref h_this_number, .ref h_this_holds, .ref h_this_heldOne, .ref h_this_trace, .int x_this_traced, .int x_this_own, .int x_this_isParted]), (h_this_laid, ia G 65 g1), (h_this_pile, ia G 200 f_this_pile), (h_this_rows, ia G 12 f_this_rows), (h_this_s, ia G 313 f_this_s)]) C h (c_X9_layDown hc2) mv_X9_241 rfl 0 rfl [0, 1, 4] rfl rfl [1] [(h_this_laid, ia G 65 g1)] rfl rfl (by decide +kernel) rfl hl.1 rfl (Nat.le_of_ble_eq_true rfl) (rok (by decide)) dX9_judge_1 (fun H locs h => ?_)
  refine lv_iconst (v := (0 : Int32)) hx hb dX9_judge_4 rfl ?_
  refine lv_istore_n (lv' := [(1, .int (0 : Int32)), (0, .ref h_this)]) hx hb dX9_judge_5 rfl hl (by decide) rfl (fun ls hl => ?_)
  refine lv_iconst (v := (0 : Int32)) hx hb dX9_judge_6 rfl ?_
  refine lv_istore_n (lv' := [(2, .int (0 : Int32)), (1, .int (0 : Int32)), (0, .ref h_this)]) hx hb dX9_judge_7 rfl hl (by decide) rfl (fun ls hl => ?_)
  exact hK2 _ _ _ _ (L8 1000 (0 : Int32) (0 : Int32) g1 f_this_pile f_this_s hf) _ _ _ h (lv_sub hl [2, 1, 0] rfl)
