set_option maxRecDepth 100000 in
set_option maxHeartbeats 4000000 in
theorem c_X9_ways {l : Launch} {G : Gt} {h_this h_this_s h_this_kept h_this_laid h_this_pile h_this_tape h_this_letters h_this_code0 h_this_read h_this_saved h_this_plan h_this_bestPlan h_this_offThen h_this_paidThen h_this_rows h_this_sorts h_this_sizes h_this_number h_this_holds h_this_heldOne h_this_trace : Nat} {p0 : Int32} {x_this_isKept : Int32} {x_this_taped : Int32} {x_this_at : Int32} {x_this_begun : Int32} {x_this_token : Int32} {x_this_value : Int32} {x_this_opened : Int32} {x_this_steps : Int32} {x_this_most : Int32} {x_this_many : Int32} {x_this_few : Int32} {x_this_everHome : Int32} {x_this_firstFit : Int32} {x_this_rowMany : Int32} {x_this_traced : Int32} {x_this_own : Int32} {x_this_isParted : Int32} {f_this_bestPlan : Nat → Int32} {f_this_pile : Nat → Int32} {f_this_plan : Nat → Int32} {f_this_s : Nat → Int32} {f_this_saved : Nat → Int32} {r : Int32} {m_this_most : Int32} {m_this_many : Int32} {m_this_few : Int32} {m_this_everHome : Int32} {m_this_bestPlan : Nat → Int32} {m_this_pile : Nat → Int32} {m_this_plan : Nat → Int32} {m_this_s : Nat → Int32} {m_this_saved : Nat → Int32} (hf : f_X9_ways p0 x_this_most x_this_many x_this_few x_this_everHome f_this_bestPlan f_this_pile f_this_plan f_this_s f_this_saved = some (r, m_this_most, m_this_many, m_this_few, m_this_everHome, m_this_bestPlan, m_this_pile, m_this_plan, m_this_s, m_this_saved)) : mFi l G yX9_ways cX9_ways 2 .int 44 [.ref h_this, .int p0] [(h_this, ob 9 [.ref h_this_s, .ref h_this_kept, .ref h_this_laid, .int x_this_isKept, .ref h_this_pile, .ref h_this_tape, .int x_this_taped, .ref h_this_letters, .int x_this_at, .int x_this_begun, .int x_this_token, .int x_this_value, .int x_this_opened, .int x_this_steps, .ref h_this_code0, .ref h_this_read, .ref h_this_saved, .ref h_this_plan, .ref h_this_bestPlan, .int x_this_most, .int x_this_many, .int x_this_few, .int x_this_everHome, .ref h_this_offThen, .ref h_this_paidThen, .int x_this_firstFit, .ref h_this_rows, .int x_this_rowMany, .ref h_this_sorts, .ref h_this_sizes, .ref h_this_number, .ref h_this_holds, .ref h_this_heldOne, .ref h_this_trace, .int x_this_traced, .int x_this_own, .int x_this_isParted]), (h_this_bestPlan, ia G 4 f_this_bestPlan), (h_this_pile, ia G 200 f_this_pile), (h_this_plan, ia G 4 f_this_plan), (h_this_s, ia G 313 f_this_s), (h_this_saved, ia G 325 f_this_saved)] r [(h_this, ob 9 [.ref h_this_s, .ref h_this_kept, .ref h_this_laid, .int x_this_isKept, .ref h_this_pile, .ref h_this_tape, .int x_this_taped, .ref h_this_letters, .int x_this_at, .int x_this_begun, .int x_this_token, .int x_this_value, .int x_this_opened, .int x_this_steps, .ref h_this_code0, .ref h_this_read, .ref h_this_saved, .ref h_this_plan, .ref h_this_bestPlan, .int m_this_most, .int m_this_many, .int m_this_few, .int m_this_everHome, .ref h_this_offThen, .ref h_this_paidThen, .int x_this_firstFit, .ref h_this_rows, .int x_this_rowMany, .ref h_this_sorts, .ref h_this_sizes, .ref h_this_number, .ref h_this_holds, .ref h_this_heldOne, .ref h_this_trace, .int x_this_traced, .int x_this_own, .int x_this_isParted]), (h_this_bestPlan, ia G 4 m_this_bestPlan), (h_this_pile, ia G 200 m_this_pile), (h_this_plan, ia G 4 m_this_plan), (h_this_s, ia G 313 m_this_s), (h_this_saved, ia G 325 m_this_saved)] := by
  refine mFi.of (by decide +kernel) (Nat.le_of_ble_eq_true rfl) ?_
  intro p e s m below meth c A C hr hlk h ls hl
  obtain ⟨hx, hb, hml, hown, hts⟩ := id C
  replace hl : lv_has ls 2 [(0, .ref h_this), (1, .int p0)] := hl
  unfold f_X9_ways at hf
  refine lv_iload_n hx hb dX9_ways_0 rfl (lv_at hl 1 rfl) ?_
  replace hf := bd1_inv hf
  obtain ⟨r1, hc2, hf⟩ := hf
  refine r_ciS0 C h (c_X9_isPlan hc2) ms_X9_291 rfl [] rfl rfl hl.1 rfl (Nat.le_of_ble_eq_true rfl) (rok (by decide)) dX9_ways_1 (fun H locs h => ?_)
  refine lv_if_ne (tgt := 9) hx hb dX9_ways_4 rfl (fun c3 => ?_) (fun c3 => ?_)
  · replace hf := ifn c3 hf
    refine lv_aload_n hx hb dX9_ways_9 rfl (lv_at hl 0 rfl) ?_
    refine lv_iload_n hx hb dX9_ways_10 rfl (lv_at hl 1 rfl) ?_
    refine lv_iconst (v := (0 : Int32)) hx hb dX9_ways_11 rfl ?_
    replace hf := bd9_inv hf
    obtain ⟨y4, y5, y6, y7, g8, g9, g10, g11, g12, hc13, hf⟩ := hf
    refine r_cvV (ws' := [(h_this, ob 9 [.ref h_this_s, .ref h_this_kept, .ref h_this_laid, .int x_this_isKept, .ref h_this_pile, .ref h_this_tape, .int x_this_taped, .ref h_this_letters, .int x_this_at, .int x_this_begun, .int x_this_token, .int x_this_value, .int x_this_opened, .int x_this_steps, .ref h_this_code0, .ref h_this_read, .ref h_this_saved, .ref h_this_plan, .ref h_this_bestPlan, .int y4, .int y5, .int y6, .int y7, .ref h_this_offThen, .ref h_this_paidThen, .int x_this_firstFit, .ref h_this_rows, .int x_this_rowMany, .ref h_this_sorts, .ref h_this_sizes, .ref h_this_number, .ref h_this_holds, .ref h_this_heldOne, .ref h_this_trace, .int x_this_traced, .int x_this_own, .int x_this_isParted]), (h_this_bestPlan, ia G 4 g8), (h_this_pile, ia G 200 g9), (h_this_plan, ia G 4 g10), (h_this_s, ia G 313 g11), (h_this_saved, ia G 325 g12)]) C h (c_X9_triesAll hc13) mv_X9_294 rfl 0 rfl [0, 1, 2, 3, 4, 5] rfl rfl [0, 1, 2, 3, 4, 5] [(h_this, ob 9 [.ref h_this_s, .ref h_this_kept, .ref h_this_laid, .int x_this_isKept, .ref h_this_pile, .ref h_this_tape, .int x_this_taped, .ref h_this_letters, .int x_this_at, .int x_this_begun, .int x_this_token, .int x_this_value, .int x_this_opened, .int x_this_steps, .ref h_this_code0, .ref h_this_read, .ref h_this_saved, .ref h_this_plan, .ref h_this_bestPlan, .int y4, .int y5, .int y6, .int y7, .ref h_this_offThen, .ref h_this_paidThen, .int x_this_firstFit, .ref h_this_rows, .int x_this_rowMany, .ref h_this_sorts, .ref h_this_sizes, .ref h_this_number, .ref h_this_holds, .ref h_this_heldOne, .ref h_this_trace, .int x_this_traced, .int x_this_own, .int x_this_isParted]), (h_this_bestPlan, ia G 4 g8), (h_this_pile, ia G 200 g9), (h_this_plan, ia G 4 g10), (h_this_s, ia G 313 g11), (h_this_saved, ia G 325 g12)] rfl rfl (by decide +kernel) rfl hl.1 rfl (Nat.le_of_ble_eq_true rfl) (rok (by decide)) dX9_ways_12 (fun H locs h => ?_)
    refine lv_aload_n hx hb dX9_ways_15 rfl (lv_at hl 0 rfl) ?_
    refine r_get C h fk_X9_265 0 rfl rfl dX9_ways_16 ?_
    obtain ⟨rfl, rfl, rfl, rfl, rfl, rfl, rfl, rfl, rfl, rfl⟩ := sm10 hf
    exact r_iret C h hr hlk rfl dX9_ways_19
  · replace hf := ifp c3 hf
    refine lv_iconst (v := (-1 : Int32)) hx hb dX9_ways_7 rfl ?_
    obtain ⟨rfl, rfl, rfl, rfl, rfl, rfl, rfl, rfl, rfl, rfl⟩ := sm10 hf
    exact r_iret C h hr hlk rfl dX9_ways_8
set_option maxRecDepth 100000 in
set_option maxHeartbeats 4000000 in
theorem c_X9_isSet {l : Launch} {G : Gt} {h_this h_this_s h_this_kept h_this_laid h_this_pile h_this_tape h_this_letters h_this_code0 h_this_read h_this_saved h_this_plan h_this_bestPlan h_this_offThen h_this_paidThen h_this_rows h_this_sorts h_this_sizes h_this_number h_this_holds h_this_heldOne h_this_trace : Nat} {p0 : Int32} {x_this_isKept : Int32} {x_this_taped : Int32} {x_this_at : Int32} {x_this_begun : Int32} {x_this_token : Int32} {x_this_value : Int32} {x_this_opened : Int32} {x_this_steps : Int32} {x_this_most : Int32} {x_this_many : Int32} {x_this_few : Int32} {x_this_everHome : Int32} {x_this_firstFit : Int32} {x_this_rowMany : Int32} {x_this_traced : Int32} {x_this_own : Int32} {x_this_isParted : Int32} {f_this_s : Nat → Int32} {r : Int32} (hf : f_X9_isSet p0 f_this_s = some r) : mFi l G yX9_isSet cX9_isSet 2 .boolean 1 [.ref h_this, .int p0] [(h_this, ob 9 [.ref h_this_s, .ref h_this_kept, .ref h_this_laid, .int x_this_isKept, .ref h_this_pile, .ref h_this_tape, .int x_this_taped, .ref h_this_letters, .int x_this_at, .int x_this_begun, .int x_this_token, .int x_this_value, .int x_this_opened, .int x_this_steps, .ref h_this_code0, .ref h_this_read, .ref h_this_saved, .ref h_this_plan, .ref h_this_bestPlan, .int x_this_most, .int x_this_many, .int x_this_few, .int x_this_everHome, .ref h_this_offThen, .ref h_this_paidThen, .int x_this_firstFit, .ref h_this_rows, .int x_this_rowMany, .ref h_this_sorts, .ref h_this_sizes, .ref h_this_number, .ref h_this_holds, .ref h_this_heldOne, .ref h_this_trace, .int x_this_traced, .int x_this_own, .int x_this_isParted]), (h_this_s, ia G 313 f_this_s)] r [(h_this, ob 9 [.ref h_this_s, .ref h_this_kept, .ref h_this_laid, .int x_this_isKept, .ref h_this_pile, .ref h_this_tape, .int x_this_taped, .ref h_this_letters, .int x_this_at, .int x_this_begun, .int x_this_token, .int x_this_value, .int x_this_opened, .int x_this_steps, .ref h_this_code0, .ref h_this_read, .ref h_this_saved, .ref h_this_plan, .ref h_this_bestPlan, .int x_this_most, .int x_this_many, .int x_this_few, .int x_this_everHome, .ref h_this_offThen, .ref h_this_paidThen, .int x_this_firstFit, .ref h_this_rows, .int x_this_rowMany, .ref h_this_sorts, .ref h_this_sizes, .ref h_this_number, .ref h_this_holds, .ref h_this_heldOne, .ref h_this_trace, .int x_this_traced, .int x_this_own, .int x_this_isParted]), (h_this_s, ia G 313 f_this_s)] := by
  refine mFi.of (by decide +kernel) (Nat.le_of_ble_eq_true rfl) ?_
  intro p e s m below meth c A C hr hlk h ls hl
  obtain ⟨hx, hb, hml, hown, hts⟩ := id C
  replace hl : lv_has ls 2 [(0, .ref h_this), (1, .int p0)] := hl
  unfold f_X9_isSet at hf
  refine lv_iload_n hx hb dX9_isSet_0 rfl (lv_at hl 1 rfl) ?_
  refine lv_iconst (v := (0 : Int32)) hx hb dX9_isSet_1 rfl ?_
  refine lv_iconst (v := (1 : Int32)) hx hb dX9_isSet_2 rfl ?_
  refine lv_aload_n hx hb dX9_isSet_3 rfl (lv_at hl 0 rfl) ?_
  refine r_get C h fk_X9_9 0 rfl rfl dX9_isSet_4 ?_
  refine lv_iconst (v := (4 : Int32)) hx hb dX9_isSet_7 rfl ?_
  refine r_ialdL C h 1 rfl (vlit rfl) 4 rfl dX9_isSet_8 ?_
  refine lv_ishl hx hb dX9_isSet_9 ?_
  refine lv_iconst (v := (1 : Int32)) hx hb dX9_isSet_10 rfl ?_
  refine lv_isub hx hb dX9_isSet_11 ?_
  replace hf := bd1_inv hf
  obtain ⟨r1, hc2, hf⟩ := hf
  refine r_ciS0 C h (c_X9_in1 hc2) ms_X9_71 rfl [] rfl rfl hl.1 rfl (Nat.le_of_ble_eq_true rfl) (rok (by decide)) dX9_isSet_12 (fun H locs h => ?_)
  replace hf := chkB_inv hf
  obtain ⟨hb3, hf⟩ := hf
  cases hf
  exact r_iret C h hr hlk hb3 dX9_isSet_15
set_option maxRecDepth 100000 in
set_option maxHeartbeats 4000000 in
theorem c_X9_log {l : Launch} {G : Gt} {h_this h_this_s h_this_kept h_this_laid h_this_pile h_this_tape h_this_letters h_this_code0 h_this_read h_this_saved h_this_plan h_this_bestPlan h_this_offThen h_this_paidThen h_this_rows h_this_sorts h_this_sizes h_this_number h_this_holds h_this_heldOne h_this_trace : Nat} {p0 : Int32} {p1 : Int32} {x_this_isKept : Int32} {x_this_taped : Int32} {x_this_at : Int32} {x_this_begun : Int32} {x_this_token : Int32} {x_this_value : Int32} {x_this_opened : Int32} {x_this_steps : Int32} {x_this_most : Int32} {x_this_many : Int32} {x_this_few : Int32} {x_this_everHome : Int32} {x_this_firstFit : Int32} {x_this_rowMany : Int32} {x_this_traced : Int32} {x_this_own : Int32} {x_this_isParted : Int32} {f_this_bestPlan : Nat → Int32} {f_this_pile : Nat → Int32} {f_this_plan : Nat → Int32} {f_this_s : Nat → Int32} {f_this_saved : Nat → Int32} {r : Int32} {m_this_most : Int32} {m_this_many : Int32} {m_this_few : Int32} {m_this_everHome : Int32} {m_this_bestPlan : Nat → Int32} {m_this_pile : Nat → Int32} {m_this_plan : Nat → Int32} {m_this_s : Nat → Int32} {m_this_saved : Nat → Int32} (hf : f_X9_log p0 p1 x_this_most x_this_many x_this_few x_this_everHome f_this_bestPlan f_this_pile f_this_plan f_this_s f_this_saved = some (r, m_this_most, m_this_many, m_this_few, m_this_everHome, m_this_bestPlan, m_this_pile, m_this_plan, m_this_s, m_this_saved)) : mFi l G yX9_log cX9_log 3 .int 44 [.ref h_this, .int p0, .int p1] [(h_this, ob 9 [.ref h_this_s, .ref h_this_kept, .ref h_this_laid, .int x_this_isKept, .ref h_this_pile, .ref h_this_tape, .int x_this_taped, .ref h_this_letters, .int x_this_at, .int x_this_begun, .int x_this_token, .int x_this_value, .int x_this_opened, .int x_this_steps, .ref h_this_code0, .ref h_this_read, .ref h_this_saved, .ref h_this_plan, .ref h_this_bestPlan, .int x_this_most, .int x_this_many, .int x_this_few, .int x_this_everHome, .ref h_this_offThen, .ref h_this_paidThen, .int x_this_firstFit, .ref h_this_rows, .int x_this_rowMany, .ref h_this_sorts, .ref h_this_sizes, .ref h_this_number, .ref h_this_holds, .ref h_this_heldOne, .ref h_this_trace, .int x_this_traced, .int x_this_own, .int x_this_isParted]), (h_this_bestPlan, ia G 4 f_this_bestPlan), (h_this_pile, ia G 200 f_this_pile), (h_this_plan, ia G 4 f_this_plan), (h_this_s, ia G 313 f_this_s), (h_this_saved, ia G 325 f_this_saved)] r [(h_this, ob 9 [.ref h_this_s, .ref h_this_kept, .ref h_this_laid, .int x_this_isKept, .ref h_this_pile, .ref h_this_tape, .int x_this_taped, .ref h_this_letters, .int x_this_at, .int x_this_begun, .int x_this_token, .int x_this_value, .int x_this_opened, .int x_this_steps, .ref h_this_code0, .ref h_this_read, .ref h_this_saved, .ref h_this_plan, .ref h_this_bestPlan, .int m_this_most, .int m_this_many, .int m_this_few, .int m_this_everHome, .ref h_this_offThen, .ref h_this_paidThen, .int x_this_firstFit, .ref h_this_rows, .int x_this_rowMany, .ref h_this_sorts, .ref h_this_sizes, .ref h_this_number, .ref h_this_holds, .ref h_this_heldOne, .ref h_this_trace, .int x_this_traced, .int x_this_own, .int x_this_isParted]), (h_this_bestPlan, ia G 4 m_this_bestPlan), (h_this_pile, ia G 200 m_this_pile), (h_this_plan, ia G 4 m_this_plan), (h_this_s, ia G 313 m_this_s), (h_this_saved, ia G 325 m_this_saved)] := by
  refine mFi.of (by decide +kernel) (Nat.le_of_ble_eq_true rfl) ?_
  intro p e s m below meth c A C hr hlk h ls hl
  obtain ⟨hx, hb, hml, hown, hts⟩ := id C
  replace hl : lv_has ls 3 [(0, .ref h_this), (1, .int p0), (2, .int p1)] := hl
  unfold f_X9_log at hf
  refine lv_iload_n hx hb dX9_log_0 rfl (lv_at hl 1 rfl) ?_
  replace hf := bd1_inv hf
  obtain ⟨r1, hc2, hf⟩ := hf
  refine r_ciS0 C h (c_X9_isPlan hc2) ms_X9_291 rfl [] rfl rfl hl.1 rfl (Nat.le_of_ble_eq_true rfl) (rok (by decide)) dX9_log_1 (fun H locs h => ?_)
  refine lv_if_eq (tgt := 15) hx hb dX9_log_4 rfl (fun c3 => ?_) (fun c3 => ?_)
  · replace hf := ifp c3 hf
    refine lv_iconst (v := (-1 : Int32)) hx hb dX9_log_15 rfl ?_
    obtain ⟨rfl, rfl, rfl, rfl, rfl, rfl, rfl, rfl, rfl, rfl⟩ := sm10 hf
    exact r_iret C h hr hlk rfl dX9_log_16
  · replace hf := ifn c3 hf
    refine lv_aload_n hx hb dX9_log_7 rfl (lv_at hl 0 rfl) ?_
    refine lv_iload_n hx hb dX9_log_8 rfl (lv_at hl 2 rfl) ?_
    replace hf := bd1_inv hf
    obtain ⟨r4, hc5, hf⟩ := hf
    refine r_ciV0 C h (c_X9_isSet hc5) mv_X9_298 rfl 0 rfl [0, 4] rfl rfl hl.1 rfl (Nat.le_of_ble_eq_true rfl) (rok (by decide)) dX9_log_9 (fun H locs h => ?_)
    refine lv_if_ne (tgt := 17) hx hb dX9_log_12 rfl (fun c6 => ?_) (fun c6 => ?_)
    · replace hf := ifn c6 hf
      refine lv_aload_n hx hb dX9_log_17 rfl (lv_at hl 0 rfl) ?_
      refine lv_iload_n hx hb dX9_log_18 rfl (lv_at hl 1 rfl) ?_
      refine lv_iload_n hx hb dX9_log_19 rfl (lv_at hl 2 rfl) ?_
      replace hf := bd9_inv hf
      obtain ⟨y7, y8, y9, y10, g11, g12, g13, g14, g15, hc16, hf⟩ := hf
      refine r_cvV (ws' := [(h_this, ob 9 [.ref h_this_s, .ref h_this_kept, .ref h_this_laid, .int x_this_isKept, .ref h_this_pile, .ref h_this_tape, .int x_this_taped, .ref h_this_letters, .int x_this_at, .int x_this_begun, .int x_this_token, .int x_this_value, .int x_this_opened, .int x_this_steps, .ref h_this_code0, .ref h_this_read, .ref h_this_saved, .ref h_this_plan, .ref h_this_bestPlan, .int y7, .int y8, .int y9, .int y10, .ref h_this_offThen, .ref h_this_paidThen, .int x_this_firstFit, .ref h_this_rows, .int x_this_rowMany, .ref h_this_sorts, .ref h_this_sizes, .ref h_this_number, .ref h_this_holds, .ref h_this_heldOne, .ref h_this_trace, .int x_this_traced, .int x_this_own, .int x_this_isParted]), (h_this_bestPlan, ia G 4 g11), (h_this_pile, ia G 200 g12), (h_this_plan, ia G 4 g13), (h_this_s, ia G 313 g14), (h_this_saved, ia G 325 g15)]) C h (c_X9_triesAll hc16) mv_X9_294 rfl 0 rfl [0, 1, 2, 3, 4, 5] rfl rfl [0, 1, 2, 3, 4, 5] [(h_this, ob 9 [.ref h_this_s, .ref h_this_kept, .ref h_this_laid, .int x_this_isKept, .ref h_this_pile, .ref h_this_tape, .int x_this_taped, .ref h_this_letters, .int x_this_at, .int x_this_begun, .int x_this_token, .int x_this_value, .int x_this_opened, .int x_this_steps, .ref h_this_code0, .ref h_this_read, .ref h_this_saved, .ref h_this_plan, .ref h_this_bestPlan, .int y7, .int y8, .int y9, .int y10, .ref h_this_offThen, .ref h_this_paidThen, .int x_this_firstFit, .ref h_this_rows, .int x_this_rowMany, .ref h_this_sorts, .ref h_this_sizes, .ref h_this_number, .ref h_this_holds, .ref h_this_heldOne, .ref h_this_trace, .int x_this_traced, .int x_this_own, .int x_this_isParted]), (h_this_bestPlan, ia G 4 g11), (h_this_pile, ia G 200 g12), (h_this_plan, ia G 4 g13), (h_this_s, ia G 313 g14), (h_this_saved, ia G 325 g15)] rfl rfl (by decide +kernel) rfl hl.1 rfl (Nat.le_of_ble_eq_true rfl) (rok (by decide)) dX9_log_20 (fun H locs h => ?_)
      refine lv_aload_n hx hb dX9_log_23 rfl (lv_at hl 0 rfl) ?_
      refine r_get C h fk_X9_268 0 rfl rfl dX9_log_24 ?_
      refine lv_iconst (v := (4 : Int32)) hx hb dX9_log_27 rfl ?_
      refine lv_icmp_le (tgt := 36) hx hb dX9_log_28 rfl (fun c17 => ?_) (fun c17 => ?_)
      · replace hf := ifp c17 hf
        refine lv_aload_n hx hb dX9_log_36 rfl (lv_at hl 0 rfl) ?_
        refine r_get C h fk_X9_268 0 rfl rfl dX9_log_37 ?_
        obtain ⟨rfl, rfl, rfl, rfl, rfl, rfl, rfl, rfl, rfl, rfl⟩ := sm10 hf
        exact r_iret C h hr hlk rfl dX9_log_40
      · replace hf := ifn c17 hf
        refine lv_bipush (v := (-3 : Int32)) hx hb dX9_log_31 rfl ?_
        refine lv_goto (tgt := 40) hx hb dX9_log_33 rfl ?_
        obtain ⟨rfl, rfl, rfl, rfl, rfl, rfl, rfl, rfl, rfl, rfl⟩ := sm10 hf
        exact r_iret C h hr hlk rfl dX9_log_40
    · replace hf := ifp c6 hf
      refine lv_iconst (v := (-1 : Int32)) hx hb dX9_log_15 rfl ?_
      obtain ⟨rfl, rfl, rfl, rfl, rfl, rfl, rfl, rfl, rfl, rfl⟩ := sm10 hf
      exact r_iret C h hr hlk rfl dX9_log_16
set_option maxRecDepth 100000 in
set_option maxHeartbeats 4000000 in
theorem c_X9_bars {l : Launch} {G : Gt} {h_this h_this_s h_this_kept h_this_laid h_this_pile h_this_tape h_this_letters h_this_code0 h_this_read h_this_saved h_this_plan h_this_bestPlan h_this_offThen h_this_paidThen h_this_rows h_this_sorts h_this_sizes h_this_number h_this_holds h_this_heldOne h_this_trace : Nat} {p0 : Int32} {p1 : Int32} {x_this_isKept : Int32} {x_this_taped : Int32} {x_this_at : Int32} {x_this_begun : Int32} {x_this_token : Int32} {x_this_value : Int32} {x_this_opened : Int32} {x_this_steps : Int32} {x_this_most : Int32} {x_this_many : Int32} {x_this_few : Int32} {x_this_everHome : Int32} {x_this_firstFit : Int32} {x_this_rowMany : Int32} {x_this_traced : Int32} {x_this_own : Int32} {x_this_isParted : Int32} {f_this_bestPlan : Nat → Int32} {f_this_pile : Nat → Int32} {f_this_plan : Nat → Int32} {f_this_s : Nat → Int32} {f_this_saved : Nat → Int32} {r : Int32} {m_this_most : Int32} {m_this_many : Int32} {m_this_few : Int32} {m_this_everHome : Int32} {m_this_bestPlan : Nat → Int32} {m_this_pile : Nat → Int32} {m_this_plan : Nat → Int32} {m_this_s : Nat → Int32} {m_this_saved : Nat → Int32} (hf : f_X9_bars p0 p1 x_this_most x_this_many x_this_few x_this_everHome f_this_bestPlan f_this_pile f_this_plan f_this_s f_this_saved = some (r, m_this_most, m_this_many, m_this_few, m_this_everHome, m_this_bestPlan, m_this_pile, m_this_plan, m_this_s, m_this_saved)) : mFi l G yX9_bars cX9_bars 5 .int 44 [.ref h_this, .int p0, .int p1] [(h_this, ob 9 [.ref h_this_s, .ref h_this_kept, .ref h_this_laid, .int x_this_isKept, .ref h_this_pile, .ref h_this_tape, .int x_this_taped, .ref h_this_letters, .int x_this_at, .int x_this_begun, .int x_this_token, .int x_this_value, .int x_this_opened, .int x_this_steps, .ref h_this_code0, .ref h_this_read, .ref h_this_saved, .ref h_this_plan, .ref h_this_bestPlan, .int x_this_most, .int x_this_many, .int x_this_few, .int x_this_everHome, .ref h_this_offThen, .ref h_this_paidThen, .int x_this_firstFit, .ref h_this_rows, .int x_this_rowMany, .ref h_this_sorts, .ref h_this_sizes, .ref h_this_number, .ref h_this_holds, .ref h_this_heldOne, .ref h_this_trace, .int x_this_traced, .int x_this_own, .int x_this_isParted]), (h_this_bestPlan, ia G 4 f_this_bestPlan), (h_this_pile, ia G 200 f_this_pile), (h_this_plan, ia G 4 f_this_plan), (h_this_s, ia G 313 f_this_s), (h_this_saved, ia G 325 f_this_saved)] r [(h_this, ob 9 [.ref h_this_s, .ref h_this_kept, .ref h_this_laid, .int x_this_isKept, .ref h_this_pile, .ref h_this_tape, .int x_this_taped, .ref h_this_letters, .int x_this_at, .int x_this_begun, .int x_this_token, .int x_this_value, .int x_this_opened, .int x_this_steps, .ref h_this_code0, .ref h_this_read, .ref h_this_saved, .ref h_this_plan, .ref h_this_bestPlan, .int m_this_most, .int m_this_many, .int m_this_few, .int m_this_everHome, .ref h_this_offThen, .ref h_this_paidThen, .int x_this_firstFit, .ref h_this_rows, .int x_this_rowMany, .ref h_this_sorts, .ref h_this_sizes, .ref h_this_number, .ref h_this_holds, .ref h_this_heldOne, .ref h_this_trace, .int x_this_traced, .int x_this_own, .int x_this_isParted]), (h_this_bestPlan, ia G 4 m_this_bestPlan), (h_this_pile, ia G 200 m_this_pile), (h_this_plan, ia G 4 m_this_plan), (h_this_s, ia G 313 m_this_s), (h_this_saved, ia G 325 m_this_saved)] := by
  refine mFi.of (by decide +kernel) (Nat.le_of_ble_eq_true rfl) ?_
  intro p e s m below meth c A C hr hlk h ls hl
  obtain ⟨hx, hb, hml, hown, hts⟩ := id C
  replace hl : lv_has ls 5 [(0, .ref h_this), (1, .int p0), (2, .int p1)] := hl
  unfold f_X9_bars at hf
  refine with_K G A 5 (fun K hK1 hK2 => ?_)
  have B61 : ∀ (v4 : Int32) (y_this_most : Int32) (y_this_many : Int32) (y_this_few : Int32) (y_this_everHome : Int32) (g_this_bestPlan : Nat → Int32) (g_this_pile : Nat → Int32) (g_this_plan : Nat → Int32) (g_this_s : Nat → Int32) (g_this_saved : Nat → Int32), f_X9_bars_b61 v4 y_this_most y_this_many y_this_few y_this_everHome g_this_bestPlan g_this_pile g_this_plan g_this_s g_this_saved = some (r, m_this_most, m_this_many, m_this_few, m_this_everHome, m_this_bestPlan, m_this_pile, m_this_plan, m_this_s, m_this_saved) → K 61 ([] : List Value) [(h_this, ob 9 [.ref h_this_s, .ref h_this_kept, .ref h_this_laid, .int x_this_isKept, .ref h_this_pile, .ref h_this_tape, .int x_this_taped, .ref h_this_letters, .int x_this_at, .int x_this_begun, .int x_this_token, .int x_this_value, .int x_this_opened, .int x_this_steps, .ref h_this_code0, .ref h_this_read, .ref h_this_saved, .ref h_this_plan, .ref h_this_bestPlan, .int y_this_most, .int y_this_many, .int y_this_few, .int y_this_everHome, .ref h_this_offThen, .ref h_this_paidThen, .int x_this_firstFit, .ref h_this_rows, .int x_this_rowMany, .ref h_this_sorts, .ref h_this_sizes, .ref h_this_number, .ref h_this_holds, .ref h_this_heldOne, .ref h_this_trace, .int x_this_traced, .int x_this_own, .int x_this_isParted]), (h_this_bestPlan, ia G 4 g_this_bestPlan), (h_this_pile, ia G 200 g_this_pile), (h_this_plan, ia G 4 g_this_plan), (h_this_s, ia G 313 g_this_s), (h_this_saved, ia G 325 g_this_saved)] [(0, .ref h_this), (4, .int v4)] := by
    intro v4 y_this_most y_this_many y_this_few y_this_everHome g_this_bestPlan g_this_pile g_this_plan g_this_s g_this_saved hf
    unfold f_X9_bars_b61 at hf
    refine hK1 _ _ _ _ (fun H locs ls h hl => ?_)
    refine lv_iload hx hb dX9_bars_61 (lv_at hl 1 rfl) ?_
    refine lv_aload_n hx hb dX9_bars_63 rfl (lv_at hl 0 rfl) ?_
    refine r_get C h fk_X9_9 0 rfl rfl dX9_bars_64 ?_
    refine lv_iconst (v := (4 : Int32)) hx hb dX9_bars_67 rfl ?_
    refine r_ialdL C h 4 rfl (vlit rfl) 4 rfl dX9_bars_68 ?_
    refine lv_icmp_ge (tgt := 77) hx hb dX9_bars_69 rfl (fun c19 => ?_) (fun c19 => ?_)
    · replace hf := ifp c19 hf
      refine lv_bipush (v := (-3 : Int32)) hx hb dX9_bars_77 rfl ?_
      obtain ⟨rfl, rfl, rfl, rfl, rfl, rfl, rfl, rfl, rfl, rfl⟩ := sm10 hf
      exact r_iret C h hr hlk rfl dX9_bars_79
    · replace hf := ifn c19 hf
      refine lv_iload hx hb dX9_bars_72 (lv_at hl 1 rfl) ?_
      refine lv_goto (tgt := 79) hx hb dX9_bars_74 rfl ?_
      obtain ⟨rfl, rfl, rfl, rfl, rfl, rfl, rfl, rfl, rfl, rfl⟩ := sm10 hf
      exact r_iret C h hr hlk rfl dX9_bars_79
  have L35 : ∀ (n : Nat) (v3 : Int32) (v4 : Int32) (y_this_most : Int32) (y_this_many : Int32) (y_this_few : Int32) (y_this_everHome : Int32) (g_this_bestPlan : Nat → Int32) (g_this_pile : Nat → Int32) (g_this_plan : Nat → Int32) (g_this_s : Nat → Int32) (g_this_saved : Nat → Int32), f_X9_bars_L35 n v3 v4 y_this_most y_this_many y_this_few y_this_everHome g_this_bestPlan g_this_pile g_this_plan g_this_s g_this_saved = some (r, m_this_most, m_this_many, m_this_few, m_this_everHome, m_this_bestPlan, m_this_pile, m_this_plan, m_this_s, m_this_saved) → K 35 ([] : List Value) [(h_this, ob 9 [.ref h_this_s, .ref h_this_kept, .ref h_this_laid, .int x_this_isKept, .ref h_this_pile, .ref h_this_tape, .int x_this_taped, .ref h_this_letters, .int x_this_at, .int x_this_begun, .int x_this_token, .int x_this_value, .int x_this_opened, .int x_this_steps, .ref h_this_code0, .ref h_this_read, .ref h_this_saved, .ref h_this_plan, .ref h_this_bestPlan, .int y_this_most, .int y_this_many, .int y_this_few, .int y_this_everHome, .ref h_this_offThen, .ref h_this_paidThen, .int x_this_firstFit, .ref h_this_rows, .int x_this_rowMany, .ref h_this_sorts, .ref h_this_sizes, .ref h_this_number, .ref h_this_holds, .ref h_this_heldOne, .ref h_this_trace, .int x_this_traced, .int x_this_own, .int x_this_isParted]), (h_this_bestPlan, ia G 4 g_this_bestPlan), (h_this_pile, ia G 200 g_this_pile), (h_this_plan, ia G 4 g_this_plan), (h_this_s, ia G 313 g_this_s), (h_this_saved, ia G 325 g_this_saved)] [(0, .ref h_this), (3, .int v3), (4, .int v4)] := by
    intro n
    induction n with
    | zero =>
      intro v3 v4 y_this_most y_this_many y_this_few y_this_everHome g_this_bestPlan g_this_pile g_this_plan g_this_s g_this_saved hf
      replace hf : (none : Option _) = some _ := hf
      cases hf
    | succ n ih =>
      intro v3 v4 y_this_most y_this_many y_this_few y_this_everHome g_this_bestPlan g_this_pile g_this_plan g_this_s g_this_saved hf
      rw [f_X9_bars_L35] at hf
      refine hK1 _ _ _ _ (fun H locs ls h hl => ?_)
      refine lv_iload hx hb dX9_bars_35 (lv_at hl 2 rfl) ?_
      refine lv_aload_n hx hb dX9_bars_37 rfl (lv_at hl 0 rfl) ?_
      refine r_get C h fk_X9_9 0 rfl rfl dX9_bars_38 ?_
      refine lv_iconst (v := (4 : Int32)) hx hb dX9_bars_41 rfl ?_
      refine r_ialdL C h 4 rfl (vlit rfl) 4 rfl dX9_bars_42 ?_
      refine lv_icmp_ge (tgt := 61) hx hb dX9_bars_43 rfl (fun c18 => ?_) (fun c18 => ?_)
      · replace hf := ifp c18 hf
        exact hK2 _ _ _ _ (B61 v4 y_this_most y_this_many y_this_few y_this_everHome g_this_bestPlan g_this_pile g_this_plan g_this_s g_this_saved hf) _ _ _ h (lv_sub hl [0, 2] rfl)
      · replace hf := ifn c18 hf
        refine lv_iload_n hx hb dX9_bars_46 rfl (lv_at hl 1 rfl) ?_
        refine lv_iload hx hb dX9_bars_47 (lv_at hl 2 rfl) ?_
        refine lv_ishr hx hb dX9_bars_49 ?_
        refine lv_iconst (v := (1 : Int32)) hx hb dX9_bars_50 rfl ?_
        refine lv_iand hx hb dX9_bars_51 ?_
        refine lv_if_ne (tgt := 61) hx hb dX9_bars_52 rfl (fun c20 => ?_) (fun c20 => ?_)
        · replace hf := ifn c20 hf
          exact hK2 _ _ _ _ (B61 v4 y_this_most y_this_many y_this_few y_this_everHome g_this_bestPlan g_this_pile g_this_plan g_this_s g_this_saved hf) _ _ _ h (lv_sub hl [0, 2] rfl)
        · replace hf := ifp c20 hf
          obtain ⟨t21, et21⟩ : ∃ y : Int32, y = v4 + (1 : Int32) := ⟨_, rfl⟩
          replace hf := lt1_inv et21 hf
          refine lv_iinc (v := t21) (lv' := [(4, .int t21), (0, .ref h_this), (3, .int v3)]) hx hb dX9_bars_55 hl (k := 2) rfl (by rw [et21]; rfl) (by decide) rfl (fun ls hl => ?_)
          refine lv_goto (tgt := 35) hx hb dX9_bars_58 rfl ?_
          exact hK2 _ _ _ _ (ih v3 t21 y_this_most y_this_many y_this_few y_this_everHome g_this_bestPlan g_this_pile g_this_plan g_this_s g_this_saved hf) _ _ _ h (lv_sub hl [1, 2, 0] rfl)
  refine lv_iload_n hx hb dX9_bars_0 rfl (lv_at hl 1 rfl) ?_
  replace hf := bd1_inv hf
  obtain ⟨r1, hc2, hf⟩ := hf
  refine r_ciS0 C h (c_X9_isPlan hc2) ms_X9_291 rfl [] rfl rfl hl.1 rfl (Nat.le_of_ble_eq_true rfl) (rok (by decide)) dX9_bars_1 (fun H locs h => ?_)
  refine lv_if_eq (tgt := 15) hx hb dX9_bars_4 rfl (fun c3 => ?_) (fun c3 => ?_)
  · replace hf := ifp c3 hf
    refine lv_iconst (v := (-1 : Int32)) hx hb dX9_bars_15 rfl ?_
    obtain ⟨rfl, rfl, rfl, rfl, rfl, rfl, rfl, rfl, rfl, rfl⟩ := sm10 hf
    exact r_iret C h hr hlk rfl dX9_bars_16
  · replace hf := ifn c3 hf
    refine lv_aload_n hx hb dX9_bars_7 rfl (lv_at hl 0 rfl) ?_
    refine lv_iload_n hx hb dX9_bars_8 rfl (lv_at hl 2 rfl) ?_
    replace hf := bd1_inv hf
    obtain ⟨r4, hc5, hf⟩ := hf
    refine r_ciV0 C h (c_X9_isSet hc5) mv_X9_298 rfl 0 rfl [0, 4] rfl rfl hl.1 rfl (Nat.le_of_ble_eq_true rfl) (rok (by decide)) dX9_bars_9 (fun H locs h => ?_)
    refine lv_if_ne (tgt := 17) hx hb dX9_bars_12 rfl (fun c6 => ?_) (fun c6 => ?_)
    · replace hf := ifn c6 hf
      refine lv_aload_n hx hb dX9_bars_17 rfl (lv_at hl 0 rfl) ?_
      refine lv_iload_n hx hb dX9_bars_18 rfl (lv_at hl 1 rfl) ?_
      refine lv_iload_n hx hb dX9_bars_19 rfl (lv_at hl 2 rfl) ?_
      replace hf := bd9_inv hf
      obtain ⟨y7, y8, y9, y10, g11, g12, g13, g14, g15, hc16, hf⟩ := hf
      refine r_cvV (ws' := [(h_this, ob 9 [.ref h_this_s, .ref h_this_kept, .ref h_this_laid, .int x_this_isKept, .ref h_this_pile, .ref h_this_tape, .int x_this_taped, .ref h_this_letters, .int x_this_at, .int x_this_begun, .int x_this_token, .int x_this_value, .int x_this_opened, .int x_this_steps, .ref h_this_code0, .ref h_this_read, .ref h_this_saved, .ref h_this_plan, .ref h_this_bestPlan, .int y7, .int y8, .int y9, .int y10, .ref h_this_offThen, .ref h_this_paidThen, .int x_this_firstFit, .ref h_this_rows, .int x_this_rowMany, .ref h_this_sorts, .ref h_this_sizes, .ref h_this_number, .ref h_this_holds, .ref h_this_heldOne, .ref h_this_trace, .int x_this_traced, .int x_this_own, .int x_this_isParted]), (h_this_bestPlan, ia G 4 g11), (h_this_pile, ia G 200 g12), (h_this_plan, ia G 4 g13), (h_this_s, ia G 313 g14), (h_this_saved, ia G 325 g15)]) C h (c_X9_triesAll hc16) mv_X9_294 rfl 0 rfl [0, 1, 2, 3, 4, 5] rfl rfl [0, 1, 2, 3, 4, 5] [(h_this, ob 9 [.ref h_this_s, .ref h_this_kept, .ref h_this_laid, .int x_this_isKept, .ref h_this_pile, .ref h_this_tape, .int x_this_taped, .ref h_this_letters, .int x_this_at, .int x_this_begun, .int x_this_token, .int x_this_value, .int x_this_opened, .int x_this_steps, .ref h_this_code0, .ref h_this_read, .ref h_this_saved, .ref h_this_plan, .ref h_this_bestPlan, .int y7, .int y8, .int y9, .int y10, .ref h_this_offThen, .ref h_this_paidThen, .int x_this_firstFit, .ref h_this_rows, .int x_this_rowMany, .ref h_this_sorts, .ref h_this_sizes, .ref h_this_number, .ref h_this_holds, .ref h_this_heldOne, .ref h_this_trace, .int x_this_traced, .int x_this_own, .int x_this_isParted]), (h_this_bestPlan, ia G 4 g11), (h_this_pile, ia G 200 g12), (h_this_plan, ia G 4 g13), (h_this_s, ia G 313 g14), (h_this_saved, ia G 325 g15)] rfl rfl (by decide +kernel) rfl hl.1 rfl (Nat.le_of_ble_eq_true rfl) (rok (by decide)) dX9_bars_20 (fun H locs h => ?_)
      refine lv_iload_n hx hb dX9_bars_23 rfl (lv_at hl 2 rfl) ?_
      refine lv_aload_n hx hb dX9_bars_24 rfl (lv_at hl 0 rfl) ?_
      refine r_get C h fk_X9_271 0 rfl rfl dX9_bars_25 ?_
      refine lv_iconst (v := (-1 : Int32)) hx hb dX9_bars_28 rfl ?_
      refine lv_ixor hx hb dX9_bars_29 ?_
      refine lv_iand hx hb dX9_bars_30 ?_
      refine lv_topi (fun t17 et17 => ?_)
      replace hf := lt1_inv et17 hf
      refine lv_istore_n (lv' := [(3, .int t17), (0, .ref h_this), (1, .int p0), (2, .int p1)]) hx hb dX9_bars_31 rfl hl (by decide) rfl (fun ls hl => ?_)
      refine lv_iconst (v := (0 : Int32)) hx hb dX9_bars_32 rfl ?_
      refine lv_istore (lv' := [(4, .int (0 : Int32)), (3, .int t17), (0, .ref h_this), (1, .int p0), (2, .int p1)]) hx hb dX9_bars_33 hl (by decide) rfl (fun ls hl => ?_)
      exact hK2 _ _ _ _ (L35 1000 t17 (0 : Int32) y7 y8 y9 y10 g11 g12 g13 g14 g15 hf) _ _ _ h (lv_sub hl [2, 1, 0] rfl)
    · replace hf := ifp c6 hf
      refine lv_iconst (v := (-1 : Int32)) hx hb dX9_bars_15 rfl ?_
      obtain ⟨rfl, rfl, rfl, rfl, rfl, rfl, rfl, rfl, rfl, rfl⟩ := sm10 hf
      exact r_iret C h hr hlk rfl dX9_bars_16
set_option maxRecDepth 100000 in
set_option maxHeartbeats 4000000 in
theorem c_X9_playedFrom {l : Launch} {G : Gt} {self : Int32 → Int32 → (Nat → Int32) → (Nat → Int32) → (Nat → Int32) → (Nat → Int32) → Option (Int32 × (Nat → Int32) × (Nat → Int32) × (Nat → Int32) × (Nat → Int32))} {H0 : Nat} (hself : ∀ {h_this h_this_s h_this_kept h_this_laid h_this_pile h_this_tape h_this_letters h_this_code0 h_this_read h_this_saved h_this_plan h_this_bestPlan h_this_offThen h_this_paidThen h_this_rows h_this_sorts h_this_sizes h_this_number h_this_holds h_this_heldOne h_this_trace : Nat} {p0 : Int32} {p1 : Int32} {x_this_isKept : Int32} {x_this_taped : Int32} {x_this_at : Int32} {x_this_begun : Int32} {x_this_token : Int32} {x_this_value : Int32} {x_this_opened : Int32} {x_this_steps : Int32} {x_this_most : Int32} {x_this_many : Int32} {x_this_few : Int32} {x_this_everHome : Int32} {x_this_firstFit : Int32} {x_this_rowMany : Int32} {x_this_traced : Int32} {x_this_own : Int32} {x_this_isParted : Int32} {f_this_pile : Nat → Int32} {f_this_plan : Nat → Int32} {f_this_s : Nat → Int32} {f_this_saved : Nat → Int32} {r : Int32} {m_this_pile : Nat → Int32} {m_this_plan : Nat → Int32} {m_this_s : Nat → Int32} {m_this_saved : Nat → Int32} , self p0 p1 f_this_pile f_this_plan f_this_s f_this_saved = some (r, m_this_pile, m_this_plan, m_this_s, m_this_saved) → mFi l G yX9_playedFrom cX9_playedFrom 9 .int H0 [.ref h_this, .int p0, .int p1] [(h_this, ob 9 [.ref h_this_s, .ref h_this_kept, .ref h_this_laid, .int x_this_isKept, .ref h_this_pile, .ref h_this_tape, .int x_this_taped, .ref h_this_letters, .int x_this_at, .int x_this_begun, .int x_this_token, .int x_this_value, .int x_this_opened, .int x_this_steps, .ref h_this_code0, .ref h_this_read, .ref h_this_saved, .ref h_this_plan, .ref h_this_bestPlan, .int x_this_most, .int x_this_many, .int x_this_few, .int x_this_everHome, .ref h_this_offThen, .ref h_this_paidThen, .int x_this_firstFit, .ref h_this_rows, .int x_this_rowMany, .ref h_this_sorts, .ref h_this_sizes, .ref h_this_number, .ref h_this_holds, .ref h_this_heldOne, .ref h_this_trace, .int x_this_traced, .int x_this_own, .int x_this_isParted]), (h_this_pile, ia G 200 f_this_pile), (h_this_plan, ia G 4 f_this_plan), (h_this_s, ia G 313 f_this_s), (h_this_saved, ia G 325 f_this_saved)] r [(h_this, ob 9 [.ref h_this_s, .ref h_this_kept, .ref h_this_laid, .int x_this_isKept, .ref h_this_pile, .ref h_this_tape, .int x_this_taped, .ref h_this_letters, .int x_this_at, .int x_this_begun, .int x_this_token, .int x_this_value, .int x_this_opened, .int x_this_steps, .ref h_this_code0, .ref h_this_read, .ref h_this_saved, .ref h_this_plan, .ref h_this_bestPlan, .int x_this_most, .int x_this_many, .int x_this_few, .int x_this_everHome, .ref h_this_offThen, .ref h_this_paidThen, .int x_this_firstFit, .ref h_this_rows, .int x_this_rowMany, .ref h_this_sorts, .ref h_this_sizes, .ref h_this_number, .ref h_this_holds, .ref h_this_heldOne, .ref h_this_trace, .int x_this_traced, .int x_this_own, .int x_this_isParted]), (h_this_pile, ia G 200 m_this_pile), (h_this_plan, ia G 4 m_this_plan), (h_this_s, ia G 313 m_this_s), (h_this_saved, ia G 325 m_this_saved)]) {h_this h_this_s h_this_kept h_this_laid h_this_pile h_this_tape h_this_letters h_this_code0 h_this_read h_this_saved h_this_plan h_this_bestPlan h_this_offThen h_this_paidThen h_this_rows h_this_sorts h_this_sizes h_this_number h_this_holds h_this_heldOne h_this_trace : Nat} {p0 : Int32} {p1 : Int32} {x_this_isKept : Int32} {x_this_taped : Int32} {x_this_at : Int32} {x_this_begun : Int32} {x_this_token : Int32} {x_this_value : Int32} {x_this_opened : Int32} {x_this_steps : Int32} {x_this_most : Int32} {x_this_many : Int32} {x_this_few : Int32} {x_this_everHome : Int32} {x_this_firstFit : Int32} {x_this_rowMany : Int32} {x_this_traced : Int32} {x_this_own : Int32} {x_this_isParted : Int32} {f_this_pile : Nat → Int32} {f_this_plan : Nat → Int32} {f_this_s : Nat → Int32} {f_this_saved : Nat → Int32} {r : Int32} {m_this_pile : Nat → Int32} {m_this_plan : Nat → Int32} {m_this_s : Nat → Int32} {m_this_saved : Nat → Int32} (hf : f_X9_playedFrom self p0 p1 f_this_pile f_this_plan f_this_s f_this_saved = some (r, m_this_pile, m_this_plan, m_this_s, m_this_saved)) : mFi l G yX9_playedFrom cX9_playedFrom 9 .int (H0 + 7) [.ref h_this, .int p0, .int p1] [(h_this, ob 9 [.ref h_this_s, .ref h_this_kept, .ref h_this_laid, .int x_this_isKept, .ref h_this_pile, .ref h_this_tape, .int x_this_taped, .ref h_this_letters, .int x_this_at, .int x_this_begun, .int x_this_token, .int x_this_value, .int x_this_opened, .int x_this_steps, .ref h_this_code0, .ref h_this_read, .ref h_this_saved, .ref h_this_plan, .ref h_this_bestPlan, .int x_this_most, .int x_this_many, .int x_this_few, .int x_this_everHome, .ref h_this_offThen, .ref h_this_paidThen, .int x_this_firstFit, .ref h_this_rows, .int x_this_rowMany, .ref h_this_sorts, .ref h_this_sizes, .ref h_this_number, .ref h_this_holds, .ref h_this_heldOne, .ref h_this_trace, .int x_this_traced, .int x_this_own, .int x_this_isParted]), (h_this_pile, ia G 200 f_this_pile), (h_this_plan, ia G 4 f_this_plan), (h_this_s, ia G 313 f_this_s), (h_this_saved, ia G 325 f_this_saved)] r [(h_this, ob 9 [.ref h_this_s, .ref h_this_kept, .ref h_this_laid, .int x_this_isKept, .ref h_this_pile, .ref h_this_tape, .int x_this_taped, .ref h_this_letters, .int x_this_at, .int x_this_begun, .int x_this_token, .int x_this_value, .int x_this_opened, .int x_this_steps, .ref h_this_code0, .ref h_this_read, .ref h_this_saved, .ref h_this_plan, .ref h_this_bestPlan, .int x_this_most, .int x_this_many, .int x_this_few, .int x_this_everHome, .ref h_this_offThen, .ref h_this_paidThen, .int x_this_firstFit, .ref h_this_rows, .int x_this_rowMany, .ref h_this_sorts, .ref h_this_sizes, .ref h_this_number, .ref h_this_holds, .ref h_this_heldOne, .ref h_this_trace, .int x_this_traced, .int x_this_own, .int x_this_isParted]), (h_this_pile, ia G 200 m_this_pile), (h_this_plan, ia G 4 m_this_plan), (h_this_s, ia G 313 m_this_s), (h_this_saved, ia G 325 m_this_saved)] := by
  refine mFi.of (by decide +kernel) (Nat.le_of_ble_eq_true rfl) ?_
  intro p e s m below meth c A C hr hlk h ls hl
  obtain ⟨hx, hb, hml, hown, hts⟩ := id C
  replace hl : lv_has ls 9 [(0, .ref h_this), (1, .int p0), (2, .int p1)] := hl
  unfold f_X9_playedFrom at hf
  refine with_K G A 9 (fun K hK1 hK2 => ?_)
  have B102 : ∀ (rec20 : Int32 → Int32 → Int32 → (Nat → Int32) → (Nat → Int32) → (Nat → Int32) → (Nat → Int32) → Option (Int32 × (Nat → Int32) × (Nat → Int32) × (Nat → Int32) × (Nat → Int32))) (hrec20 : ∀ (v3 : Int32) (v4 : Int32) (v5 : Int32) (g_this_pile : Nat → Int32) (g_this_plan : Nat → Int32) (g_this_s : Nat → Int32) (g_this_saved : Nat → Int32), rec20 v3 v4 v5 g_this_pile g_this_plan g_this_s g_this_saved = some (r, m_this_pile, m_this_plan, m_this_s, m_this_saved) → K 20 ([] : List Value) [(h_this, ob 9 [.ref h_this_s, .ref h_this_kept, .ref h_this_laid, .int x_this_isKept, .ref h_this_pile, .ref h_this_tape, .int x_this_taped, .ref h_this_letters, .int x_this_at, .int x_this_begun, .int x_this_token, .int x_this_value, .int x_this_opened, .int x_this_steps, .ref h_this_code0, .ref h_this_read, .ref h_this_saved, .ref h_this_plan, .ref h_this_bestPlan, .int x_this_most, .int x_this_many, .int x_this_few, .int x_this_everHome, .ref h_this_offThen, .ref h_this_paidThen, .int x_this_firstFit, .ref h_this_rows, .int x_this_rowMany, .ref h_this_sorts, .ref h_this_sizes, .ref h_this_number, .ref h_this_holds, .ref h_this_heldOne, .ref h_this_trace, .int x_this_traced, .int x_this_own, .int x_this_isParted]), (h_this_pile, ia G 200 g_this_pile), (h_this_plan, ia G 4 g_this_plan), (h_this_s, ia G 313 g_this_s), (h_this_saved, ia G 325 g_this_saved)] [(0, .ref h_this), (1, .int p0), (2, .int p1), (3, .int v3), (4, .int v4), (5, .int v5)]) (v3 : Int32) (v5 : Int32) (v7 : Int32) (v8 : Int32) (s0 : Int32) (g_this_pile : Nat → Int32) (g_this_plan : Nat → Int32) (g_this_s : Nat → Int32) (g_this_saved : Nat → Int32), f_X9_playedFrom_b102 rec20 v3 v5 v7 v8 s0 g_this_pile g_this_plan g_this_s g_this_saved = some (r, m_this_pile, m_this_plan, m_this_s, m_this_saved) → K 102 [.int s0] [(h_this, ob 9 [.ref h_this_s, .ref h_this_kept, .ref h_this_laid, .int x_this_isKept, .ref h_this_pile, .ref h_this_tape, .int x_this_taped, .ref h_this_letters, .int x_this_at, .int x_this_begun, .int x_this_token, .int x_this_value, .int x_this_opened, .int x_this_steps, .ref h_this_code0, .ref h_this_read, .ref h_this_saved, .ref h_this_plan, .ref h_this_bestPlan, .int x_this_most, .int x_this_many, .int x_this_few, .int x_this_everHome, .ref h_this_offThen, .ref h_this_paidThen, .int x_this_firstFit, .ref h_this_rows, .int x_this_rowMany, .ref h_this_sorts, .ref h_this_sizes, .ref h_this_number, .ref h_this_holds, .ref h_this_heldOne, .ref h_this_trace, .int x_this_traced, .int x_this_own, .int x_this_isParted]), (h_this_pile, ia G 200 g_this_pile), (h_this_plan, ia G 4 g_this_plan), (h_this_s, ia G 313 g_this_s), (h_this_saved, ia G 325 g_this_saved)] [(0, .ref h_this), (1, .int p0), (2, .int p1), (3, .int v3), (5, .int v5), (7, .int v7), (8, .int v8)] := by
    intro rec20 hrec20 v3 v5 v7 v8 s0 g_this_pile g_this_plan g_this_s g_this_saved hf
    unfold f_X9_playedFrom_b102 at hf
    refine hK1 _ _ _ _ (fun H locs ls h hl => ?_)
    refine lv_istore (lv' := [(4, .int s0), (0, .ref h_this), (1, .int p0), (2, .int p1), (3, .int v3), (5, .int v5), (7, .int v7), (8, .int v8)]) hx hb dX9_playedFrom_102 hl (by decide) rfl (fun ls hl => ?_)
    refine lv_iload hx hb dX9_playedFrom_104 (lv_at hl 7 rfl) ?_
    refine lv_if_eq (tgt := 114) hx hb dX9_playedFrom_106 rfl (fun c21 => ?_) (fun c21 => ?_)
    · replace hf := ifp c21 hf
      refine lv_iload_n hx hb dX9_playedFrom_114 rfl (lv_at hl 4 rfl) ?_
      refine lv_istore_n (lv' := [(3, .int v3), (4, .int s0), (0, .ref h_this), (1, .int p0), (2, .int p1), (5, .int v5), (7, .int v7), (8, .int v8)]) hx hb dX9_playedFrom_115 rfl hl (by decide) rfl (fun ls hl => ?_)
      obtain ⟨t22, et22⟩ : ∃ y : Int32, y = v5 + (1 : Int32) := ⟨_, rfl⟩
      replace hf := lt1_inv et22 hf
      refine lv_iinc (v := t22) (lv' := [(5, .int t22), (3, .int v3), (4, .int s0), (0, .ref h_this), (1, .int p0), (2, .int p1), (7, .int v7), (8, .int v8)]) hx hb dX9_playedFrom_116 hl (k := 5) rfl (by rw [et22]; rfl) (by decide) rfl (fun ls hl => ?_)
      refine lv_goto (tgt := 20) hx hb dX9_playedFrom_119 rfl ?_
      exact hK2 _ _ _ _ (hrec20 v3 s0 t22 g_this_pile g_this_plan g_this_s g_this_saved hf) _ _ _ h (lv_sub hl [3, 4, 5, 1, 2, 0] rfl)
    · replace hf := ifn c21 hf
      refine lv_iload hx hb dX9_playedFrom_109 (lv_at hl 6 rfl) ?_
      refine lv_goto (tgt := 115) hx hb dX9_playedFrom_111 rfl ?_
      refine lv_istore_n (lv' := [(3, .int v7), (4, .int s0), (0, .ref h_this), (1, .int p0), (2, .int p1), (5, .int v5), (7, .int v7), (8, .int v8)]) hx hb dX9_playedFrom_115 rfl hl (by decide) rfl (fun ls hl => ?_)
      obtain ⟨t23, et23⟩ : ∃ y : Int32, y = v5 + (1 : Int32) := ⟨_, rfl⟩
      replace hf := lt1_inv et23 hf
      refine lv_iinc (v := t23) (lv' := [(5, .int t23), (3, .int v7), (4, .int s0), (0, .ref h_this), (1, .int p0), (2, .int p1), (7, .int v7), (8, .int v8)]) hx hb dX9_playedFrom_116 hl (k := 5) rfl (by rw [et23]; rfl) (by decide) rfl (fun ls hl => ?_)
      refine lv_goto (tgt := 20) hx hb dX9_playedFrom_119 rfl ?_
      exact hK2 _ _ _ _ (hrec20 v7 s0 t23 g_this_pile g_this_plan g_this_s g_this_saved hf) _ _ _ h (lv_sub hl [3, 4, 5, 1, 2, 0] rfl)
  have B88 : ∀ (rec20 : Int32 → Int32 → Int32 → (Nat → Int32) → (Nat → Int32) → (Nat → Int32) → (Nat → Int32) → Option (Int32 × (Nat → Int32) × (Nat → Int32) × (Nat → Int32) × (Nat → Int32))) (hrec20 : ∀ (v3 : Int32) (v4 : Int32) (v5 : Int32) (g_this_pile : Nat → Int32) (g_this_plan : Nat → Int32) (g_this_s : Nat → Int32) (g_this_saved : Nat → Int32), rec20 v3 v4 v5 g_this_pile g_this_plan g_this_s g_this_saved = some (r, m_this_pile, m_this_plan, m_this_s, m_this_saved) → K 20 ([] : List Value) [(h_this, ob 9 [.ref h_this_s, .ref h_this_kept, .ref h_this_laid, .int x_this_isKept, .ref h_this_pile, .ref h_this_tape, .int x_this_taped, .ref h_this_letters, .int x_this_at, .int x_this_begun, .int x_this_token, .int x_this_value, .int x_this_opened, .int x_this_steps, .ref h_this_code0, .ref h_this_read, .ref h_this_saved, .ref h_this_plan, .ref h_this_bestPlan, .int x_this_most, .int x_this_many, .int x_this_few, .int x_this_everHome, .ref h_this_offThen, .ref h_this_paidThen, .int x_this_firstFit, .ref h_this_rows, .int x_this_rowMany, .ref h_this_sorts, .ref h_this_sizes, .ref h_this_number, .ref h_this_holds, .ref h_this_heldOne, .ref h_this_trace, .int x_this_traced, .int x_this_own, .int x_this_isParted]), (h_this_pile, ia G 200 g_this_pile), (h_this_plan, ia G 4 g_this_plan), (h_this_s, ia G 313 g_this_s), (h_this_saved, ia G 325 g_this_saved)] [(0, .ref h_this), (1, .int p0), (2, .int p1), (3, .int v3), (4, .int v4), (5, .int v5)]) (v3 : Int32) (v4 : Int32) (v5 : Int32) (v7 : Int32) (s0 : Int32) (g_this_pile : Nat → Int32) (g_this_plan : Nat → Int32) (g_this_s : Nat → Int32) (g_this_saved : Nat → Int32), f_X9_playedFrom_b88 rec20 v3 v4 v5 v7 s0 g_this_pile g_this_plan g_this_s g_this_saved = some (r, m_this_pile, m_this_plan, m_this_s, m_this_saved) → K 88 [.int s0] [(h_this, ob 9 [.ref h_this_s, .ref h_this_kept, .ref h_this_laid, .int x_this_isKept, .ref h_this_pile, .ref h_this_tape, .int x_this_taped, .ref h_this_letters, .int x_this_at, .int x_this_begun, .int x_this_token, .int x_this_value, .int x_this_opened, .int x_this_steps, .ref h_this_code0, .ref h_this_read, .ref h_this_saved, .ref h_this_plan, .ref h_this_bestPlan, .int x_this_most, .int x_this_many, .int x_this_few, .int x_this_everHome, .ref h_this_offThen, .ref h_this_paidThen, .int x_this_firstFit, .ref h_this_rows, .int x_this_rowMany, .ref h_this_sorts, .ref h_this_sizes, .ref h_this_number, .ref h_this_holds, .ref h_this_heldOne, .ref h_this_trace, .int x_this_traced, .int x_this_own, .int x_this_isParted]), (h_this_pile, ia G 200 g_this_pile), (h_this_plan, ia G 4 g_this_plan), (h_this_s, ia G 313 g_this_s), (h_this_saved, ia G 325 g_this_saved)] [(0, .ref h_this), (1, .int p0), (2, .int p1), (3, .int v3), (4, .int v4), (5, .int v5), (7, .int v7)] := by
    intro rec20 hrec20 v3 v4 v5 v7 s0 g_this_pile g_this_plan g_this_s g_this_saved hf
    unfold f_X9_playedFrom_b88 at hf
    refine hK1 _ _ _ _ (fun H locs ls h hl => ?_)
    refine lv_istore (lv' := [(8, .int s0), (0, .ref h_this), (1, .int p0), (2, .int p1), (3, .int v3), (4, .int v4), (5, .int v5), (7, .int v7)]) hx hb dX9_playedFrom_88 hl (by decide) rfl (fun ls hl => ?_)
    refine lv_iload hx hb dX9_playedFrom_90 (lv_at hl 0 rfl) ?_
    refine lv_if_eq (tgt := 100) hx hb dX9_playedFrom_92 rfl (fun c20 => ?_) (fun c20 => ?_)
    · replace hf := ifp c20 hf
      refine lv_iload hx hb dX9_playedFrom_100 (lv_at hl 5 rfl) ?_
      exact hK2 _ _ _ _ (B102 _ hrec20 v3 v5 v7 s0 v4 g_this_pile g_this_plan g_this_s g_this_saved hf) _ _ _ h (lv_sub hl [1, 2, 3, 4, 6, 7, 0] rfl)
    · replace hf := ifn c20 hf
      refine lv_iload hx hb dX9_playedFrom_95 (lv_at hl 6 rfl) ?_
      refine lv_goto (tgt := 102) hx hb dX9_playedFrom_97 rfl ?_
      exact hK2 _ _ _ _ (B102 _ hrec20 v3 v5 v7 s0 v5 g_this_pile g_this_plan g_this_s g_this_saved hf) _ _ _ h (lv_sub hl [1, 2, 3, 4, 6, 7, 0] rfl)
  have B83 : ∀ (rec20 : Int32 → Int32 → Int32 → (Nat → Int32) → (Nat → Int32) → (Nat → Int32) → (Nat → Int32) → Option (Int32 × (Nat → Int32) × (Nat → Int32) × (Nat → Int32) × (Nat → Int32))) (hrec20 : ∀ (v3 : Int32) (v4 : Int32) (v5 : Int32) (g_this_pile : Nat → Int32) (g_this_plan : Nat → Int32) (g_this_s : Nat → Int32) (g_this_saved : Nat → Int32), rec20 v3 v4 v5 g_this_pile g_this_plan g_this_s g_this_saved = some (r, m_this_pile, m_this_plan, m_this_s, m_this_saved) → K 20 ([] : List Value) [(h_this, ob 9 [.ref h_this_s, .ref h_this_kept, .ref h_this_laid, .int x_this_isKept, .ref h_this_pile, .ref h_this_tape, .int x_this_taped, .ref h_this_letters, .int x_this_at, .int x_this_begun, .int x_this_token, .int x_this_value, .int x_this_opened, .int x_this_steps, .ref h_this_code0, .ref h_this_read, .ref h_this_saved, .ref h_this_plan, .ref h_this_bestPlan, .int x_this_most, .int x_this_many, .int x_this_few, .int x_this_everHome, .ref h_this_offThen, .ref h_this_paidThen, .int x_this_firstFit, .ref h_this_rows, .int x_this_rowMany, .ref h_this_sorts, .ref h_this_sizes, .ref h_this_number, .ref h_this_holds, .ref h_this_heldOne, .ref h_this_trace, .int x_this_traced, .int x_this_own, .int x_this_isParted]), (h_this_pile, ia G 200 g_this_pile), (h_this_plan, ia G 4 g_this_plan), (h_this_s, ia G 313 g_this_s), (h_this_saved, ia G 325 g_this_saved)] [(0, .ref h_this), (1, .int p0), (2, .int p1), (3, .int v3), (4, .int v4), (5, .int v5)]) (v3 : Int32) (v4 : Int32) (v5 : Int32) (v7 : Int32) (g_this_pile : Nat → Int32) (g_this_plan : Nat → Int32) (g_this_s : Nat → Int32) (g_this_saved : Nat → Int32), f_X9_playedFrom_b83 rec20 v3 v4 v5 v7 g_this_pile g_this_plan g_this_s g_this_saved = some (r, m_this_pile, m_this_plan, m_this_s, m_this_saved) → K 83 ([] : List Value) [(h_this, ob 9 [.ref h_this_s, .ref h_this_kept, .ref h_this_laid, .int x_this_isKept, .ref h_this_pile, .ref h_this_tape, .int x_this_taped, .ref h_this_letters, .int x_this_at, .int x_this_begun, .int x_this_token, .int x_this_value, .int x_this_opened, .int x_this_steps, .ref h_this_code0, .ref h_this_read, .ref h_this_saved, .ref h_this_plan, .ref h_this_bestPlan, .int x_this_most, .int x_this_many, .int x_this_few, .int x_this_everHome, .ref h_this_offThen, .ref h_this_paidThen, .int x_this_firstFit, .ref h_this_rows, .int x_this_rowMany, .ref h_this_sorts, .ref h_this_sizes, .ref h_this_number, .ref h_this_holds, .ref h_this_heldOne, .ref h_this_trace, .int x_this_traced, .int x_this_own, .int x_this_isParted]), (h_this_pile, ia G 200 g_this_pile), (h_this_plan, ia G 4 g_this_plan), (h_this_s, ia G 313 g_this_s), (h_this_saved, ia G 325 g_this_saved)] [(0, .ref h_this), (1, .int p0), (2, .int p1), (3, .int v3), (4, .int v4), (5, .int v5), (7, .int v7)] := by
    intro rec20 hrec20 v3 v4 v5 v7 g_this_pile g_this_plan g_this_s g_this_saved hf
    unfold f_X9_playedFrom_b83 at hf
    refine hK1 _ _ _ _ (fun H locs ls h hl => ?_)
    refine lv_iconst (v := (1 : Int32)) hx hb dX9_playedFrom_83 rfl ?_
    refine lv_goto (tgt := 88) hx hb dX9_playedFrom_84 rfl ?_
    exact hK2 _ _ _ _ (B88 _ hrec20 v3 v4 v5 v7 (1 : Int32) g_this_pile g_this_plan g_this_s g_this_saved hf) _ _ _ h (lv_sub hl [0, 1, 2, 3, 4, 5, 6] rfl)
  have B87 : ∀ (rec20 : Int32 → Int32 → Int32 → (Nat → Int32) → (Nat → Int32) → (Nat → Int32) → (Nat → Int32) → Option (Int32 × (Nat → Int32) × (Nat → Int32) × (Nat → Int32) × (Nat → Int32))) (hrec20 : ∀ (v3 : Int32) (v4 : Int32) (v5 : Int32) (g_this_pile : Nat → Int32) (g_this_plan : Nat → Int32) (g_this_s : Nat → Int32) (g_this_saved : Nat → Int32), rec20 v3 v4 v5 g_this_pile g_this_plan g_this_s g_this_saved = some (r, m_this_pile, m_this_plan, m_this_s, m_this_saved) → K 20 ([] : List Value) [(h_this, ob 9 [.ref h_this_s, .ref h_this_kept, .ref h_this_laid, .int x_this_isKept, .ref h_this_pile, .ref h_this_tape, .int x_this_taped, .ref h_this_letters, .int x_this_at, .int x_this_begun, .int x_this_token, .int x_this_value, .int x_this_opened, .int x_this_steps, .ref h_this_code0, .ref h_this_read, .ref h_this_saved, .ref h_this_plan, .ref h_this_bestPlan, .int x_this_most, .int x_this_many, .int x_this_few, .int x_this_everHome, .ref h_this_offThen, .ref h_this_paidThen, .int x_this_firstFit, .ref h_this_rows, .int x_this_rowMany, .ref h_this_sorts, .ref h_this_sizes, .ref h_this_number, .ref h_this_holds, .ref h_this_heldOne, .ref h_this_trace, .int x_this_traced, .int x_this_own, .int x_this_isParted]), (h_this_pile, ia G 200 g_this_pile), (h_this_plan, ia G 4 g_this_plan), (h_this_s, ia G 313 g_this_s), (h_this_saved, ia G 325 g_this_saved)] [(0, .ref h_this), (1, .int p0), (2, .int p1), (3, .int v3), (4, .int v4), (5, .int v5)]) (v3 : Int32) (v4 : Int32) (v5 : Int32) (v7 : Int32) (g_this_pile : Nat → Int32) (g_this_plan : Nat → Int32) (g_this_s : Nat → Int32) (g_this_saved : Nat → Int32), f_X9_playedFrom_b87 rec20 v3 v4 v5 v7 g_this_pile g_this_plan g_this_s g_this_saved = some (r, m_this_pile, m_this_plan, m_this_s, m_this_saved) → K 87 ([] : List Value) [(h_this, ob 9 [.ref h_this_s, .ref h_this_kept, .ref h_this_laid, .int x_this_isKept, .ref h_this_pile, .ref h_this_tape, .int x_this_taped, .ref h_this_letters, .int x_this_at, .int x_this_begun, .int x_this_token, .int x_this_value, .int x_this_opened, .int x_this_steps, .ref h_this_code0, .ref h_this_read, .ref h_this_saved, .ref h_this_plan, .ref h_this_bestPlan, .int x_this_most, .int x_this_many, .int x_this_few, .int x_this_everHome, .ref h_this_offThen, .ref h_this_paidThen, .int x_this_firstFit, .ref h_this_rows, .int x_this_rowMany, .ref h_this_sorts, .ref h_this_sizes, .ref h_this_number, .ref h_this_holds, .ref h_this_heldOne, .ref h_this_trace, .int x_this_traced, .int x_this_own, .int x_this_isParted]), (h_this_pile, ia G 200 g_this_pile), (h_this_plan, ia G 4 g_this_plan), (h_this_s, ia G 313 g_this_s), (h_this_saved, ia G 325 g_this_saved)] [(0, .ref h_this), (1, .int p0), (2, .int p1), (3, .int v3), (4, .int v4), (5, .int v5), (7, .int v7)] := by
    intro rec20 hrec20 v3 v4 v5 v7 g_this_pile g_this_plan g_this_s g_this_saved hf
    unfold f_X9_playedFrom_b87 at hf
    refine hK1 _ _ _ _ (fun H locs ls h hl => ?_)
    refine lv_iconst (v := (0 : Int32)) hx hb dX9_playedFrom_87 rfl ?_
    exact hK2 _ _ _ _ (B88 _ hrec20 v3 v4 v5 v7 (0 : Int32) g_this_pile g_this_plan g_this_s g_this_saved hf) _ _ _ h (lv_sub hl [0, 1, 2, 3, 4, 5, 6] rfl)
  have L20 : ∀ (n : Nat) (v3 : Int32) (v4 : Int32) (v5 : Int32) (g_this_pile : Nat → Int32) (g_this_plan : Nat → Int32) (g_this_s : Nat → Int32) (g_this_saved : Nat → Int32), f_X9_playedFrom_L20 self p0 p1 n v3 v4 v5 g_this_pile g_this_plan g_this_s g_this_saved = some (r, m_this_pile, m_this_plan, m_this_s, m_this_saved) → K 20 ([] : List Value) [(h_this, ob 9 [.ref h_this_s, .ref h_this_kept, .ref h_this_laid, .int x_this_isKept, .ref h_this_pile, .ref h_this_tape, .int x_this_taped, .ref h_this_letters, .int x_this_at, .int x_this_begun, .int x_this_token, .int x_this_value, .int x_this_opened, .int x_this_steps, .ref h_this_code0, .ref h_this_read, .ref h_this_saved, .ref h_this_plan, .ref h_this_bestPlan, .int x_this_most, .int x_this_many, .int x_this_few, .int x_this_everHome, .ref h_this_offThen, .ref h_this_paidThen, .int x_this_firstFit, .ref h_this_rows, .int x_this_rowMany, .ref h_this_sorts, .ref h_this_sizes, .ref h_this_number, .ref h_this_holds, .ref h_this_heldOne, .ref h_this_trace, .int x_this_traced, .int x_this_own, .int x_this_isParted]), (h_this_pile, ia G 200 g_this_pile), (h_this_plan, ia G 4 g_this_plan), (h_this_s, ia G 313 g_this_s), (h_this_saved, ia G 325 g_this_saved)] [(0, .ref h_this), (1, .int p0), (2, .int p1), (3, .int v3), (4, .int v4), (5, .int v5)] := by
    intro n
    induction n with
    | zero =>
      intro v3 v4 v5 g_this_pile g_this_plan g_this_s g_this_saved hf
      replace hf : (none : Option _) = some _ := hf
      cases hf
    | succ n ih =>
      intro v3 v4 v5 g_this_pile g_this_plan g_this_s g_this_saved hf
      rw [f_X9_playedFrom_L20] at hf
      refine hK1 _ _ _ _ (fun H locs ls h hl => ?_)
      refine lv_iload hx hb dX9_playedFrom_20 (lv_at hl 5 rfl) ?_
      refine lv_aload_n hx hb dX9_playedFrom_22 rfl (lv_at hl 0 rfl) ?_
      refine r_get C h fk_X9_9 0 rfl rfl dX9_playedFrom_23 ?_
      refine lv_iconst (v := (4 : Int32)) hx hb dX9_playedFrom_26 rfl ?_
      refine r_ialdL C h 3 rfl (vlit rfl) 4 rfl dX9_playedFrom_27 ?_
      refine lv_icmp_gt (tgt := 122) hx hb dX9_playedFrom_28 rfl (fun c4 => ?_) (fun c4 => ?_)
      · replace hf := ifp c4 hf
        refine lv_aload_n hx hb dX9_playedFrom_122 rfl (lv_at hl 0 rfl) ?_
        refine r_get C h fk_X9_38 0 rfl rfl dX9_playedFrom_123 ?_
        refine lv_iload_n hx hb dX9_playedFrom_126 rfl (lv_at hl 1 rfl) ?_
        refine lv_iload hx hb dX9_playedFrom_127 (lv_at hl 4 rfl) ?_
        replace hf := chkI_inv hf
        obtain ⟨hi5, hf⟩ := hf
        refine r_iast (ws' := [(h_this, ob 9 [.ref h_this_s, .ref h_this_kept, .ref h_this_laid, .int x_this_isKept, .ref h_this_pile, .ref h_this_tape, .int x_this_taped, .ref h_this_letters, .int x_this_at, .int x_this_begun, .int x_this_token, .int x_this_value, .int x_this_opened, .int x_this_steps, .ref h_this_code0, .ref h_this_read, .ref h_this_saved, .ref h_this_plan, .ref h_this_bestPlan, .int x_this_most, .int x_this_many, .int x_this_few, .int x_this_everHome, .ref h_this_offThen, .ref h_this_paidThen, .int x_this_firstFit, .ref h_this_rows, .int x_this_rowMany, .ref h_this_sorts, .ref h_this_sizes, .ref h_this_number, .ref h_this_holds, .ref h_this_heldOne, .ref h_this_trace, .int x_this_traced, .int x_this_own, .int x_this_isParted]), (h_this_pile, ia G 200 g_this_pile), (h_this_plan, ia G 4 (upd g_this_plan p0.toNatClampNeg v4)), (h_this_s, ia G 313 g_this_s), (h_this_saved, ia G 325 g_this_saved)]) C h 2 rfl hi5 dX9_playedFrom_129 rfl (fun H locs h => ?_)
        refine lv_iload_n hx hb dX9_playedFrom_130 rfl (lv_at hl 3 rfl) ?_
        cases hf
        exact r_iret C h hr hlk rfl dX9_playedFrom_131
      · replace hf := ifn c4 hf
        refine lv_aload_n hx hb dX9_playedFrom_31 rfl (lv_at hl 0 rfl) ?_
        refine lv_iload hx hb dX9_playedFrom_32 (lv_at hl 5 rfl) ?_
        replace hf := bd3_inv hf
        obtain ⟨r6, g7, g8, hc9, hf⟩ := hf
        refine r_ciV (ws' := [(h_this, ob 9 [.ref h_this_s, .ref h_this_kept, .ref h_this_laid, .int x_this_isKept, .ref h_this_pile, .ref h_this_tape, .int x_this_taped, .ref h_this_letters, .int x_this_at, .int x_this_begun, .int x_this_token, .int x_this_value, .int x_this_opened, .int x_this_steps, .ref h_this_code0, .ref h_this_read, .ref h_this_saved, .ref h_this_plan, .ref h_this_bestPlan, .int x_this_most, .int x_this_many, .int x_this_few, .int x_this_everHome, .ref h_this_offThen, .ref h_this_paidThen, .int x_this_firstFit, .ref h_this_rows, .int x_this_rowMany, .ref h_this_sorts, .ref h_this_sizes, .ref h_this_number, .ref h_this_holds, .ref h_this_heldOne, .ref h_this_trace, .int x_this_traced, .int x_this_own, .int x_this_isParted]), (h_this_pile, ia G 200 g7), (h_this_plan, ia G 4 g_this_plan), (h_this_s, ia G 313 g8), (h_this_saved, ia G 325 g_this_saved)]) C h (c_X9_goesBy hc9) mv_X9_238 rfl 0 rfl [0, 1, 3] rfl rfl [1, 3] [(h_this_pile, ia G 200 g7), (h_this_s, ia G 313 g8)] rfl rfl (by decide +kernel) rfl hl.1 rfl (Nat.le_of_ble_eq_true rfl) (rok (by omega)) dX9_playedFrom_34 (fun H locs h => ?_)
        refine lv_istore (lv' := [(6, .int r6), (0, .ref h_this), (1, .int p0), (2, .int p1), (3, .int v3), (4, .int v4), (5, .int v5)]) hx hb dX9_playedFrom_37 hl (by decide) rfl (fun ls hl => ?_)
        refine lv_iload hx hb dX9_playedFrom_39 (lv_at hl 0 rfl) ?_
        refine lv_aload_n hx hb dX9_playedFrom_41 rfl (lv_at hl 1 rfl) ?_
        refine lv_iload_n hx hb dX9_playedFrom_42 rfl (lv_at hl 2 rfl) ?_
        refine lv_iconst (v := (1 : Int32)) hx hb dX9_playedFrom_43 rfl ?_
        refine lv_iadd hx hb dX9_playedFrom_44 ?_
        refine lv_iload_n hx hb dX9_playedFrom_45 rfl (lv_at hl 3 rfl) ?_
        replace hf := bd5_inv hf
        obtain ⟨r10, g11, g12, g13, g14, hc15, hf⟩ := hf
        refine r_ciV (ws' := [(h_this, ob 9 [.ref h_this_s, .ref h_this_kept, .ref h_this_laid, .int x_this_isKept, .ref h_this_pile, .ref h_this_tape, .int x_this_taped, .ref h_this_letters, .int x_this_at, .int x_this_begun, .int x_this_token, .int x_this_value, .int x_this_opened, .int x_this_steps, .ref h_this_code0, .ref h_this_read, .ref h_this_saved, .ref h_this_plan, .ref h_this_bestPlan, .int x_this_most, .int x_this_many, .int x_this_few, .int x_this_everHome, .ref h_this_offThen, .ref h_this_paidThen, .int x_this_firstFit, .ref h_this_rows, .int x_this_rowMany, .ref h_this_sorts, .ref h_this_sizes, .ref h_this_number, .ref h_this_holds, .ref h_this_heldOne, .ref h_this_trace, .int x_this_traced, .int x_this_own, .int x_this_isParted]), (h_this_pile, ia G 200 g11), (h_this_plan, ia G 4 g12), (h_this_s, ia G 313 g13), (h_this_saved, ia G 325 g14)]) C h (hself hc15) mv_X9_301 rfl 0 rfl [0, 1, 2, 3, 4] rfl rfl [1, 2, 3, 4] [(h_this_pile, ia G 200 g11), (h_this_plan, ia G 4 g12), (h_this_s, ia G 313 g13), (h_this_saved, ia G 325 g14)] rfl rfl (by decide +kernel) rfl hl.1 rfl (Nat.le_of_ble_eq_true rfl) (rok (by omega)) dX9_playedFrom_46 (fun H locs h => ?_)
        refine lv_iadd hx hb dX9_playedFrom_49 ?_
        refine lv_topi (fun t16 et16 => ?_)
        replace hf := lt1_inv et16 hf
        refine lv_istore (lv' := [(7, .int t16), (6, .int r6), (0, .ref h_this), (1, .int p0), (2, .int p1), (3, .int v3), (4, .int v4), (5, .int v5)]) hx hb dX9_playedFrom_50 hl (by decide) rfl (fun ls hl => ?_)
        refine lv_aload_n hx hb dX9_playedFrom_52 rfl (lv_at hl 2 rfl) ?_
        refine lv_iload_n hx hb dX9_playedFrom_53 rfl (lv_at hl 3 rfl) ?_
        replace hf := bd1_inv hf
        obtain ⟨g17, hc18, hf⟩ := hf
        refine r_cvV (ws' := [(h_this, ob 9 [.ref h_this_s, .ref h_this_kept, .ref h_this_laid, .int x_this_isKept, .ref h_this_pile, .ref h_this_tape, .int x_this_taped, .ref h_this_letters, .int x_this_at, .int x_this_begun, .int x_this_token, .int x_this_value, .int x_this_opened, .int x_this_steps, .ref h_this_code0, .ref h_this_read, .ref h_this_saved, .ref h_this_plan, .ref h_this_bestPlan, .int x_this_most, .int x_this_many, .int x_this_few, .int x_this_everHome, .ref h_this_offThen, .ref h_this_paidThen, .int x_this_firstFit, .ref h_this_rows, .int x_this_rowMany, .ref h_this_sorts, .ref h_this_sizes, .ref h_this_number, .ref h_this_holds, .ref h_this_heldOne, .ref h_this_trace, .int x_this_traced, .int x_this_own, .int x_this_isParted]), (h_this_pile, ia G 200 g11), (h_this_plan, ia G 4 g12), (h_this_s, ia G 313 g17), (h_this_saved, ia G 325 g14)]) C h (c_X9_restores hc18) mv_X9_285 rfl 0 rfl [0, 3, 4] rfl rfl [3] [(h_this_s, ia G 313 g17)] rfl rfl (by decide +kernel) rfl hl.1 rfl (Nat.le_of_ble_eq_true rfl) (rok (by omega)) dX9_playedFrom_54 (fun H locs h => ?_)
        refine lv_iload hx hb dX9_playedFrom_57 (lv_at hl 6 rfl) ?_
        refine lv_if_lt (tgt := 83) hx hb dX9_playedFrom_59 rfl (fun c19 => ?_) (fun c19 => ?_)
        · replace hf := ifp c19 hf
          exact hK2 _ _ _ _ (B83 _ ih v3 v4 v5 t16 g11 g12 g17 g14 hf) _ _ _ h (lv_sub hl [2, 3, 4, 5, 6, 7, 0] rfl)
        · replace hf := ifn c19 hf
          refine lv_iload_n hx hb dX9_playedFrom_62 rfl (lv_at hl 3 rfl) ?_
          refine lv_iconst (v := (2 : Int32)) hx hb dX9_playedFrom_63 rfl ?_
          refine lv_irem hx hb dX9_playedFrom_64 (by decide) ?_
          refine lv_if_ne (tgt := 77) hx hb dX9_playedFrom_65 rfl (fun c24 => ?_) (fun c24 => ?_)
          · replace hf := ifn c24 hf
            refine lv_iload hx hb dX9_playedFrom_77 (lv_at hl 0 rfl) ?_
            refine lv_iload_n hx hb dX9_playedFrom_79 rfl (lv_at hl 5 rfl) ?_
            refine lv_icmp_ge (tgt := 87) hx hb dX9_playedFrom_80 rfl (fun c25 => ?_) (fun c25 => ?_)
            · replace hf := ifp c25 hf
              exact hK2 _ _ _ _ (B87 _ ih v3 v4 v5 t16 g11 g12 g17 g14 hf) _ _ _ h (lv_sub hl [2, 3, 4, 5, 6, 7, 0] rfl)
            · replace hf := ifn c25 hf
              exact hK2 _ _ _ _ (B83 _ ih v3 v4 v5 t16 g11 g12 g17 g14 hf) _ _ _ h (lv_sub hl [2, 3, 4, 5, 6, 7, 0] rfl)
          · replace hf := ifp c24 hf
            refine lv_iload hx hb dX9_playedFrom_68 (lv_at hl 0 rfl) ?_
            refine lv_iload_n hx hb dX9_playedFrom_70 rfl (lv_at hl 5 rfl) ?_
            refine lv_icmp_le (tgt := 87) hx hb dX9_playedFrom_71 rfl (fun c26 => ?_) (fun c26 => ?_)
            · replace hf := ifp c26 hf
              exact hK2 _ _ _ _ (B87 _ ih v3 v4 v5 t16 g11 g12 g17 g14 hf) _ _ _ h (lv_sub hl [2, 3, 4, 5, 6, 7, 0] rfl)
            · replace hf := ifn c26 hf
              refine lv_goto (tgt := 83) hx hb dX9_playedFrom_74 rfl ?_
              exact hK2 _ _ _ _ (B83 _ ih v3 v4 v5 t16 g11 g12 g17 g14 hf) _ _ _ h (lv_sub hl [2, 3, 4, 5, 6, 7, 0] rfl)
  refine lv_iload_n hx hb dX9_playedFrom_0 rfl (lv_at hl 1 rfl) ?_
  refine lv_iload_n hx hb dX9_playedFrom_1 rfl (lv_at hl 2 rfl) ?_
  refine lv_icmp_ne (tgt := 7) hx hb dX9_playedFrom_2 rfl (fun c1 => ?_) (fun c1 => ?_)
  · replace hf := ifn c1 hf
    refine lv_aload_n hx hb dX9_playedFrom_7 rfl (lv_at hl 0 rfl) ?_
    refine lv_iload_n hx hb dX9_playedFrom_8 rfl (lv_at hl 1 rfl) ?_
    replace hf := bd1_inv hf
    obtain ⟨g2, hc3, hf⟩ := hf
    refine r_cvV (ws' := [(h_this, ob 9 [.ref h_this_s, .ref h_this_kept, .ref h_this_laid, .int x_this_isKept, .ref h_this_pile, .ref h_this_tape, .int x_this_taped, .ref h_this_letters, .int x_this_at, .int x_this_begun, .int x_this_token, .int x_this_value, .int x_this_opened, .int x_this_steps, .ref h_this_code0, .ref h_this_read, .ref h_this_saved, .ref h_this_plan, .ref h_this_bestPlan, .int x_this_most, .int x_this_many, .int x_this_few, .int x_this_everHome, .ref h_this_offThen, .ref h_this_paidThen, .int x_this_firstFit, .ref h_this_rows, .int x_this_rowMany, .ref h_this_sorts, .ref h_this_sizes, .ref h_this_number, .ref h_this_holds, .ref h_this_heldOne, .ref h_this_trace, .int x_this_traced, .int x_this_own, .int x_this_isParted]), (h_this_pile, ia G 200 f_this_pile), (h_this_plan, ia G 4 f_this_plan), (h_this_s, ia G 313 f_this_s), (h_this_saved, ia G 325 g2)]) C h (c_X9_saves hc3) mv_X9_278 rfl 0 rfl [0, 3, 4] rfl rfl [4] [(h_this_saved, ia G 325 g2)] rfl rfl (by decide +kernel) rfl hl.1 rfl (Nat.le_of_ble_eq_true rfl) (rok (by omega)) dX9_playedFrom_9 (fun H locs h => ?_)
    refine lv_iconst (v := (0 : Int32)) hx hb dX9_playedFrom_12 rfl ?_
    refine lv_istore_n (lv' := [(3, .int (0 : Int32)), (0, .ref h_this), (1, .int p0), (2, .int p1)]) hx hb dX9_playedFrom_13 rfl hl (by decide) rfl (fun ls hl => ?_)
    refine lv_iconst (v := (-1 : Int32)) hx hb dX9_playedFrom_14 rfl ?_
    refine lv_istore (lv' := [(4, .int (-1 : Int32)), (3, .int (0 : Int32)), (0, .ref h_this), (1, .int p0), (2, .int p1)]) hx hb dX9_playedFrom_15 hl (by decide) rfl (fun ls hl => ?_)
    refine lv_iconst (v := (0 : Int32)) hx hb dX9_playedFrom_17 rfl ?_
    refine lv_istore (lv' := [(5, .int (0 : Int32)), (4, .int (-1 : Int32)), (3, .int (0 : Int32)), (0, .ref h_this), (1, .int p0), (2, .int p1)]) hx hb dX9_playedFrom_18 hl (by decide) rfl (fun ls hl => ?_)
    exact hK2 _ _ _ _ (L20 1000 (0 : Int32) (-1 : Int32) (0 : Int32) f_this_pile f_this_plan f_this_s g2 hf) _ _ _ h (lv_sub hl [3, 4, 5, 2, 1, 0] rfl)
  · replace hf := ifp c1 hf
    refine lv_iconst (v := (0 : Int32)) hx hb dX9_playedFrom_5 rfl ?_
    cases hf
    exact r_iret C h hr hlk rfl dX9_playedFrom_6
theorem C_X9_playedFrom {l : Launch} {G : Gt} (d : Nat) : ∀ {h_this h_this_s h_this_kept h_this_laid h_this_pile h_this_tape h_this_letters h_this_code0 h_this_read h_this_saved h_this_plan h_this_bestPlan h_this_offThen h_this_paidThen h_this_rows h_this_sorts h_this_sizes h_this_number h_this_holds h_this_heldOne h_this_trace : Nat} {p0 : Int32} {p1 : Int32} {x_this_isKept : Int32} {x_this_taped : Int32} {x_this_at : Int32} {x_this_begun : Int32} {x_this_token : Int32} {x_this_value : Int32} {x_this_opened : Int32} {x_this_steps : Int32} {x_this_most : Int32} {x_this_many : Int32} {x_this_few : Int32} {x_this_everHome : Int32} {x_this_firstFit : Int32} {x_this_rowMany : Int32} {x_this_traced : Int32} {x_this_own : Int32} {x_this_isParted : Int32} {f_this_pile : Nat → Int32} {f_this_plan : Nat → Int32} {f_this_s : Nat → Int32} {f_this_saved : Nat → Int32} {r : Int32} {m_this_pile : Nat → Int32} {m_this_plan : Nat → Int32} {m_this_s : Nat → Int32} {m_this_saved : Nat → Int32} , F_X9_playedFrom d p0 p1 f_this_pile f_this_plan f_this_s f_this_saved = some (r, m_this_pile, m_this_plan, m_this_s, m_this_saved) → mFi l G yX9_playedFrom cX9_playedFrom 9 .int (d * 7) [.ref h_this, .int p0, .int p1] [(h_this, ob 9 [.ref h_this_s, .ref h_this_kept, .ref h_this_laid, .int x_this_isKept, .ref h_this_pile, .ref h_this_tape, .int x_this_taped, .ref h_this_letters, .int x_this_at, .int x_this_begun, .int x_this_token, .int x_this_value, .int x_this_opened, .int x_this_steps, .ref h_this_code0, .ref h_this_read, .ref h_this_saved, .ref h_this_plan, .ref h_this_bestPlan, .int x_this_most, .int x_this_many, .int x_this_few, .int x_this_everHome, .ref h_this_offThen, .ref h_this_paidThen, .int x_this_firstFit, .ref h_this_rows, .int x_this_rowMany, .ref h_this_sorts, .ref h_this_sizes, .ref h_this_number, .ref h_this_holds, .ref h_this_heldOne, .ref h_this_trace, .int x_this_traced, .int x_this_own, .int x_this_isParted]), (h_this_pile, ia G 200 f_this_pile), (h_this_plan, ia G 4 f_this_plan), (h_this_s, ia G 313 f_this_s), (h_this_saved, ia G 325 f_this_saved)] r [(h_this, ob 9 [.ref h_this_s, .ref h_this_kept, .ref h_this_laid, .int x_this_isKept, .ref h_this_pile, .ref h_this_tape, .int x_this_taped, .ref h_this_letters, .int x_this_at, .int x_this_begun, .int x_this_token, .int x_this_value, .int x_this_opened, .int x_this_steps, .ref h_this_code0, .ref h_this_read, .ref h_this_saved, .ref h_this_plan, .ref h_this_bestPlan, .int x_this_most, .int x_this_many, .int x_this_few, .int x_this_everHome, .ref h_this_offThen, .ref h_this_paidThen, .int x_this_firstFit, .ref h_this_rows, .int x_this_rowMany, .ref h_this_sorts, .ref h_this_sizes, .ref h_this_number, .ref h_this_holds, .ref h_this_heldOne, .ref h_this_trace, .int x_this_traced, .int x_this_own, .int x_this_isParted]), (h_this_pile, ia G 200 m_this_pile), (h_this_plan, ia G 4 m_this_plan), (h_this_s, ia G 313 m_this_s), (h_this_saved, ia G 325 m_this_saved)] := by
  induction d with
  | zero =>
    intros
    rename_i hf
    replace hf : (none : Option _) = some _ := hf
    cases hf
  | succ d ih =>
    intros
    rename_i hf
    rw [Nat.succ_mul]
    exact c_X9_playedFrom (self := F_X9_playedFrom d) ih hf
set_option maxRecDepth 100000 in
set_option maxHeartbeats 4000000 in
theorem c_X9_game {l : Launch} {G : Gt} {h_this h_this_s h_this_kept h_this_laid h_this_pile h_this_tape h_this_letters h_this_code0 h_this_read h_this_saved h_this_plan h_this_bestPlan h_this_offThen h_this_paidThen h_this_rows h_this_sorts h_this_sizes h_this_number h_this_holds h_this_heldOne h_this_trace : Nat} {p0 : Int32} {x_this_isKept : Int32} {x_this_taped : Int32} {x_this_at : Int32} {x_this_begun : Int32} {x_this_token : Int32} {x_this_value : Int32} {x_this_opened : Int32} {x_this_steps : Int32} {x_this_most : Int32} {x_this_many : Int32} {x_this_few : Int32} {x_this_everHome : Int32} {x_this_firstFit : Int32} {x_this_rowMany : Int32} {x_this_traced : Int32} {x_this_own : Int32} {x_this_isParted : Int32} {f_this_pile : Nat → Int32} {f_this_plan : Nat → Int32} {f_this_s : Nat → Int32} {f_this_saved : Nat → Int32} {r : Int32} {m_this_pile : Nat → Int32} {m_this_plan : Nat → Int32} {m_this_s : Nat → Int32} {m_this_saved : Nat → Int32} (hf : f_X9_game p0 f_this_pile f_this_plan f_this_s f_this_saved = some (r, m_this_pile, m_this_plan, m_this_s, m_this_saved)) : mFi l G yX9_game cX9_game 2 .int 43 [.ref h_this, .int p0] [(h_this, ob 9 [.ref h_this_s, .ref h_this_kept, .ref h_this_laid, .int x_this_isKept, .ref h_this_pile, .ref h_this_tape, .int x_this_taped, .ref h_this_letters, .int x_this_at, .int x_this_begun, .int x_this_token, .int x_this_value, .int x_this_opened, .int x_this_steps, .ref h_this_code0, .ref h_this_read, .ref h_this_saved, .ref h_this_plan, .ref h_this_bestPlan, .int x_this_most, .int x_this_many, .int x_this_few, .int x_this_everHome, .ref h_this_offThen, .ref h_this_paidThen, .int x_this_firstFit, .ref h_this_rows, .int x_this_rowMany, .ref h_this_sorts, .ref h_this_sizes, .ref h_this_number, .ref h_this_holds, .ref h_this_heldOne, .ref h_this_trace, .int x_this_traced, .int x_this_own, .int x_this_isParted]), (h_this_pile, ia G 200 f_this_pile), (h_this_plan, ia G 4 f_this_plan), (h_this_s, ia G 313 f_this_s), (h_this_saved, ia G 325 f_this_saved)] r [(h_this, ob 9 [.ref h_this_s, .ref h_this_kept, .ref h_this_laid, .int x_this_isKept, .ref h_this_pile, .ref h_this_tape, .int x_this_taped, .ref h_this_letters, .int x_this_at, .int x_this_begun, .int x_this_token, .int x_this_value, .int x_this_opened, .int x_this_steps, .ref h_this_code0, .ref h_this_read, .ref h_this_saved, .ref h_this_plan, .ref h_this_bestPlan, .int x_this_most, .int x_this_many, .int x_this_few, .int x_this_everHome, .ref h_this_offThen, .ref h_this_paidThen, .int x_this_firstFit, .ref h_this_rows, .int x_this_rowMany, .ref h_this_sorts, .ref h_this_sizes, .ref h_this_number, .ref h_this_holds, .ref h_this_heldOne, .ref h_this_trace, .int x_this_traced, .int x_this_own, .int x_this_isParted]), (h_this_pile, ia G 200 m_this_pile), (h_this_plan, ia G 4 m_this_plan), (h_this_s, ia G 313 m_this_s), (h_this_saved, ia G 325 m_this_saved)] := by
  refine mFi.of (by decide +kernel) (Nat.le_of_ble_eq_true rfl) ?_
  intro p e s m below meth c A C hr hlk h ls hl
  obtain ⟨hx, hb, hml, hown, hts⟩ := id C
  replace hl : lv_has ls 2 [(0, .ref h_this), (1, .int p0)] := hl
  unfold f_X9_game at hf
  refine lv_iload_n hx hb dX9_game_0 rfl (lv_at hl 1 rfl) ?_
  refine lv_iconst (v := (1 : Int32)) hx hb dX9_game_1 rfl ?_
  refine lv_iconst (v := (4 : Int32)) hx hb dX9_game_2 rfl ?_
  replace hf := bd1_inv hf
  obtain ⟨r1, hc2, hf⟩ := hf
  refine r_ciS0 C h (c_X9_in1 hc2) ms_X9_71 rfl [] rfl rfl hl.1 rfl (Nat.le_of_ble_eq_true rfl) (rok (by decide)) dX9_game_3 (fun H locs h => ?_)
  refine lv_if_eq (tgt := 22) hx hb dX9_game_6 rfl (fun c3 => ?_) (fun c3 => ?_)
  · replace hf := ifp c3 hf
    refine lv_iconst (v := (-1 : Int32)) hx hb dX9_game_22 rfl ?_
    cases hf
    exact r_iret C h hr hlk rfl dX9_game_23
  · replace hf := ifn c3 hf
    refine lv_aload_n hx hb dX9_game_9 rfl (lv_at hl 0 rfl) ?_
    refine lv_iconst (v := (0 : Int32)) hx hb dX9_game_10 rfl ?_
    refine lv_aload_n hx hb dX9_game_11 rfl (lv_at hl 0 rfl) ?_
    refine lv_iload_n hx hb dX9_game_12 rfl (lv_at hl 1 rfl) ?_
    replace hf := bd1_inv hf
    obtain ⟨r4, hc5, hf⟩ := hf
    refine r_ciV0 C h (c_X9_daysOf hc5) mv_X9_288 rfl 0 rfl [0, 3] rfl rfl hl.1 rfl (Nat.le_of_ble_eq_true rfl) (rok (by decide)) dX9_game_13 (fun H locs h => ?_)
    replace hf := bd5_inv hf
    obtain ⟨r6, g7, g8, g9, g10, hc11, hf⟩ := hf
    refine r_ciV (ws' := [(h_this, ob 9 [.ref h_this_s, .ref h_this_kept, .ref h_this_laid, .int x_this_isKept, .ref h_this_pile, .ref h_this_tape, .int x_this_taped, .ref h_this_letters, .int x_this_at, .int x_this_begun, .int x_this_token, .int x_this_value, .int x_this_opened, .int x_this_steps, .ref h_this_code0, .ref h_this_read, .ref h_this_saved, .ref h_this_plan, .ref h_this_bestPlan, .int x_this_most, .int x_this_many, .int x_this_few, .int x_this_everHome, .ref h_this_offThen, .ref h_this_paidThen, .int x_this_firstFit, .ref h_this_rows, .int x_this_rowMany, .ref h_this_sorts, .ref h_this_sizes, .ref h_this_number, .ref h_this_holds, .ref h_this_heldOne, .ref h_this_trace, .int x_this_traced, .int x_this_own, .int x_this_isParted]), (h_this_pile, ia G 200 g7), (h_this_plan, ia G 4 g8), (h_this_s, ia G 313 g9), (h_this_saved, ia G 325 g10)]) C h (C_X9_playedFrom 6 hc11) mv_X9_301 rfl 0 rfl [0, 1, 2, 3, 4] rfl rfl [1, 2, 3, 4] [(h_this_pile, ia G 200 g7), (h_this_plan, ia G 4 g8), (h_this_s, ia G 313 g9), (h_this_saved, ia G 325 g10)] rfl rfl (by decide +kernel) rfl hl.1 rfl (Nat.le_of_ble_eq_true rfl) (rok (by decide)) dX9_game_16 (fun H locs h => ?_)
    refine lv_goto (tgt := 23) hx hb dX9_game_19 rfl ?_
    cases hf
    exact r_iret C h hr hlk rfl dX9_game_23
set_option maxRecDepth 100000 in
set_option maxHeartbeats 4000000 in
theorem c_X9_play {l : Launch} {G : Gt} {h_this h_this_s h_this_kept h_this_laid h_this_pile h_this_tape h_this_letters h_this_code0 h_this_read h_this_saved h_this_plan h_this_bestPlan h_this_offThen h_this_paidThen h_this_rows h_this_sorts h_this_sizes h_this_number h_this_holds h_this_heldOne h_this_trace : Nat} {p0 : Int32} {x_this_isKept : Int32} {x_this_taped : Int32} {x_this_at : Int32} {x_this_begun : Int32} {x_this_token : Int32} {x_this_value : Int32} {x_this_opened : Int32} {x_this_steps : Int32} {x_this_most : Int32} {x_this_many : Int32} {x_this_few : Int32} {x_this_everHome : Int32} {x_this_firstFit : Int32} {x_this_rowMany : Int32} {x_this_traced : Int32} {x_this_own : Int32} {x_this_isParted : Int32} {f_this_pile : Nat → Int32} {f_this_plan : Nat → Int32} {f_this_s : Nat → Int32} {f_this_saved : Nat → Int32} {r : Int32} {m_this_pile : Nat → Int32} {m_this_plan : Nat → Int32} {m_this_s : Nat → Int32} {m_this_saved : Nat → Int32} (hf : f_X9_play p0 f_this_pile f_this_plan f_this_s f_this_saved = some (r, m_this_pile, m_this_plan, m_this_s, m_this_saved)) : mFi l G yX9_play cX9_play 3 .int 43 [.ref h_this, .int p0] [(h_this, ob 9 [.ref h_this_s, .ref h_this_kept, .ref h_this_laid, .int x_this_isKept, .ref h_this_pile, .ref h_this_tape, .int x_this_taped, .ref h_this_letters, .int x_this_at, .int x_this_begun, .int x_this_token, .int x_this_value, .int x_this_opened, .int x_this_steps, .ref h_this_code0, .ref h_this_read, .ref h_this_saved, .ref h_this_plan, .ref h_this_bestPlan, .int x_this_most, .int x_this_many, .int x_this_few, .int x_this_everHome, .ref h_this_offThen, .ref h_this_paidThen, .int x_this_firstFit, .ref h_this_rows, .int x_this_rowMany, .ref h_this_sorts, .ref h_this_sizes, .ref h_this_number, .ref h_this_holds, .ref h_this_heldOne, .ref h_this_trace, .int x_this_traced, .int x_this_own, .int x_this_isParted]), (h_this_pile, ia G 200 f_this_pile), (h_this_plan, ia G 4 f_this_plan), (h_this_s, ia G 313 f_this_s), (h_this_saved, ia G 325 f_this_saved)] r [(h_this, ob 9 [.ref h_this_s, .ref h_this_kept, .ref h_this_laid, .int x_this_isKept, .ref h_this_pile, .ref h_this_tape, .int x_this_taped, .ref h_this_letters, .int x_this_at, .int x_this_begun, .int x_this_token, .int x_this_value, .int x_this_opened, .int x_this_steps, .ref h_this_code0, .ref h_this_read, .ref h_this_saved, .ref h_this_plan, .ref h_this_bestPlan, .int x_this_most, .int x_this_many, .int x_this_few, .int x_this_everHome, .ref h_this_offThen, .ref h_this_paidThen, .int x_this_firstFit, .ref h_this_rows, .int x_this_rowMany, .ref h_this_sorts, .ref h_this_sizes, .ref h_this_number, .ref h_this_holds, .ref h_this_heldOne, .ref h_this_trace, .int x_this_traced, .int x_this_own, .int x_this_isParted]), (h_this_pile, ia G 200 m_this_pile), (h_this_plan, ia G 4 m_this_plan), (h_this_s, ia G 313 m_this_s), (h_this_saved, ia G 325 m_this_saved)] := by
  refine mFi.of (by decide +kernel) (Nat.le_of_ble_eq_true rfl) ?_
  intro p e s m below meth c A C hr hlk h ls hl
  obtain ⟨hx, hb, hml, hown, hts⟩ := id C
  replace hl : lv_has ls 3 [(0, .ref h_this), (1, .int p0)] := hl
  unfold f_X9_play at hf
  refine lv_iload_n hx hb dX9_play_0 rfl (lv_at hl 1 rfl) ?_
  refine lv_iconst (v := (1 : Int32)) hx hb dX9_play_1 rfl ?_
  refine lv_iconst (v := (4 : Int32)) hx hb dX9_play_2 rfl ?_
  replace hf := bd1_inv hf
  obtain ⟨r1, hc2, hf⟩ := hf
  refine r_ciS0 C h (c_X9_in1 hc2) ms_X9_71 rfl [] rfl rfl hl.1 rfl (Nat.le_of_ble_eq_true rfl) (rok (by decide)) dX9_play_3 (fun H locs h => ?_)
  refine lv_if_ne (tgt := 11) hx hb dX9_play_6 rfl (fun c3 => ?_) (fun c3 => ?_)
  · replace hf := ifn c3 hf
    refine lv_aload_n hx hb dX9_play_11 rfl (lv_at hl 0 rfl) ?_
    replace hf := bd1_inv hf
    obtain ⟨r4, hc5, hf⟩ := hf
    refine r_ciV0 C h (c_X9_isOver hc5) mv_X9_232 rfl 0 rfl [0, 3] rfl rfl hl.1 rfl (Nat.le_of_ble_eq_true rfl) (rok (by decide)) dX9_play_12 (fun H locs h => ?_)
    refine lv_if_eq (tgt := 21) hx hb dX9_play_15 rfl (fun c6 => ?_) (fun c6 => ?_)
    · replace hf := ifp c6 hf
      refine lv_aload_n hx hb dX9_play_21 rfl (lv_at hl 0 rfl) ?_
      refine lv_iconst (v := (0 : Int32)) hx hb dX9_play_22 rfl ?_
      refine lv_aload_n hx hb dX9_play_23 rfl (lv_at hl 0 rfl) ?_
      refine lv_iload_n hx hb dX9_play_24 rfl (lv_at hl 1 rfl) ?_
      replace hf := bd1_inv hf
      obtain ⟨r7, hc8, hf⟩ := hf
      refine r_ciV0 C h (c_X9_daysOf hc8) mv_X9_288 rfl 0 rfl [0, 3] rfl rfl hl.1 rfl (Nat.le_of_ble_eq_true rfl) (rok (by decide)) dX9_play_25 (fun H locs h => ?_)
      replace hf := bd5_inv hf
      obtain ⟨r9, g10, g11, g12, g13, hc14, hf⟩ := hf
      refine r_ciV (ws' := [(h_this, ob 9 [.ref h_this_s, .ref h_this_kept, .ref h_this_laid, .int x_this_isKept, .ref h_this_pile, .ref h_this_tape, .int x_this_taped, .ref h_this_letters, .int x_this_at, .int x_this_begun, .int x_this_token, .int x_this_value, .int x_this_opened, .int x_this_steps, .ref h_this_code0, .ref h_this_read, .ref h_this_saved, .ref h_this_plan, .ref h_this_bestPlan, .int x_this_most, .int x_this_many, .int x_this_few, .int x_this_everHome, .ref h_this_offThen, .ref h_this_paidThen, .int x_this_firstFit, .ref h_this_rows, .int x_this_rowMany, .ref h_this_sorts, .ref h_this_sizes, .ref h_this_number, .ref h_this_holds, .ref h_this_heldOne, .ref h_this_trace, .int x_this_traced, .int x_this_own, .int x_this_isParted]), (h_this_pile, ia G 200 g10), (h_this_plan, ia G 4 g11), (h_this_s, ia G 313 g12), (h_this_saved, ia G 325 g13)]) C h (C_X9_playedFrom 6 hc14) mv_X9_301 rfl 0 rfl [0, 1, 2, 3, 4] rfl rfl [1, 2, 3, 4] [(h_this_pile, ia G 200 g10), (h_this_plan, ia G 4 g11), (h_this_s, ia G 313 g12), (h_this_saved, ia G 325 g13)] rfl rfl (by decide +kernel) rfl hl.1 rfl (Nat.le_of_ble_eq_true rfl) (rok (by decide)) dX9_play_28 (fun H locs h => ?_)
      refine lv_istore_n (lv' := [(2, .int r9), (0, .ref h_this), (1, .int p0)]) hx hb dX9_play_31 rfl hl (by decide) rfl (fun ls hl => ?_)
      refine lv_iload_n hx hb dX9_play_32 rfl (lv_at hl 0 rfl) ?_
      refine lv_if_ge (tgt := 41) hx hb dX9_play_33 rfl (fun c15 => ?_) (fun c15 => ?_)
      · replace hf := ifp c15 hf
        refine lv_aload_n hx hb dX9_play_41 rfl (lv_at hl 1 rfl) ?_
        refine r_get C h fk_X9_38 0 rfl rfl dX9_play_42 ?_
        refine lv_iconst (v := (0 : Int32)) hx hb dX9_play_45 rfl ?_
        refine r_ialdL C h 2 rfl (vlit rfl) 0 rfl dX9_play_46 ?_
        cases hf
        exact r_iret C h hr hlk rfl dX9_play_47
      · replace hf := ifn c15 hf
        refine lv_bipush (v := (-3 : Int32)) hx hb dX9_play_36 rfl ?_
        refine lv_goto (tgt := 47) hx hb dX9_play_38 rfl ?_
        cases hf
        exact r_iret C h hr hlk rfl dX9_play_47
    · replace hf := ifn c6 hf
      refine lv_bipush (v := (-3 : Int32)) hx hb dX9_play_18 rfl ?_
      cases hf
      exact r_iret C h hr hlk rfl dX9_play_20
  · replace hf := ifp c3 hf
    refine lv_iconst (v := (-1 : Int32)) hx hb dX9_play_9 rfl ?_
    cases hf
    exact r_iret C h hr hlk rfl dX9_play_10
set_option maxRecDepth 100000 in
set_option maxHeartbeats 4000000 in
theorem c_X9_report {l : Launch} {G : Gt} {h_this h_this_s h_this_kept h_this_laid h_this_pile h_this_tape h_this_letters h_this_code0 h_this_read h_this_saved h_this_plan h_this_bestPlan h_this_offThen h_this_paidThen h_this_rows h_this_sorts h_this_sizes h_this_number h_this_holds h_this_heldOne h_this_trace : Nat} {p0 : Int32} {p1 : Int32} {p2 : Int32} {p3 : Int32} {x_this_isKept : Int32} {x_this_taped : Int32} {x_this_at : Int32} {x_this_begun : Int32} {x_this_token : Int32} {x_this_value : Int32} {x_this_opened : Int32} {x_this_steps : Int32} {x_this_most : Int32} {x_this_many : Int32} {x_this_few : Int32} {x_this_everHome : Int32} {x_this_firstFit : Int32} {x_this_rowMany : Int32} {x_this_traced : Int32} {x_this_own : Int32} {x_this_isParted : Int32} {f_this_s : Nat → Int32} {r : Int32} {m_this_s : Nat → Int32} (hf : f_X9_report p0 p1 p2 p3 f_this_s = some (r, m_this_s)) : mFi l G yX9_report cX9_report 7 .int 1 [.ref h_this, .int p0, .int p1, .int p2, .int p3] [(h_this, ob 9 [.ref h_this_s, .ref h_this_kept, .ref h_this_laid, .int x_this_isKept, .ref h_this_pile, .ref h_this_tape, .int x_this_taped, .ref h_this_letters, .int x_this_at, .int x_this_begun, .int x_this_token, .int x_this_value, .int x_this_opened, .int x_this_steps, .ref h_this_code0, .ref h_this_read, .ref h_this_saved, .ref h_this_plan, .ref h_this_bestPlan, .int x_this_most, .int x_this_many, .int x_this_few, .int x_this_everHome, .ref h_this_offThen, .ref h_this_paidThen, .int x_this_firstFit, .ref h_this_rows, .int x_this_rowMany, .ref h_this_sorts, .ref h_this_sizes, .ref h_this_number, .ref h_this_holds, .ref h_this_heldOne, .ref h_this_trace, .int x_this_traced, .int x_this_own, .int x_this_isParted]), (h_this_s, ia G 313 f_this_s)] r [(h_this, ob 9 [.ref h_this_s, .ref h_this_kept, .ref h_this_laid, .int x_this_isKept, .ref h_this_pile, .ref h_this_tape, .int x_this_taped, .ref h_this_letters, .int x_this_at, .int x_this_begun, .int x_this_token, .int x_this_value, .int x_this_opened, .int x_this_steps, .ref h_this_code0, .ref h_this_read, .ref h_this_saved, .ref h_this_plan, .ref h_this_bestPlan, .int x_this_most, .int x_this_many, .int x_this_few, .int x_this_everHome, .ref h_this_offThen, .ref h_this_paidThen, .int x_this_firstFit, .ref h_this_rows, .int x_this_rowMany, .ref h_this_sorts, .ref h_this_sizes, .ref h_this_number, .ref h_this_holds, .ref h_this_heldOne, .ref h_this_trace, .int x_this_traced, .int x_this_own, .int x_this_isParted]), (h_this_s, ia G 313 m_this_s)] := by
  refine mFi.of (by decide +kernel) (Nat.le_of_ble_eq_true rfl) ?_
  intro p e s m below meth c A C hr hlk h ls hl
  obtain ⟨hx, hb, hml, hown, hts⟩ := id C
  replace hl : lv_has ls 7 [(0, .ref h_this), (1, .int p0), (2, .int p1), (3, .int p2), (4, .int p3)] := hl
  unfold f_X9_report at hf
  refine with_K G A 7 (fun K hK1 hK2 => ?_)
  have B11 : ∀ (s0 : Int32), f_X9_report_b11 p0 p1 p2 p3 f_this_s s0 = some (r, m_this_s) → K 11 [.int s0] [(h_this, ob 9 [.ref h_this_s, .ref h_this_kept, .ref h_this_laid, .int x_this_isKept, .ref h_this_pile, .ref h_this_tape, .int x_this_taped, .ref h_this_letters, .int x_this_at, .int x_this_begun, .int x_this_token, .int x_this_value, .int x_this_opened, .int x_this_steps, .ref h_this_code0, .ref h_this_read, .ref h_this_saved, .ref h_this_plan, .ref h_this_bestPlan, .int x_this_most, .int x_this_many, .int x_this_few, .int x_this_everHome, .ref h_this_offThen, .ref h_this_paidThen, .int x_this_firstFit, .ref h_this_rows, .int x_this_rowMany, .ref h_this_sorts, .ref h_this_sizes, .ref h_this_number, .ref h_this_holds, .ref h_this_heldOne, .ref h_this_trace, .int x_this_traced, .int x_this_own, .int x_this_isParted]), (h_this_s, ia G 313 f_this_s)] [(0, .ref h_this), (1, .int p0), (2, .int p1), (3, .int p2), (4, .int p3)] := by
    intro s0 hf
    unfold f_X9_report_b11 at hf
    refine hK1 _ _ _ _ (fun H locs ls h hl => ?_)
    refine lv_istore (lv' := [(5, .int s0), (0, .ref h_this), (1, .int p0), (2, .int p1), (3, .int p2), (4, .int p3)]) hx hb dX9_report_11 hl (by decide) rfl (fun ls hl => ?_)
    refine lv_iload_n hx hb dX9_report_13 rfl (lv_at hl 2 rfl) ?_
    refine lv_iconst (v := (0 : Int32)) hx hb dX9_report_14 rfl ?_
    refine lv_bipush (v := (15 : Int32)) hx hb dX9_report_15 rfl ?_
    replace hf := bd1_inv hf
    obtain ⟨r2, hc3, hf⟩ := hf
    refine r_ciS0 C h (c_X9_in1 hc3) ms_X9_71 rfl [] rfl rfl hl.1 rfl (Nat.le_of_ble_eq_true rfl) (rok (by decide)) dX9_report_17 (fun H locs h => ?_)
    refine lv_if_eq (tgt := 53) hx hb dX9_report_20 rfl (fun c4 => ?_) (fun c4 => ?_)
    · replace hf := ifp c4 hf
      refine lv_iconst (v := (-1 : Int32)) hx hb dX9_report_53 rfl ?_
      cases hf
      exact r_iret C h hr hlk rfl dX9_report_54
    · replace hf := ifn c4 hf
      refine lv_iload_n hx hb dX9_report_23 rfl (lv_at hl 3 rfl) ?_
      refine lv_iconst (v := (0 : Int32)) hx hb dX9_report_24 rfl ?_
      refine lv_iconst (v := (1 : Int32)) hx hb dX9_report_25 rfl ?_
      replace hf := bd1_inv hf
      obtain ⟨r5, hc6, hf⟩ := hf
      refine r_ciS0 C h (c_X9_in1 hc6) ms_X9_71 rfl [] rfl rfl hl.1 rfl (Nat.le_of_ble_eq_true rfl) (rok (by decide)) dX9_report_26 (fun H locs h => ?_)
      refine lv_if_eq (tgt := 53) hx hb dX9_report_29 rfl (fun c7 => ?_) (fun c7 => ?_)
      · replace hf := ifp c7 hf
        refine lv_iconst (v := (-1 : Int32)) hx hb dX9_report_53 rfl ?_
        cases hf
        exact r_iret C h hr hlk rfl dX9_report_54
      · replace hf := ifn c7 hf
        refine lv_iload_n hx hb dX9_report_32 rfl (lv_at hl 4 rfl) ?_
        refine lv_iconst (v := (0 : Int32)) hx hb dX9_report_33 rfl ?_
        refine lv_iload hx hb dX9_report_34 (lv_at hl 0 rfl) ?_
        replace hf := bd1_inv hf
        obtain ⟨r8, hc9, hf⟩ := hf
        refine r_ciS0 C h (c_X9_in1 hc9) ms_X9_71 rfl [] rfl rfl hl.1 rfl (Nat.le_of_ble_eq_true rfl) (rok (by decide)) dX9_report_36 (fun H locs h => ?_)
        refine lv_if_eq (tgt := 53) hx hb dX9_report_39 rfl (fun c10 => ?_) (fun c10 => ?_)
        · replace hf := ifp c10 hf
          refine lv_iconst (v := (-1 : Int32)) hx hb dX9_report_53 rfl ?_
          cases hf
          exact r_iret C h hr hlk rfl dX9_report_54
        · replace hf := ifn c10 hf
          refine lv_iload hx hb dX9_report_42 (lv_at hl 5 rfl) ?_
          refine lv_iload_n hx hb dX9_report_44 rfl (lv_at hl 4 rfl) ?_
          refine lv_iload hx hb dX9_report_45 (lv_at hl 0 rfl) ?_
          replace hf := bd1_inv hf
          obtain ⟨r11, hc12, hf⟩ := hf
          refine r_ciS0 C h (c_X9_in1 hc12) ms_X9_71 rfl [] rfl rfl hl.1 rfl (Nat.le_of_ble_eq_true rfl) (rok (by decide)) dX9_report_47 (fun H locs h => ?_)
          refine lv_if_ne (tgt := 55) hx hb dX9_report_50 rfl (fun c13 => ?_) (fun c13 => ?_)
          · replace hf := ifn c13 hf
            refine lv_aload_n hx hb dX9_report_55 rfl (lv_at hl 1 rfl) ?_
            refine r_get C h fk_X9_9 0 rfl rfl dX9_report_56 ?_
            refine lv_bipush (v := (6 : Int32)) hx hb dX9_report_59 rfl ?_
            refine r_ialdL C h 1 rfl (vlit rfl) 6 rfl dX9_report_61 ?_
            refine lv_bipush (v := (6 : Int32)) hx hb dX9_report_62 rfl ?_
            refine lv_icmp_ne (tgt := 70) hx hb dX9_report_64 rfl (fun c14 => ?_) (fun c14 => ?_)
            · replace hf := ifn c14 hf
              refine lv_bipush (v := (65 : Int32)) hx hb dX9_report_70 rfl ?_
              refine lv_iconst (v := (4 : Int32)) hx hb dX9_report_72 rfl ?_
              refine lv_aload_n hx hb dX9_report_73 rfl (lv_at hl 1 rfl) ?_
              refine r_get C h fk_X9_9 0 rfl rfl dX9_report_74 ?_
              refine lv_bipush (v := (6 : Int32)) hx hb dX9_report_77 rfl ?_
              refine r_ialdL C h 1 rfl (vlit rfl) 6 rfl dX9_report_79 ?_
              refine lv_imul hx hb dX9_report_80 ?_
              refine lv_iadd hx hb dX9_report_81 ?_
              refine lv_topi (fun t15 et15 => ?_)
              replace hf := lt1_inv et15 hf
              refine lv_istore (lv' := [(6, .int t15), (5, .int s0), (0, .ref h_this), (1, .int p0), (2, .int p1), (3, .int p2), (4, .int p3)]) hx hb dX9_report_82 hl (by decide) rfl (fun ls hl => ?_)
              refine lv_aload_n hx hb dX9_report_84 rfl (lv_at hl 2 rfl) ?_
              refine r_get C h fk_X9_9 0 rfl rfl dX9_report_85 ?_
              refine lv_iload hx hb dX9_report_88 (lv_at hl 0 rfl) ?_
              refine lv_iload_n hx hb dX9_report_90 rfl (lv_at hl 3 rfl) ?_
              replace hf := chkI_inv hf
              obtain ⟨hi16, hf⟩ := hf
              refine r_iast (ws' := [(h_this, ob 9 [.ref h_this_s, .ref h_this_kept, .ref h_this_laid, .int x_this_isKept, .ref h_this_pile, .ref h_this_tape, .int x_this_taped, .ref h_this_letters, .int x_this_at, .int x_this_begun, .int x_this_token, .int x_this_value, .int x_this_opened, .int x_this_steps, .ref h_this_code0, .ref h_this_read, .ref h_this_saved, .ref h_this_plan, .ref h_this_bestPlan, .int x_this_most, .int x_this_many, .int x_this_few, .int x_this_everHome, .ref h_this_offThen, .ref h_this_paidThen, .int x_this_firstFit, .ref h_this_rows, .int x_this_rowMany, .ref h_this_sorts, .ref h_this_sizes, .ref h_this_number, .ref h_this_holds, .ref h_this_heldOne, .ref h_this_trace, .int x_this_traced, .int x_this_own, .int x_this_isParted]), (h_this_s, ia G 313 (upd f_this_s t15.toNatClampNeg p0))]) C h 1 rfl hi16 dX9_report_91 rfl (fun H locs h => ?_)
              refine lv_aload_n hx hb dX9_report_92 rfl (lv_at hl 2 rfl) ?_
              refine r_get C h fk_X9_9 0 rfl rfl dX9_report_93 ?_
              refine lv_iload hx hb dX9_report_96 (lv_at hl 0 rfl) ?_
              refine lv_iconst (v := (1 : Int32)) hx hb dX9_report_98 rfl ?_
              refine lv_iadd hx hb dX9_report_99 ?_
              refine lv_iload_n hx hb dX9_report_100 rfl (lv_at hl 4 rfl) ?_
              replace hf := chkI_inv hf
              obtain ⟨hi17, hf⟩ := hf
              refine r_iast (ws' := [(h_this, ob 9 [.ref h_this_s, .ref h_this_kept, .ref h_this_laid, .int x_this_isKept, .ref h_this_pile, .ref h_this_tape, .int x_this_taped, .ref h_this_letters, .int x_this_at, .int x_this_begun, .int x_this_token, .int x_this_value, .int x_this_opened, .int x_this_steps, .ref h_this_code0, .ref h_this_read, .ref h_this_saved, .ref h_this_plan, .ref h_this_bestPlan, .int x_this_most, .int x_this_many, .int x_this_few, .int x_this_everHome, .ref h_this_offThen, .ref h_this_paidThen, .int x_this_firstFit, .ref h_this_rows, .int x_this_rowMany, .ref h_this_sorts, .ref h_this_sizes, .ref h_this_number, .ref h_this_holds, .ref h_this_heldOne, .ref h_this_trace, .int x_this_traced, .int x_this_own, .int x_this_isParted]), (h_this_s, ia G 313 (upd (upd f_this_s t15.toNatClampNeg p0) (t15 + (1 : Int32)).toNatClampNeg p1))]) C h 1 rfl hi17 dX9_report_101 rfl (fun H locs h => ?_)
              refine lv_aload_n hx hb dX9_report_102 rfl (lv_at hl 2 rfl) ?_
              refine r_get C h fk_X9_9 0 rfl rfl dX9_report_103 ?_
              refine lv_iload hx hb dX9_report_106 (lv_at hl 0 rfl) ?_
              refine lv_iconst (v := (2 : Int32)) hx hb dX9_report_108 rfl ?_
              refine lv_iadd hx hb dX9_report_109 ?_
              refine lv_iload_n hx hb dX9_report_110 rfl (lv_at hl 5 rfl) ?_
              replace hf := chkI_inv hf
              obtain ⟨hi18, hf⟩ := hf
              refine r_iast (ws' := [(h_this, ob 9 [.ref h_this_s, .ref h_this_kept, .ref h_this_laid, .int x_this_isKept, .ref h_this_pile, .ref h_this_tape, .int x_this_taped, .ref h_this_letters, .int x_this_at, .int x_this_begun, .int x_this_token, .int x_this_value, .int x_this_opened, .int x_this_steps, .ref h_this_code0, .ref h_this_read, .ref h_this_saved, .ref h_this_plan, .ref h_this_bestPlan, .int x_this_most, .int x_this_many, .int x_this_few, .int x_this_everHome, .ref h_this_offThen, .ref h_this_paidThen, .int x_this_firstFit, .ref h_this_rows, .int x_this_rowMany, .ref h_this_sorts, .ref h_this_sizes, .ref h_this_number, .ref h_this_holds, .ref h_this_heldOne, .ref h_this_trace, .int x_this_traced, .int x_this_own, .int x_this_isParted]), (h_this_s, ia G 313 (upd (upd (upd f_this_s t15.toNatClampNeg p0) (t15 + (1 : Int32)).toNatClampNeg p1) (t15 + (2 : Int32)).toNatClampNeg p2))]) C h 1 rfl hi18 dX9_report_111 rfl (fun H locs h => ?_)
              refine lv_aload_n hx hb dX9_report_112 rfl (lv_at hl 2 rfl) ?_
              refine r_get C h fk_X9_9 0 rfl rfl dX9_report_113 ?_
              refine lv_iload hx hb dX9_report_116 (lv_at hl 0 rfl) ?_
              refine lv_iconst (v := (3 : Int32)) hx hb dX9_report_118 rfl ?_
              refine lv_iadd hx hb dX9_report_119 ?_
              refine lv_iload hx hb dX9_report_120 (lv_at hl 6 rfl) ?_
              replace hf := chkI_inv hf
              obtain ⟨hi19, hf⟩ := hf
              refine r_iast (ws' := [(h_this, ob 9 [.ref h_this_s, .ref h_this_kept, .ref h_this_laid, .int x_this_isKept, .ref h_this_pile, .ref h_this_tape, .int x_this_taped, .ref h_this_letters, .int x_this_at, .int x_this_begun, .int x_this_token, .int x_this_value, .int x_this_opened, .int x_this_steps, .ref h_this_code0, .ref h_this_read, .ref h_this_saved, .ref h_this_plan, .ref h_this_bestPlan, .int x_this_most, .int x_this_many, .int x_this_few, .int x_this_everHome, .ref h_this_offThen, .ref h_this_paidThen, .int x_this_firstFit, .ref h_this_rows, .int x_this_rowMany, .ref h_this_sorts, .ref h_this_sizes, .ref h_this_number, .ref h_this_holds, .ref h_this_heldOne, .ref h_this_trace, .int x_this_traced, .int x_this_own, .int x_this_isParted]), (h_this_s, ia G 313 (upd (upd (upd (upd f_this_s t15.toNatClampNeg p0) (t15 + (1 : Int32)).toNatClampNeg p1) (t15 + (2 : Int32)).toNatClampNeg p2) (t15 + (3 : Int32)).toNatClampNeg p3))]) C h 1 rfl hi19 dX9_report_122 rfl (fun H locs h => ?_)
              refine lv_aload_n hx hb dX9_report_123 rfl (lv_at hl 2 rfl) ?_
              refine r_get C h fk_X9_9 0 rfl rfl dX9_report_124 ?_
              refine lv_bipush (v := (6 : Int32)) hx hb dX9_report_127 rfl ?_
              refine lv_dup2_11 hx hb dX9_report_129 rfl rfl ?_
              refine r_ialdL C h 1 rfl (vlit rfl) 6 rfl dX9_report_130 ?_
              refine lv_iconst (v := (1 : Int32)) hx hb dX9_report_131 rfl ?_
              refine lv_iadd hx hb dX9_report_132 ?_
              refine lv_topi (fun t20 et20 => ?_)
              replace hf := lt1_inv et20 hf
              refine r_iastL (ws' := [(h_this, ob 9 [.ref h_this_s, .ref h_this_kept, .ref h_this_laid, .int x_this_isKept, .ref h_this_pile, .ref h_this_tape, .int x_this_taped, .ref h_this_letters, .int x_this_at, .int x_this_begun, .int x_this_token, .int x_this_value, .int x_this_opened, .int x_this_steps, .ref h_this_code0, .ref h_this_read, .ref h_this_saved, .ref h_this_plan, .ref h_this_bestPlan, .int x_this_most, .int x_this_many, .int x_this_few, .int x_this_everHome, .ref h_this_offThen, .ref h_this_paidThen, .int x_this_firstFit, .ref h_this_rows, .int x_this_rowMany, .ref h_this_sorts, .ref h_this_sizes, .ref h_this_number, .ref h_this_holds, .ref h_this_heldOne, .ref h_this_trace, .int x_this_traced, .int x_this_own, .int x_this_isParted]), (h_this_s, ia G 313 (upd (upd (upd (upd (upd f_this_s t15.toNatClampNeg p0) (t15 + (1 : Int32)).toNatClampNeg p1) (t15 + (2 : Int32)).toNatClampNeg p2) (t15 + (3 : Int32)).toNatClampNeg p3) 6 t20))]) C h 1 rfl (vlit rfl) 6 rfl dX9_report_133 rfl (fun H locs h => ?_)
              refine lv_aload_n hx hb dX9_report_134 rfl (lv_at hl 2 rfl) ?_
              refine r_get C h fk_X9_9 0 rfl rfl dX9_report_135 ?_
              refine lv_bipush (v := (6 : Int32)) hx hb dX9_report_138 rfl ?_
              refine r_ialdL C h 1 rfl (vlit rfl) 6 rfl dX9_report_140 ?_
              refine lv_iconst (v := (1 : Int32)) hx hb dX9_report_141 rfl ?_
              refine lv_isub hx hb dX9_report_142 ?_
              cases hf
              exact r_iret C h hr hlk rfl dX9_report_143
            · replace hf := ifp c14 hf
              refine lv_bipush (v := (-2 : Int32)) hx hb dX9_report_67 rfl ?_
              cases hf
              exact r_iret C h hr hlk rfl dX9_report_69
          · replace hf := ifp c13 hf
            refine lv_iconst (v := (-1 : Int32)) hx hb dX9_report_53 rfl ?_
            cases hf
            exact r_iret C h hr hlk rfl dX9_report_54
  refine lv_iload_n hx hb dX9_report_0 rfl (lv_at hl 2 rfl) ?_
  refine lv_if_ne (tgt := 9) hx hb dX9_report_1 rfl (fun c1 => ?_) (fun c1 => ?_)
  · replace hf := ifn c1 hf
    refine lv_bipush (v := (16 : Int32)) hx hb dX9_report_9 rfl ?_
    exact hK2 _ _ _ _ (B11 (16 : Int32) hf) _ _ _ h (lv_sub hl [0, 1, 2, 3, 4] rfl)
  · replace hf := ifp c1 hf
    refine lv_bipush (v := (99 : Int32)) hx hb dX9_report_4 rfl ?_
    refine lv_goto (tgt := 11) hx hb dX9_report_6 rfl ?_
    exact hK2 _ _ _ _ (B11 (99 : Int32) hf) _ _ _ h (lv_sub hl [0, 1, 2, 3, 4] rfl)
