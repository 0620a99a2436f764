def f_X9_remake (p0 : Int32) (p1 : Int32) (f_this_s : Nat → Int32) : Option (Int32 × (Nat → Int32)) := bd1 (f_X9_isShip p0 f_this_s) (fun r1 => (if r1 = 0 then some ((-1 : Int32), f_this_s) else bd1 (f_X9_in1 p1 (1 : Int32) (5 : Int32)) (fun r4 => (if r4 = 0 then some ((-1 : Int32), f_this_s) else bd2 (f_X9_becomes ((35 : Int32) + ((5 : Int32) * p0)) p1 f_this_s) (fun r7 g8 => some (r7, g8))))))
set_option maxRecDepth 100000 in
set_option maxHeartbeats 4000000 in
theorem c_X9_remake {l : Launch} {G : Gt} {h_this h_this_s h_this_kept h_this_laid h_this_pile h_this_tape h_this_letters h_this_code0 h_this_read h_this_saved h_this_plan h_this_bestPlan h_this_offThen h_this_paidThen h_this_rows h_this_sorts h_this_sizes h_this_number h_this_holds h_this_heldOne h_this_trace : Nat} {p0 : Int32} {p1 : Int32} {x_this_isKept : Int32} {x_this_taped : Int32} {x_this_at : Int32} {x_this_begun : Int32} {x_this_token : Int32} {x_this_value : Int32} {x_this_opened : Int32} {x_this_steps : Int32} {x_this_most : Int32} {x_this_many : Int32} {x_this_few : Int32} {x_this_everHome : Int32} {x_this_firstFit : Int32} {x_this_rowMany : Int32} {x_this_traced : Int32} {x_this_own : Int32} {x_this_isParted : Int32} {f_this_s : Nat → Int32} {r : Int32} {m_this_s : Nat → Int32} (hf : f_X9_remake p0 p1 f_this_s = some (r, m_this_s)) : mFi l G yX9_remake cX9_remake 3 .int 2 [.ref h_this, .int p0, .int p1] [(h_this, ob 9 [.ref h_this_s, .ref h_this_kept, .ref h_this_laid, .int x_this_isKept, .ref h_this_pile, .ref h_this_tape, .int x_this_taped, .ref h_this_letters, .int x_this_at, .int x_this_begun, .int x_this_token, .int x_this_value, .int x_this_opened, .int x_this_steps, .ref h_this_code0, .ref h_this_read, .ref h_this_saved, .ref h_this_plan, .ref h_this_bestPlan, .int x_this_most, .int x_this_many, .int x_this_few, .int x_this_everHome, .ref h_this_offThen, .ref h_this_paidThen, .int x_this_firstFit, .ref h_this_rows, .int x_this_rowMany, .ref h_this_sorts, .ref h_this_sizes, .ref h_this_number, .ref h_this_holds, .ref h_this_heldOne, .ref h_this_trace, .int x_this_traced, .int x_this_own, .int x_this_isParted]), (h_this_s, ia G 313 f_this_s)] r [(h_this, ob 9 [.ref h_this_s, .ref h_this_kept, .ref h_this_laid, .int x_this_isKept, .ref h_this_pile, .ref h_this_tape, .int x_this_taped, .ref h_this_letters, .int x_this_at, .int x_this_begun, .int x_this_token, .int x_this_value, .int x_this_opened, .int x_this_steps, .ref h_this_code0, .ref h_this_read, .ref h_this_saved, .ref h_this_plan, .ref h_this_bestPlan, .int x_this_most, .int x_this_many, .int x_this_few, .int x_this_everHome, .ref h_this_offThen, .ref h_this_paidThen, .int x_this_firstFit, .ref h_this_rows, .int x_this_rowMany, .ref h_this_sorts, .ref h_this_sizes, .ref h_this_number, .ref h_this_holds, .ref h_this_heldOne, .ref h_this_trace, .int x_this_traced, .int x_this_own, .int x_this_isParted]), (h_this_s, ia G 313 m_this_s)] := by
  refine mFi.of (by decide +kernel) (Nat.le_of_ble_eq_true rfl) ?_
  intro p e s m below meth c A C hr hlk h ls hl
  obtain ⟨hx, hb, hml, hown, hts⟩ := id C
  replace hl : lv_has ls 3 [(0, .ref h_this), (1, .int p0), (2, .int p1)] := hl
  unfold f_X9_remake at hf
  refine lv_aload_n hx hb dX9_remake_0 rfl (lv_at hl 0 rfl) ?_
  refine lv_iload_n hx hb dX9_remake_1 rfl (lv_at hl 1 rfl) ?_
  replace hf := bd1_inv hf
  obtain ⟨r1, hc2, hf⟩ := hf
  refine r_ciV0 C h (c_X9_isShip hc2) mv_X9_226 rfl 0 rfl [0, 1] rfl rfl hl.1 rfl (Nat.le_of_ble_eq_true rfl) (rok (by decide)) dX9_remake_2 (fun H locs h => ?_)
  refine lv_if_eq (tgt := 31) hx hb dX9_remake_5 rfl (fun c3 => ?_) (fun c3 => ?_)
  · replace hf := ifp c3 hf
    refine lv_iconst (v := (-1 : Int32)) hx hb dX9_remake_31 rfl ?_
    cases hf
    exact r_iret C h hr hlk rfl dX9_remake_32
  · replace hf := ifn c3 hf
    refine lv_iload_n hx hb dX9_remake_8 rfl (lv_at hl 2 rfl) ?_
    refine lv_iconst (v := (1 : Int32)) hx hb dX9_remake_9 rfl ?_
    refine lv_iconst (v := (5 : Int32)) hx hb dX9_remake_10 rfl ?_
    replace hf := bd1_inv hf
    obtain ⟨r4, hc5, hf⟩ := hf
    refine r_ciS0 C h (c_X9_in1 hc5) ms_X9_71 rfl [] rfl rfl hl.1 rfl (Nat.le_of_ble_eq_true rfl) (rok (by decide)) dX9_remake_11 (fun H locs h => ?_)
    refine lv_if_eq (tgt := 31) hx hb dX9_remake_14 rfl (fun c6 => ?_) (fun c6 => ?_)
    · replace hf := ifp c6 hf
      refine lv_iconst (v := (-1 : Int32)) hx hb dX9_remake_31 rfl ?_
      cases hf
      exact r_iret C h hr hlk rfl dX9_remake_32
    · replace hf := ifn c6 hf
      refine lv_aload_n hx hb dX9_remake_17 rfl (lv_at hl 0 rfl) ?_
      refine lv_bipush (v := (35 : Int32)) hx hb dX9_remake_18 rfl ?_
      refine lv_iconst (v := (5 : Int32)) hx hb dX9_remake_20 rfl ?_
      refine lv_iload_n hx hb dX9_remake_21 rfl (lv_at hl 1 rfl) ?_
      refine lv_imul hx hb dX9_remake_22 ?_
      refine lv_iadd hx hb dX9_remake_23 ?_
      refine lv_iload_n hx hb dX9_remake_24 rfl (lv_at hl 2 rfl) ?_
      replace hf := bd2_inv hf
      obtain ⟨r7, g8, hc9, hf⟩ := hf
      refine r_ciV (ws' := [(h_this, ob 9 [.ref h_this_s, .ref h_this_kept, .ref h_this_laid, .int x_this_isKept, .ref h_this_pile, .ref h_this_tape, .int x_this_taped, .ref h_this_letters, .int x_this_at, .int x_this_begun, .int x_this_token, .int x_this_value, .int x_this_opened, .int x_this_steps, .ref h_this_code0, .ref h_this_read, .ref h_this_saved, .ref h_this_plan, .ref h_this_bestPlan, .int x_this_most, .int x_this_many, .int x_this_few, .int x_this_everHome, .ref h_this_offThen, .ref h_this_paidThen, .int x_this_firstFit, .ref h_this_rows, .int x_this_rowMany, .ref h_this_sorts, .ref h_this_sizes, .ref h_this_number, .ref h_this_holds, .ref h_this_heldOne, .ref h_this_trace, .int x_this_traced, .int x_this_own, .int x_this_isParted]), (h_this_s, ia G 313 g8)]) C h (c_X9_becomes hc9) mv_X9_229 rfl 0 rfl [0, 1] rfl rfl [1] [(h_this_s, ia G 313 g8)] rfl rfl (by decide +kernel) rfl hl.1 rfl (Nat.le_of_ble_eq_true rfl) (rok (by decide)) dX9_remake_25 (fun H locs h => ?_)
      refine lv_goto (tgt := 32) hx hb dX9_remake_28 rfl ?_
      cases hf
      exact r_iret C h hr hlk rfl dX9_remake_32
def f_X9_light (p0 : Int32) (p1 : Int32) (f_this_s : Nat → Int32) : Option (Int32 × (Nat → Int32)) := bd1 (f_X9_in1 p0 (0 : Int32) (15 : Int32)) (fun r1 => (if r1 = 0 then some ((-1 : Int32), f_this_s) else bd1 (f_X9_in1 p1 (0 : Int32) (15 : Int32)) (fun r4 => (if r4 = 0 then some ((-1 : Int32), f_this_s) else bd2 (f_X9_becomes ((7 : Int32) + p0) p1 f_this_s) (fun r7 g8 => some (r7, g8))))))
set_option maxRecDepth 100000 in
set_option maxHeartbeats 4000000 in
theorem c_X9_light {l : Launch} {G : Gt} {h_this h_this_s h_this_kept h_this_laid h_this_pile h_this_tape h_this_letters h_this_code0 h_this_read h_this_saved h_this_plan h_this_bestPlan h_this_offThen h_this_paidThen h_this_rows h_this_sorts h_this_sizes h_this_number h_this_holds h_this_heldOne h_this_trace : Nat} {p0 : Int32} {p1 : Int32} {x_this_isKept : Int32} {x_this_taped : Int32} {x_this_at : Int32} {x_this_begun : Int32} {x_this_token : Int32} {x_this_value : Int32} {x_this_opened : Int32} {x_this_steps : Int32} {x_this_most : Int32} {x_this_many : Int32} {x_this_few : Int32} {x_this_everHome : Int32} {x_this_firstFit : Int32} {x_this_rowMany : Int32} {x_this_traced : Int32} {x_this_own : Int32} {x_this_isParted : Int32} {f_this_s : Nat → Int32} {r : Int32} {m_this_s : Nat → Int32} (hf : f_X9_light p0 p1 f_this_s = some (r, m_this_s)) : mFi l G yX9_light cX9_light 3 .int 1 [.ref h_this, .int p0, .int p1] [(h_this, ob 9 [.ref h_this_s, .ref h_this_kept, .ref h_this_laid, .int x_this_isKept, .ref h_this_pile, .ref h_this_tape, .int x_this_taped, .ref h_this_letters, .int x_this_at, .int x_this_begun, .int x_this_token, .int x_this_value, .int x_this_opened, .int x_this_steps, .ref h_this_code0, .ref h_this_read, .ref h_this_saved, .ref h_this_plan, .ref h_this_bestPlan, .int x_this_most, .int x_this_many, .int x_this_few, .int x_this_everHome, .ref h_this_offThen, .ref h_this_paidThen, .int x_this_firstFit, .ref h_this_rows, .int x_this_rowMany, .ref h_this_sorts, .ref h_this_sizes, .ref h_this_number, .ref h_this_holds, .ref h_this_heldOne, .ref h_this_trace, .int x_this_traced, .int x_this_own, .int x_this_isParted]), (h_this_s, ia G 313 f_this_s)] r [(h_this, ob 9 [.ref h_this_s, .ref h_this_kept, .ref h_this_laid, .int x_this_isKept, .ref h_this_pile, .ref h_this_tape, .int x_this_taped, .ref h_this_letters, .int x_this_at, .int x_this_begun, .int x_this_token, .int x_this_value, .int x_this_opened, .int x_this_steps, .ref h_this_code0, .ref h_this_read, .ref h_this_saved, .ref h_this_plan, .ref h_this_bestPlan, .int x_this_most, .int x_this_many, .int x_this_few, .int x_this_everHome, .ref h_this_offThen, .ref h_this_paidThen, .int x_this_firstFit, .ref h_this_rows, .int x_this_rowMany, .ref h_this_sorts, .ref h_this_sizes, .ref h_this_number, .ref h_this_holds, .ref h_this_heldOne, .ref h_this_trace, .int x_this_traced, .int x_this_own, .int x_this_isParted]), (h_this_s, ia G 313 m_this_s)] := by
  refine mFi.of (by decide +kernel) (Nat.le_of_ble_eq_true rfl) ?_
  intro p e s m below meth c A C hr hlk h ls hl
  obtain ⟨hx, hb, hml, hown, hts⟩ := id C
  replace hl : lv_has ls 3 [(0, .ref h_this), (1, .int p0), (2, .int p1)] := hl
  unfold f_X9_light at hf
  refine lv_iload_n hx hb dX9_light_0 rfl (lv_at hl 1 rfl) ?_
  refine lv_iconst (v := (0 : Int32)) hx hb dX9_light_1 rfl ?_
  refine lv_bipush (v := (15 : Int32)) hx hb dX9_light_2 rfl ?_
  replace hf := bd1_inv hf
  obtain ⟨r1, hc2, hf⟩ := hf
  refine r_ciS0 C h (c_X9_in1 hc2) ms_X9_71 rfl [] rfl rfl hl.1 rfl (Nat.le_of_ble_eq_true rfl) (rok (by decide)) dX9_light_4 (fun H locs h => ?_)
  refine lv_if_eq (tgt := 32) hx hb dX9_light_7 rfl (fun c3 => ?_) (fun c3 => ?_)
  · replace hf := ifp c3 hf
    refine lv_iconst (v := (-1 : Int32)) hx hb dX9_light_32 rfl ?_
    cases hf
    exact r_iret C h hr hlk rfl dX9_light_33
  · replace hf := ifn c3 hf
    refine lv_iload_n hx hb dX9_light_10 rfl (lv_at hl 2 rfl) ?_
    refine lv_iconst (v := (0 : Int32)) hx hb dX9_light_11 rfl ?_
    refine lv_bipush (v := (15 : Int32)) hx hb dX9_light_12 rfl ?_
    replace hf := bd1_inv hf
    obtain ⟨r4, hc5, hf⟩ := hf
    refine r_ciS0 C h (c_X9_in1 hc5) ms_X9_71 rfl [] rfl rfl hl.1 rfl (Nat.le_of_ble_eq_true rfl) (rok (by decide)) dX9_light_14 (fun H locs h => ?_)
    refine lv_if_eq (tgt := 32) hx hb dX9_light_17 rfl (fun c6 => ?_) (fun c6 => ?_)
    · replace hf := ifp c6 hf
      refine lv_iconst (v := (-1 : Int32)) hx hb dX9_light_32 rfl ?_
      cases hf
      exact r_iret C h hr hlk rfl dX9_light_33
    · replace hf := ifn c6 hf
      refine lv_aload_n hx hb dX9_light_20 rfl (lv_at hl 0 rfl) ?_
      refine lv_bipush (v := (7 : Int32)) hx hb dX9_light_21 rfl ?_
      refine lv_iload_n hx hb dX9_light_23 rfl (lv_at hl 1 rfl) ?_
      refine lv_iadd hx hb dX9_light_24 ?_
      refine lv_iload_n hx hb dX9_light_25 rfl (lv_at hl 2 rfl) ?_
      replace hf := bd2_inv hf
      obtain ⟨r7, g8, hc9, hf⟩ := hf
      refine r_ciV (ws' := [(h_this, ob 9 [.ref h_this_s, .ref h_this_kept, .ref h_this_laid, .int x_this_isKept, .ref h_this_pile, .ref h_this_tape, .int x_this_taped, .ref h_this_letters, .int x_this_at, .int x_this_begun, .int x_this_token, .int x_this_value, .int x_this_opened, .int x_this_steps, .ref h_this_code0, .ref h_this_read, .ref h_this_saved, .ref h_this_plan, .ref h_this_bestPlan, .int x_this_most, .int x_this_many, .int x_this_few, .int x_this_everHome, .ref h_this_offThen, .ref h_this_paidThen, .int x_this_firstFit, .ref h_this_rows, .int x_this_rowMany, .ref h_this_sorts, .ref h_this_sizes, .ref h_this_number, .ref h_this_holds, .ref h_this_heldOne, .ref h_this_trace, .int x_this_traced, .int x_this_own, .int x_this_isParted]), (h_this_s, ia G 313 g8)]) C h (c_X9_becomes hc9) mv_X9_229 rfl 0 rfl [0, 1] rfl rfl [1] [(h_this_s, ia G 313 g8)] rfl rfl (by decide +kernel) rfl hl.1 rfl (Nat.le_of_ble_eq_true rfl) (rok (by decide)) dX9_light_26 (fun H locs h => ?_)
      refine lv_goto (tgt := 33) hx hb dX9_light_29 rfl ?_
      cases hf
      exact r_iret C h hr hlk rfl dX9_light_33
def f_X9_lane (p0 : Int32) (p1 : Int32) (p2 : Int32) (f_this_s : Nat → Int32) : Option (Int32 × (Nat → Int32)) := bd1 (f_X9_isLane p0) (fun r1 => (if r1 = 0 then some ((-1 : Int32), f_this_s) else bd1 (f_X9_in1 p1 (0 : Int32) (1 : Int32)) (fun r4 => (if r4 = 0 then some ((-1 : Int32), f_this_s) else bd1 (f_X9_isDigit p2) (fun r7 => (if r7 = 0 then some ((-1 : Int32), f_this_s) else (if p1 = 0 then bd2 (f_X9_becomes ((23 : Int32) + p0) p2 f_this_s) (fun r14 g15 => some (r14, g15)) else bd2 (f_X9_becomes ((29 : Int32) + p0) p2 f_this_s) (fun r11 g12 => some (r11, g12)))))))))
set_option maxRecDepth 100000 in
set_option maxHeartbeats 4000000 in
theorem c_X9_lane {l : Launch} {G : Gt} {h_this h_this_s h_this_kept h_this_laid h_this_pile h_this_tape h_this_letters h_this_code0 h_this_read h_this_saved h_this_plan h_this_bestPlan h_this_offThen h_this_paidThen h_this_rows h_this_sorts h_this_sizes h_this_number h_this_holds h_this_heldOne h_this_trace : Nat} {p0 : Int32} {p1 : Int32} {p2 : Int32} {x_this_isKept : Int32} {x_this_taped : Int32} {x_this_at : Int32} {x_this_begun : Int32} {x_this_token : Int32} {x_this_value : Int32} {x_this_opened : Int32} {x_this_steps : Int32} {x_this_most : Int32} {x_this_many : Int32} {x_this_few : Int32} {x_this_everHome : Int32} {x_this_firstFit : Int32} {x_this_rowMany : Int32} {x_this_traced : Int32} {x_this_own : Int32} {x_this_isParted : Int32} {f_this_s : Nat → Int32} {r : Int32} {m_this_s : Nat → Int32} (hf : f_X9_lane p0 p1 p2 f_this_s = some (r, m_this_s)) : mFi l G yX9_lane cX9_lane 4 .int 2 [.ref h_this, .int p0, .int p1, .int p2] [(h_this, ob 9 [.ref h_this_s, .ref h_this_kept, .ref h_this_laid, .int x_this_isKept, .ref h_this_pile, .ref h_this_tape, .int x_this_taped, .ref h_this_letters, .int x_this_at, .int x_this_begun, .int x_this_token, .int x_this_value, .int x_this_opened, .int x_this_steps, .ref h_this_code0, .ref h_this_read, .ref h_this_saved, .ref h_this_plan, .ref h_this_bestPlan, .int x_this_most, .int x_this_many, .int x_this_few, .int x_this_everHome, .ref h_this_offThen, .ref h_this_paidThen, .int x_this_firstFit, .ref h_this_rows, .int x_this_rowMany, .ref h_this_sorts, .ref h_this_sizes, .ref h_this_number, .ref h_this_holds, .ref h_this_heldOne, .ref h_this_trace, .int x_this_traced, .int x_this_own, .int x_this_isParted]), (h_this_s, ia G 313 f_this_s)] r [(h_this, ob 9 [.ref h_this_s, .ref h_this_kept, .ref h_this_laid, .int x_this_isKept, .ref h_this_pile, .ref h_this_tape, .int x_this_taped, .ref h_this_letters, .int x_this_at, .int x_this_begun, .int x_this_token, .int x_this_value, .int x_this_opened, .int x_this_steps, .ref h_this_code0, .ref h_this_read, .ref h_this_saved, .ref h_this_plan, .ref h_this_bestPlan, .int x_this_most, .int x_this_many, .int x_this_few, .int x_this_everHome, .ref h_this_offThen, .ref h_this_paidThen, .int x_this_firstFit, .ref h_this_rows, .int x_this_rowMany, .ref h_this_sorts, .ref h_this_sizes, .ref h_this_number, .ref h_this_holds, .ref h_this_heldOne, .ref h_this_trace, .int x_this_traced, .int x_this_own, .int x_this_isParted]), (h_this_s, ia G 313 m_this_s)] := by
  refine mFi.of (by decide +kernel) (Nat.le_of_ble_eq_true rfl) ?_
  intro p e s m below meth c A C hr hlk h ls hl
  obtain ⟨hx, hb, hml, hown, hts⟩ := id C
  replace hl : lv_has ls 4 [(0, .ref h_this), (1, .int p0), (2, .int p1), (3, .int p2)] := hl
  unfold f_X9_lane at hf
  refine lv_iload_n hx hb dX9_lane_0 rfl (lv_at hl 1 rfl) ?_
  replace hf := bd1_inv hf
  obtain ⟨r1, hc2, hf⟩ := hf
  refine r_ciS0 C h (c_X9_isLane hc2) ms_X9_223 rfl [] rfl rfl hl.1 rfl (Nat.le_of_ble_eq_true rfl) (rok (by decide)) dX9_lane_1 (fun H locs h => ?_)
  refine lv_if_eq (tgt := 44) hx hb dX9_lane_4 rfl (fun c3 => ?_) (fun c3 => ?_)
  · replace hf := ifp c3 hf
    refine lv_iconst (v := (-1 : Int32)) hx hb dX9_lane_44 rfl ?_
    cases hf
    exact r_iret C h hr hlk rfl dX9_lane_45
  · replace hf := ifn c3 hf
    refine lv_iload_n hx hb dX9_lane_7 rfl (lv_at hl 2 rfl) ?_
    refine lv_iconst (v := (0 : Int32)) hx hb dX9_lane_8 rfl ?_
    refine lv_iconst (v := (1 : Int32)) hx hb dX9_lane_9 rfl ?_
    replace hf := bd1_inv hf
    obtain ⟨r4, hc5, hf⟩ := hf
    refine r_ciS0 C h (c_X9_in1 hc5) ms_X9_71 rfl [] rfl rfl hl.1 rfl (Nat.le_of_ble_eq_true rfl) (rok (by decide)) dX9_lane_10 (fun H locs h => ?_)
    refine lv_if_eq (tgt := 44) hx hb dX9_lane_13 rfl (fun c6 => ?_) (fun c6 => ?_)
    · replace hf := ifp c6 hf
      refine lv_iconst (v := (-1 : Int32)) hx hb dX9_lane_44 rfl ?_
      cases hf
      exact r_iret C h hr hlk rfl dX9_lane_45
    · replace hf := ifn c6 hf
      refine lv_iload_n hx hb dX9_lane_16 rfl (lv_at hl 3 rfl) ?_
      replace hf := bd1_inv hf
      obtain ⟨r7, hc8, hf⟩ := hf
      refine r_ciS0 C h (c_X9_isDigit hc8) ms_X9_220 rfl [] rfl rfl hl.1 rfl (Nat.le_of_ble_eq_true rfl) (rok (by decide)) dX9_lane_17 (fun H locs h => ?_)
      refine lv_if_eq (tgt := 44) hx hb dX9_lane_20 rfl (fun c9 => ?_) (fun c9 => ?_)
      · replace hf := ifp c9 hf
        refine lv_iconst (v := (-1 : Int32)) hx hb dX9_lane_44 rfl ?_
        cases hf
        exact r_iret C h hr hlk rfl dX9_lane_45
      · replace hf := ifn c9 hf
        refine lv_aload_n hx hb dX9_lane_23 rfl (lv_at hl 0 rfl) ?_
        refine lv_iload_n hx hb dX9_lane_24 rfl (lv_at hl 2 rfl) ?_
        refine lv_if_ne (tgt := 33) hx hb dX9_lane_25 rfl (fun c10 => ?_) (fun c10 => ?_)
        · replace hf := ifn c10 hf
          refine lv_bipush (v := (29 : Int32)) hx hb dX9_lane_33 rfl ?_
          refine lv_iload_n hx hb dX9_lane_35 rfl (lv_at hl 1 rfl) ?_
          refine lv_iadd hx hb dX9_lane_36 ?_
          refine lv_iload_n hx hb dX9_lane_37 rfl (lv_at hl 3 rfl) ?_
          replace hf := bd2_inv hf
          obtain ⟨r11, g12, hc13, hf⟩ := hf
          refine r_ciV (ws' := [(h_this, ob 9 [.ref h_this_s, .ref h_this_kept, .ref h_this_laid, .int x_this_isKept, .ref h_this_pile, .ref h_this_tape, .int x_this_taped, .ref h_this_letters, .int x_this_at, .int x_this_begun, .int x_this_token, .int x_this_value, .int x_this_opened, .int x_this_steps, .ref h_this_code0, .ref h_this_read, .ref h_this_saved, .ref h_this_plan, .ref h_this_bestPlan, .int x_this_most, .int x_this_many, .int x_this_few, .int x_this_everHome, .ref h_this_offThen, .ref h_this_paidThen, .int x_this_firstFit, .ref h_this_rows, .int x_this_rowMany, .ref h_this_sorts, .ref h_this_sizes, .ref h_this_number, .ref h_this_holds, .ref h_this_heldOne, .ref h_this_trace, .int x_this_traced, .int x_this_own, .int x_this_isParted]), (h_this_s, ia G 313 g12)]) C h (c_X9_becomes hc13) mv_X9_229 rfl 0 rfl [0, 1] rfl rfl [1] [(h_this_s, ia G 313 g12)] rfl rfl (by decide +kernel) rfl hl.1 rfl (Nat.le_of_ble_eq_true rfl) (rok (by decide)) dX9_lane_38 (fun H locs h => ?_)
          refine lv_goto (tgt := 45) hx hb dX9_lane_41 rfl ?_
          cases hf
          exact r_iret C h hr hlk rfl dX9_lane_45
        · replace hf := ifp c10 hf
          refine lv_bipush (v := (23 : Int32)) hx hb dX9_lane_28 rfl ?_
          refine lv_goto (tgt := 35) hx hb dX9_lane_30 rfl ?_
          refine lv_iload_n hx hb dX9_lane_35 rfl (lv_at hl 1 rfl) ?_
          refine lv_iadd hx hb dX9_lane_36 ?_
          refine lv_iload_n hx hb dX9_lane_37 rfl (lv_at hl 3 rfl) ?_
          replace hf := bd2_inv hf
          obtain ⟨r14, g15, hc16, hf⟩ := hf
          refine r_ciV (ws' := [(h_this, ob 9 [.ref h_this_s, .ref h_this_kept, .ref h_this_laid, .int x_this_isKept, .ref h_this_pile, .ref h_this_tape, .int x_this_taped, .ref h_this_letters, .int x_this_at, .int x_this_begun, .int x_this_token, .int x_this_value, .int x_this_opened, .int x_this_steps, .ref h_this_code0, .ref h_this_read, .ref h_this_saved, .ref h_this_plan, .ref h_this_bestPlan, .int x_this_most, .int x_this_many, .int x_this_few, .int x_this_everHome, .ref h_this_offThen, .ref h_this_paidThen, .int x_this_firstFit, .ref h_this_rows, .int x_this_rowMany, .ref h_this_sorts, .ref h_this_sizes, .ref h_this_number, .ref h_this_holds, .ref h_this_heldOne, .ref h_this_trace, .int x_this_traced, .int x_this_own, .int x_this_isParted]), (h_this_s, ia G 313 g15)]) C h (c_X9_becomes hc16) mv_X9_229 rfl 0 rfl [0, 1] rfl rfl [1] [(h_this_s, ia G 313 g15)] rfl rfl (by decide +kernel) rfl hl.1 rfl (Nat.le_of_ble_eq_true rfl) (rok (by decide)) dX9_lane_38 (fun H locs h => ?_)
          refine lv_goto (tgt := 45) hx hb dX9_lane_41 rfl ?_
          cases hf
          exact r_iret C h hr hlk rfl dX9_lane_45
def f_X9_laneOf (p0 : Int32) (p1 : Int32) (f_this_s : Nat → Int32) : Option (Int32) := bd1 (f_X9_isLane p0) (fun r1 => (if r1 = 0 then some (-1 : Int32) else bd1 (f_X9_in1 p1 (0 : Int32) (1 : Int32)) (fun r4 => (if r4 = 0 then some (-1 : Int32) else (if p1 = 0 then chkI ((23 : Int32) + p0) 313 (some (f_this_s ((23 : Int32) + p0).toNatClampNeg)) else chkI ((29 : Int32) + p0) 313 (some (f_this_s ((29 : Int32) + p0).toNatClampNeg)))))))
set_option maxRecDepth 100000 in
set_option maxHeartbeats 4000000 in
theorem c_X9_laneOf {l : Launch} {G : Gt} {h_this h_this_s h_this_kept h_this_laid h_this_pile h_this_tape h_this_letters h_this_code0 h_this_read h_this_saved h_this_plan h_this_bestPlan h_this_offThen h_this_paidThen h_this_rows h_this_sorts h_this_sizes h_this_number h_this_holds h_this_heldOne h_this_trace : Nat} {p0 : Int32} {p1 : Int32} {x_this_isKept : Int32} {x_this_taped : Int32} {x_this_at : Int32} {x_this_begun : Int32} {x_this_token : Int32} {x_this_value : Int32} {x_this_opened : Int32} {x_this_steps : Int32} {x_this_most : Int32} {x_this_many : Int32} {x_this_few : Int32} {x_this_everHome : Int32} {x_this_firstFit : Int32} {x_this_rowMany : Int32} {x_this_traced : Int32} {x_this_own : Int32} {x_this_isParted : Int32} {f_this_s : Nat → Int32} {r : Int32} (hf : f_X9_laneOf p0 p1 f_this_s = some r) : mFi l G yX9_laneOf cX9_laneOf 3 .int 2 [.ref h_this, .int p0, .int p1] [(h_this, ob 9 [.ref h_this_s, .ref h_this_kept, .ref h_this_laid, .int x_this_isKept, .ref h_this_pile, .ref h_this_tape, .int x_this_taped, .ref h_this_letters, .int x_this_at, .int x_this_begun, .int x_this_token, .int x_this_value, .int x_this_opened, .int x_this_steps, .ref h_this_code0, .ref h_this_read, .ref h_this_saved, .ref h_this_plan, .ref h_this_bestPlan, .int x_this_most, .int x_this_many, .int x_this_few, .int x_this_everHome, .ref h_this_offThen, .ref h_this_paidThen, .int x_this_firstFit, .ref h_this_rows, .int x_this_rowMany, .ref h_this_sorts, .ref h_this_sizes, .ref h_this_number, .ref h_this_holds, .ref h_this_heldOne, .ref h_this_trace, .int x_this_traced, .int x_this_own, .int x_this_isParted]), (h_this_s, ia G 313 f_this_s)] r [(h_this, ob 9 [.ref h_this_s, .ref h_this_kept, .ref h_this_laid, .int x_this_isKept, .ref h_this_pile, .ref h_this_tape, .int x_this_taped, .ref h_this_letters, .int x_this_at, .int x_this_begun, .int x_this_token, .int x_this_value, .int x_this_opened, .int x_this_steps, .ref h_this_code0, .ref h_this_read, .ref h_this_saved, .ref h_this_plan, .ref h_this_bestPlan, .int x_this_most, .int x_this_many, .int x_this_few, .int x_this_everHome, .ref h_this_offThen, .ref h_this_paidThen, .int x_this_firstFit, .ref h_this_rows, .int x_this_rowMany, .ref h_this_sorts, .ref h_this_sizes, .ref h_this_number, .ref h_this_holds, .ref h_this_heldOne, .ref h_this_trace, .int x_this_traced, .int x_this_own, .int x_this_isParted]), (h_this_s, ia G 313 f_this_s)] := by
  refine mFi.of (by decide +kernel) (Nat.le_of_ble_eq_true rfl) ?_
  intro p e s m below meth c A C hr hlk h ls hl
  obtain ⟨hx, hb, hml, hown, hts⟩ := id C
  replace hl : lv_has ls 3 [(0, .ref h_this), (1, .int p0), (2, .int p1)] := hl
  unfold f_X9_laneOf at hf
  refine lv_iload_n hx hb dX9_laneOf_0 rfl (lv_at hl 1 rfl) ?_
  replace hf := bd1_inv hf
  obtain ⟨r1, hc2, hf⟩ := hf
  refine r_ciS0 C h (c_X9_isLane hc2) ms_X9_223 rfl [] rfl rfl hl.1 rfl (Nat.le_of_ble_eq_true rfl) (rok (by decide)) dX9_laneOf_1 (fun H locs h => ?_)
  refine lv_if_eq (tgt := 37) hx hb dX9_laneOf_4 rfl (fun c3 => ?_) (fun c3 => ?_)
  · replace hf := ifp c3 hf
    refine lv_iconst (v := (-1 : Int32)) hx hb dX9_laneOf_37 rfl ?_
    cases hf
    exact r_iret C h hr hlk rfl dX9_laneOf_38
  · replace hf := ifn c3 hf
    refine lv_iload_n hx hb dX9_laneOf_7 rfl (lv_at hl 2 rfl) ?_
    refine lv_iconst (v := (0 : Int32)) hx hb dX9_laneOf_8 rfl ?_
    refine lv_iconst (v := (1 : Int32)) hx hb dX9_laneOf_9 rfl ?_
    replace hf := bd1_inv hf
    obtain ⟨r4, hc5, hf⟩ := hf
    refine r_ciS0 C h (c_X9_in1 hc5) ms_X9_71 rfl [] rfl rfl hl.1 rfl (Nat.le_of_ble_eq_true rfl) (rok (by decide)) dX9_laneOf_10 (fun H locs h => ?_)
    refine lv_if_eq (tgt := 37) hx hb dX9_laneOf_13 rfl (fun c6 => ?_) (fun c6 => ?_)
    · replace hf := ifp c6 hf
      refine lv_iconst (v := (-1 : Int32)) hx hb dX9_laneOf_37 rfl ?_
      cases hf
      exact r_iret C h hr hlk rfl dX9_laneOf_38
    · replace hf := ifn c6 hf
      refine lv_aload_n hx hb dX9_laneOf_16 rfl (lv_at hl 0 rfl) ?_
      refine r_get C h fk_X9_9 0 rfl rfl dX9_laneOf_17 ?_
      refine lv_iload_n hx hb dX9_laneOf_20 rfl (lv_at hl 2 rfl) ?_
      refine lv_if_ne (tgt := 29) hx hb dX9_laneOf_21 rfl (fun c7 => ?_) (fun c7 => ?_)
      · replace hf := ifn c7 hf
        refine lv_bipush (v := (29 : Int32)) hx hb dX9_laneOf_29 rfl ?_
        refine lv_iload_n hx hb dX9_laneOf_31 rfl (lv_at hl 1 rfl) ?_
        refine lv_iadd hx hb dX9_laneOf_32 ?_
        replace hf := chkI_inv hf
        obtain ⟨hi8, hf⟩ := hf
        refine r_iald C h 1 rfl hi8 dX9_laneOf_33 ?_
        refine lv_goto (tgt := 38) hx hb dX9_laneOf_34 rfl ?_
        cases hf
        exact r_iret C h hr hlk rfl dX9_laneOf_38
      · replace hf := ifp c7 hf
        refine lv_bipush (v := (23 : Int32)) hx hb dX9_laneOf_24 rfl ?_
        refine lv_goto (tgt := 31) hx hb dX9_laneOf_26 rfl ?_
        refine lv_iload_n hx hb dX9_laneOf_31 rfl (lv_at hl 1 rfl) ?_
        refine lv_iadd hx hb dX9_laneOf_32 ?_
        replace hf := chkI_inv hf
        obtain ⟨hi9, hf⟩ := hf
        refine r_iald C h 1 rfl hi9 dX9_laneOf_33 ?_
        refine lv_goto (tgt := 38) hx hb dX9_laneOf_34 rfl ?_
        cases hf
        exact r_iret C h hr hlk rfl dX9_laneOf_38
def f_X9_ends (p0 : Int32) (f_this_s : Nat → Int32) : Option (Int32 × (Nat → Int32)) := bd1 (f_X9_in1 p0 (1 : Int32) (16 : Int32)) (fun r1 => (if r1 = 0 then some ((-1 : Int32), f_this_s) else (if (f_this_s 0) ≤ p0 then bd2 (f_X9_becomes (1 : Int32) p0 f_this_s) (fun r5 g6 => some (r5, g6)) else some ((-4 : Int32), f_this_s))))
set_option maxRecDepth 100000 in
set_option maxHeartbeats 4000000 in
theorem c_X9_ends {l : Launch} {G : Gt} {h_this h_this_s h_this_kept h_this_laid h_this_pile h_this_tape h_this_letters h_this_code0 h_this_read h_this_saved h_this_plan h_this_bestPlan h_this_offThen h_this_paidThen h_this_rows h_this_sorts h_this_sizes h_this_number h_this_holds h_this_heldOne h_this_trace : Nat} {p0 : Int32} {x_this_isKept : Int32} {x_this_taped : Int32} {x_this_at : Int32} {x_this_begun : Int32} {x_this_token : Int32} {x_this_value : Int32} {x_this_opened : Int32} {x_this_steps : Int32} {x_this_most : Int32} {x_this_many : Int32} {x_this_few : Int32} {x_this_everHome : Int32} {x_this_firstFit : Int32} {x_this_rowMany : Int32} {x_this_traced : Int32} {x_this_own : Int32} {x_this_isParted : Int32} {f_this_s : Nat → Int32} {r : Int32} {m_this_s : Nat → Int32} (hf : f_X9_ends p0 f_this_s = some (r, m_this_s)) : mFi l G yX9_ends cX9_ends 2 .int 1 [.ref h_this, .int p0] [(h_this, ob 9 [.ref h_this_s, .ref h_this_kept, .ref h_this_laid, .int x_this_isKept, .ref h_this_pile, .ref h_this_tape, .int x_this_taped, .ref h_this_letters, .int x_this_at, .int x_this_begun, .int x_this_token, .int x_this_value, .int x_this_opened, .int x_this_steps, .ref h_this_code0, .ref h_this_read, .ref h_this_saved, .ref h_this_plan, .ref h_this_bestPlan, .int x_this_most, .int x_this_many, .int x_this_few, .int x_this_everHome, .ref h_this_offThen, .ref h_this_paidThen, .int x_this_firstFit, .ref h_this_rows, .int x_this_rowMany, .ref h_this_sorts, .ref h_this_sizes, .ref h_this_number, .ref h_this_holds, .ref h_this_heldOne, .ref h_this_trace, .int x_this_traced, .int x_this_own, .int x_this_isParted]), (h_this_s, ia G 313 f_this_s)] r [(h_this, ob 9 [.ref h_this_s, .ref h_this_kept, .ref h_this_laid, .int x_this_isKept, .ref h_this_pile, .ref h_this_tape, .int x_this_taped, .ref h_this_letters, .int x_this_at, .int x_this_begun, .int x_this_token, .int x_this_value, .int x_this_opened, .int x_this_steps, .ref h_this_code0, .ref h_this_read, .ref h_this_saved, .ref h_this_plan, .ref h_this_bestPlan, .int x_this_most, .int x_this_many, .int x_this_few, .int x_this_everHome, .ref h_this_offThen, .ref h_this_paidThen, .int x_this_firstFit, .ref h_this_rows, .int x_this_rowMany, .ref h_this_sorts, .ref h_this_sizes, .ref h_this_number, .ref h_this_holds, .ref h_this_heldOne, .ref h_this_trace, .int x_this_traced, .int x_this_own, .int x_this_isParted]), (h_this_s, ia G 313 m_this_s)] := by
  refine mFi.of (by decide +kernel) (Nat.le_of_ble_eq_true rfl) ?_
  intro p e s m below meth c A C hr hlk h ls hl
  obtain ⟨hx, hb, hml, hown, hts⟩ := id C
  replace hl : lv_has ls 2 [(0, .ref h_this), (1, .int p0)] := hl
  unfold f_X9_ends at hf
  refine lv_iload_n hx hb dX9_ends_0 rfl (lv_at hl 1 rfl) ?_
  refine lv_iconst (v := (1 : Int32)) hx hb dX9_ends_1 rfl ?_
  refine lv_bipush (v := (16 : Int32)) hx hb dX9_ends_2 rfl ?_
  replace hf := bd1_inv hf
  obtain ⟨r1, hc2, hf⟩ := hf
  refine r_ciS0 C h (c_X9_in1 hc2) ms_X9_71 rfl [] rfl rfl hl.1 rfl (Nat.le_of_ble_eq_true rfl) (rok (by decide)) dX9_ends_4 (fun H locs h => ?_)
  refine lv_if_ne (tgt := 14) hx hb dX9_ends_7 rfl (fun c3 => ?_) (fun c3 => ?_)
  · replace hf := ifn c3 hf
    refine lv_iload_n hx hb dX9_ends_14 rfl (lv_at hl 1 rfl) ?_
    refine lv_aload_n hx hb dX9_ends_15 rfl (lv_at hl 0 rfl) ?_
    refine r_get C h fk_X9_9 0 rfl rfl dX9_ends_16 ?_
    refine lv_iconst (v := (0 : Int32)) hx hb dX9_ends_19 rfl ?_
    refine r_ialdL C h 1 rfl (vlit rfl) 0 rfl dX9_ends_20 ?_
    refine lv_icmp_ge (tgt := 29) hx hb dX9_ends_21 rfl (fun c4 => ?_) (fun c4 => ?_)
    · replace hf := ifp c4 hf
      refine lv_aload_n hx hb dX9_ends_29 rfl (lv_at hl 0 rfl) ?_
      refine lv_iconst (v := (1 : Int32)) hx hb dX9_ends_30 rfl ?_
      refine lv_iload_n hx hb dX9_ends_31 rfl (lv_at hl 1 rfl) ?_
      replace hf := bd2_inv hf
      obtain ⟨r5, g6, hc7, hf⟩ := hf
      refine r_ciV (ws' := [(h_this, ob 9 [.ref h_this_s, .ref h_this_kept, .ref h_this_laid, .int x_this_isKept, .ref h_this_pile, .ref h_this_tape, .int x_this_taped, .ref h_this_letters, .int x_this_at, .int x_this_begun, .int x_this_token, .int x_this_value, .int x_this_opened, .int x_this_steps, .ref h_this_code0, .ref h_this_read, .ref h_this_saved, .ref h_this_plan, .ref h_this_bestPlan, .int x_this_most, .int x_this_many, .int x_this_few, .int x_this_everHome, .ref h_this_offThen, .ref h_this_paidThen, .int x_this_firstFit, .ref h_this_rows, .int x_this_rowMany, .ref h_this_sorts, .ref h_this_sizes, .ref h_this_number, .ref h_this_holds, .ref h_this_heldOne, .ref h_this_trace, .int x_this_traced, .int x_this_own, .int x_this_isParted]), (h_this_s, ia G 313 g6)]) C h (c_X9_becomes hc7) mv_X9_229 rfl 0 rfl [0, 1] rfl rfl [1] [(h_this_s, ia G 313 g6)] rfl rfl (by decide +kernel) rfl hl.1 rfl (Nat.le_of_ble_eq_true rfl) (rok (by decide)) dX9_ends_32 (fun H locs h => ?_)
      cases hf
      exact r_iret C h hr hlk rfl dX9_ends_35
    · replace hf := ifn c4 hf
      refine lv_bipush (v := (-4 : Int32)) hx hb dX9_ends_24 rfl ?_
      refine lv_goto (tgt := 35) hx hb dX9_ends_26 rfl ?_
      cases hf
      exact r_iret C h hr hlk rfl dX9_ends_35
  · replace hf := ifp c3 hf
    refine lv_iconst (v := (-1 : Int32)) hx hb dX9_ends_10 rfl ?_
    refine lv_goto (tgt := 35) hx hb dX9_ends_11 rfl ?_
    cases hf
    exact r_iret C h hr hlk rfl dX9_ends_35
def f_X9_anew_L9 : Nat → Int32 → (Nat → Int32) → Option (Int32 × (Nat → Int32))
  | 0, _, _ => none
  | n + 1, v1, g_this_s => (if (g_this_s 4) ≤ v1 then bd2 (f_X9_becomes (0 : Int32) (0 : Int32) g_this_s) (fun r2 g3 => some (r2, g3)) else bd1 (f_X9_puts v1 (4 : Int32) (0 : Int32) g_this_s) (fun g5 => lt1 (v1 + (1 : Int32)) (fun (t7 : Int32) => (f_X9_anew_L9 n) t7 g5)))
def f_X9_anew (f_this_s : Nat → Int32) : Option (Int32 × (Nat → Int32)) := f_X9_anew_L9 1000 (0 : Int32) (upd f_this_s 2 (0 : Int32))
set_option maxRecDepth 100000 in
set_option maxHeartbeats 4000000 in
theorem c_X9_anew {l : Launch} {G : Gt} {h_this h_this_s h_this_kept h_this_laid h_this_pile h_this_tape h_this_letters h_this_code0 h_this_read h_this_saved h_this_plan h_this_bestPlan h_this_offThen h_this_paidThen h_this_rows h_this_sorts h_this_sizes h_this_number h_this_holds h_this_heldOne h_this_trace : Nat} {x_this_isKept : Int32} {x_this_taped : Int32} {x_this_at : Int32} {x_this_begun : Int32} {x_this_token : Int32} {x_this_value : Int32} {x_this_opened : Int32} {x_this_steps : Int32} {x_this_most : Int32} {x_this_many : Int32} {x_this_few : Int32} {x_this_everHome : Int32} {x_this_firstFit : Int32} {x_this_rowMany : Int32} {x_this_traced : Int32} {x_this_own : Int32} {x_this_isParted : Int32} {f_this_s : Nat → Int32} {r : Int32} {m_this_s : Nat → Int32} (hf : f_X9_anew f_this_s = some (r, m_this_s)) : mFi l G yX9_anew cX9_anew 2 .int 1 [.ref h_this] [(h_this, ob 9 [.ref h_this_s, .ref h_this_kept, .ref h_this_laid, .int x_this_isKept, .ref h_this_pile, .ref h_this_tape, .int x_this_taped, .ref h_this_letters, .int x_this_at, .int x_this_begun, .int x_this_token, .int x_this_value, .int x_this_opened, .int x_this_steps, .ref h_this_code0, .ref h_this_read, .ref h_this_saved, .ref h_this_plan, .ref h_this_bestPlan, .int x_this_most, .int x_this_many, .int x_this_few, .int x_this_everHome, .ref h_this_offThen, .ref h_this_paidThen, .int x_this_firstFit, .ref h_this_rows, .int x_this_rowMany, .ref h_this_sorts, .ref h_this_sizes, .ref h_this_number, .ref h_this_holds, .ref h_this_heldOne, .ref h_this_trace, .int x_this_traced, .int x_this_own, .int x_this_isParted]), (h_this_s, ia G 313 f_this_s)] r [(h_this, ob 9 [.ref h_this_s, .ref h_this_kept, .ref h_this_laid, .int x_this_isKept, .ref h_this_pile, .ref h_this_tape, .int x_this_taped, .ref h_this_letters, .int x_this_at, .int x_this_begun, .int x_this_token, .int x_this_value, .int x_this_opened, .int x_this_steps, .ref h_this_code0, .ref h_this_read, .ref h_this_saved, .ref h_this_plan, .ref h_this_bestPlan, .int x_this_most, .int x_this_many, .int x_this_few, .int x_this_everHome, .ref h_this_offThen, .ref h_this_paidThen, .int x_this_firstFit, .ref h_this_rows, .int x_this_rowMany, .ref h_this_sorts, .ref h_this_sizes, .ref h_this_number, .ref h_this_holds, .ref h_this_heldOne, .ref h_this_trace, .int x_this_traced, .int x_this_own, .int x_this_isParted]), (h_this_s, ia G 313 m_this_s)] := by
  refine mFi.of (by decide +kernel) (Nat.le_of_ble_eq_true rfl) ?_
  intro p e s m below meth c A C hr hlk h ls hl
  obtain ⟨hx, hb, hml, hown, hts⟩ := id C
  replace hl : lv_has ls 2 [(0, .ref h_this)] := hl
  unfold f_X9_anew at hf
  refine with_K G A 2 (fun K hK1 hK2 => ?_)
  have L9 : ∀ (n : Nat) (v1 : Int32) (g_this_s : Nat → Int32), f_X9_anew_L9 n v1 g_this_s = some (r, m_this_s) → K 9 ([] : List Value) [(h_this, ob 9 [.ref h_this_s, .ref h_this_kept, .ref h_this_laid, .int x_this_isKept, .ref h_this_pile, .ref h_this_tape, .int x_this_taped, .ref h_this_letters, .int x_this_at, .int x_this_begun, .int x_this_token, .int x_this_value, .int x_this_opened, .int x_this_steps, .ref h_this_code0, .ref h_this_read, .ref h_this_saved, .ref h_this_plan, .ref h_this_bestPlan, .int x_this_most, .int x_this_many, .int x_this_few, .int x_this_everHome, .ref h_this_offThen, .ref h_this_paidThen, .int x_this_firstFit, .ref h_this_rows, .int x_this_rowMany, .ref h_this_sorts, .ref h_this_sizes, .ref h_this_number, .ref h_this_holds, .ref h_this_heldOne, .ref h_this_trace, .int x_this_traced, .int x_this_own, .int x_this_isParted]), (h_this_s, ia G 313 g_this_s)] [(0, .ref h_this), (1, .int v1)] := by
    intro n
    induction n with
    | zero =>
      intro v1 g_this_s hf
      replace hf : (none : Option _) = some _ := hf
      cases hf
    | succ n ih =>
      intro v1 g_this_s hf
      rw [f_X9_anew_L9] at hf
      refine hK1 _ _ _ _ (fun H locs ls h hl => ?_)
      refine lv_iload_n hx hb dX9_anew_9 rfl (lv_at hl 1 rfl) ?_
      refine lv_aload_n hx hb dX9_anew_10 rfl (lv_at hl 0 rfl) ?_
      refine r_get C h fk_X9_9 0 rfl rfl dX9_anew_11 ?_
      refine lv_iconst (v := (4 : Int32)) hx hb dX9_anew_14 rfl ?_
      refine r_ialdL C h 1 rfl (vlit rfl) 4 rfl dX9_anew_15 ?_
      refine lv_icmp_ge (tgt := 32) hx hb dX9_anew_16 rfl (fun c1 => ?_) (fun c1 => ?_)
      · replace hf := ifp c1 hf
        refine lv_aload_n hx hb dX9_anew_32 rfl (lv_at hl 0 rfl) ?_
        refine lv_iconst (v := (0 : Int32)) hx hb dX9_anew_33 rfl ?_
        refine lv_iconst (v := (0 : Int32)) hx hb dX9_anew_34 rfl ?_
        replace hf := bd2_inv hf
        obtain ⟨r2, g3, hc4, hf⟩ := hf
        refine r_ciV (ws' := [(h_this, ob 9 [.ref h_this_s, .ref h_this_kept, .ref h_this_laid, .int x_this_isKept, .ref h_this_pile, .ref h_this_tape, .int x_this_taped, .ref h_this_letters, .int x_this_at, .int x_this_begun, .int x_this_token, .int x_this_value, .int x_this_opened, .int x_this_steps, .ref h_this_code0, .ref h_this_read, .ref h_this_saved, .ref h_this_plan, .ref h_this_bestPlan, .int x_this_most, .int x_this_many, .int x_this_few, .int x_this_everHome, .ref h_this_offThen, .ref h_this_paidThen, .int x_this_firstFit, .ref h_this_rows, .int x_this_rowMany, .ref h_this_sorts, .ref h_this_sizes, .ref h_this_number, .ref h_this_holds, .ref h_this_heldOne, .ref h_this_trace, .int x_this_traced, .int x_this_own, .int x_this_isParted]), (h_this_s, ia G 313 g3)]) C h (c_X9_becomes hc4) mv_X9_229 rfl 0 rfl [0, 1] rfl rfl [1] [(h_this_s, ia G 313 g3)] rfl rfl (by decide +kernel) rfl hl.1 rfl (Nat.le_of_ble_eq_true rfl) (rok (by decide)) dX9_anew_35 (fun H locs h => ?_)
        cases hf
        exact r_iret C h hr hlk rfl dX9_anew_38
      · replace hf := ifn c1 hf
        refine lv_aload_n hx hb dX9_anew_19 rfl (lv_at hl 0 rfl) ?_
        refine lv_iload_n hx hb dX9_anew_20 rfl (lv_at hl 1 rfl) ?_
        refine lv_iconst (v := (4 : Int32)) hx hb dX9_anew_21 rfl ?_
        refine lv_iconst (v := (0 : Int32)) hx hb dX9_anew_22 rfl ?_
        replace hf := bd1_inv hf
        obtain ⟨g5, hc6, hf⟩ := hf
        refine r_cvV (ws' := [(h_this, ob 9 [.ref h_this_s, .ref h_this_kept, .ref h_this_laid, .int x_this_isKept, .ref h_this_pile, .ref h_this_tape, .int x_this_taped, .ref h_this_letters, .int x_this_at, .int x_this_begun, .int x_this_token, .int x_this_value, .int x_this_opened, .int x_this_steps, .ref h_this_code0, .ref h_this_read, .ref h_this_saved, .ref h_this_plan, .ref h_this_bestPlan, .int x_this_most, .int x_this_many, .int x_this_few, .int x_this_everHome, .ref h_this_offThen, .ref h_this_paidThen, .int x_this_firstFit, .ref h_this_rows, .int x_this_rowMany, .ref h_this_sorts, .ref h_this_sizes, .ref h_this_number, .ref h_this_holds, .ref h_this_heldOne, .ref h_this_trace, .int x_this_traced, .int x_this_own, .int x_this_isParted]), (h_this_s, ia G 313 g5)]) C h (c_X9_puts hc6) mv_X9_195 rfl 0 rfl [0, 1] rfl rfl [1] [(h_this_s, ia G 313 g5)] rfl rfl (by decide +kernel) rfl hl.1 rfl (Nat.le_of_ble_eq_true rfl) (rok (by decide)) dX9_anew_23 (fun H locs h => ?_)
        obtain ⟨t7, et7⟩ : ∃ y : Int32, y = v1 + (1 : Int32) := ⟨_, rfl⟩
        replace hf := lt1_inv et7 hf
        refine lv_iinc (v := t7) (lv' := [(1, .int t7), (0, .ref h_this)]) hx hb dX9_anew_26 hl (k := 1) rfl (by rw [et7]; rfl) (by decide) rfl (fun ls hl => ?_)
        refine lv_goto (tgt := 9) hx hb dX9_anew_29 rfl ?_
        exact hK2 _ _ _ _ (ih t7 g5 hf) _ _ _ h (lv_sub hl [1, 0] rfl)
  refine lv_aload_n hx hb dX9_anew_0 rfl (lv_at hl 0 rfl) ?_
  refine r_get C h fk_X9_9 0 rfl rfl dX9_anew_1 ?_
  refine lv_iconst (v := (2 : Int32)) hx hb dX9_anew_4 rfl ?_
  refine lv_iconst (v := (0 : Int32)) hx hb dX9_anew_5 rfl ?_
  refine r_iastL (ws' := [(h_this, ob 9 [.ref h_this_s, .ref h_this_kept, .ref h_this_laid, .int x_this_isKept, .ref h_this_pile, .ref h_this_tape, .int x_this_taped, .ref h_this_letters, .int x_this_at, .int x_this_begun, .int x_this_token, .int x_this_value, .int x_this_opened, .int x_this_steps, .ref h_this_code0, .ref h_this_read, .ref h_this_saved, .ref h_this_plan, .ref h_this_bestPlan, .int x_this_most, .int x_this_many, .int x_this_few, .int x_this_everHome, .ref h_this_offThen, .ref h_this_paidThen, .int x_this_firstFit, .ref h_this_rows, .int x_this_rowMany, .ref h_this_sorts, .ref h_this_sizes, .ref h_this_number, .ref h_this_holds, .ref h_this_heldOne, .ref h_this_trace, .int x_this_traced, .int x_this_own, .int x_this_isParted]), (h_this_s, ia G 313 (upd f_this_s 2 (0 : Int32)))]) C h 1 rfl (vlit rfl) 2 rfl dX9_anew_6 rfl (fun H locs h => ?_)
  refine lv_iconst (v := (0 : Int32)) hx hb dX9_anew_7 rfl ?_
  refine lv_istore_n (lv' := [(1, .int (0 : Int32)), (0, .ref h_this)]) hx hb dX9_anew_8 rfl hl (by decide) rfl (fun ls hl => ?_)
  exact hK2 _ _ _ _ (L9 1000 (0 : Int32) (upd f_this_s 2 (0 : Int32)) hf) _ _ _ h (lv_sub hl [1, 0] rfl)
def f_X9_isOver (f_this_s : Nat → Int32) : Option (Int32) := (if (f_this_s 0) < (f_this_s 1) then some (0 : Int32) else some (1 : Int32))
set_option maxRecDepth 100000 in
set_option maxHeartbeats 4000000 in
theorem c_X9_isOver {l : Launch} {G : Gt} {h_this h_this_s h_this_kept h_this_laid h_this_pile h_this_tape h_this_letters h_this_code0 h_this_read h_this_saved h_this_plan h_this_bestPlan h_this_offThen h_this_paidThen h_this_rows h_this_sorts h_this_sizes h_this_number h_this_holds h_this_heldOne h_this_trace : Nat} {x_this_isKept : Int32} {x_this_taped : Int32} {x_this_at : Int32} {x_this_begun : Int32} {x_this_token : Int32} {x_this_value : Int32} {x_this_opened : Int32} {x_this_steps : Int32} {x_this_most : Int32} {x_this_many : Int32} {x_this_few : Int32} {x_this_everHome : Int32} {x_this_firstFit : Int32} {x_this_rowMany : Int32} {x_this_traced : Int32} {x_this_own : Int32} {x_this_isParted : Int32} {f_this_s : Nat → Int32} {r : Int32} (hf : f_X9_isOver f_this_s = some r) : mFi l G yX9_isOver cX9_isOver 1 .boolean 0 [.ref h_this] [(h_this, ob 9 [.ref h_this_s, .ref h_this_kept, .ref h_this_laid, .int x_this_isKept, .ref h_this_pile, .ref h_this_tape, .int x_this_taped, .ref h_this_letters, .int x_this_at, .int x_this_begun, .int x_this_token, .int x_this_value, .int x_this_opened, .int x_this_steps, .ref h_this_code0, .ref h_this_read, .ref h_this_saved, .ref h_this_plan, .ref h_this_bestPlan, .int x_this_most, .int x_this_many, .int x_this_few, .int x_this_everHome, .ref h_this_offThen, .ref h_this_paidThen, .int x_this_firstFit, .ref h_this_rows, .int x_this_rowMany, .ref h_this_sorts, .ref h_this_sizes, .ref h_this_number, .ref h_this_holds, .ref h_this_heldOne, .ref h_this_trace, .int x_this_traced, .int x_this_own, .int x_this_isParted]), (h_this_s, ia G 313 f_this_s)] r [(h_this, ob 9 [.ref h_this_s, .ref h_this_kept, .ref h_this_laid, .int x_this_isKept, .ref h_this_pile, .ref h_this_tape, .int x_this_taped, .ref h_this_letters, .int x_this_at, .int x_this_begun, .int x_this_token, .int x_this_value, .int x_this_opened, .int x_this_steps, .ref h_this_code0, .ref h_this_read, .ref h_this_saved, .ref h_this_plan, .ref h_this_bestPlan, .int x_this_most, .int x_this_many, .int x_this_few, .int x_this_everHome, .ref h_this_offThen, .ref h_this_paidThen, .int x_this_firstFit, .ref h_this_rows, .int x_this_rowMany, .ref h_this_sorts, .ref h_this_sizes, .ref h_this_number, .ref h_this_holds, .ref h_this_heldOne, .ref h_this_trace, .int x_this_traced, .int x_this_own, .int x_this_isParted]), (h_this_s, ia G 313 f_this_s)] := by
  refine mFi.of (by decide +kernel) (Nat.le_of_ble_eq_true rfl) ?_
  intro p e s m below meth c A C hr hlk h ls hl
  obtain ⟨hx, hb, hml, hown, hts⟩ := id C
  replace hl : lv_has ls 1 [(0, .ref h_this)] := hl
  unfold f_X9_isOver at hf
  refine lv_aload_n hx hb dX9_isOver_0 rfl (lv_at hl 0 rfl) ?_
  refine r_get C h fk_X9_9 0 rfl rfl dX9_isOver_1 ?_
  refine lv_iconst (v := (0 : Int32)) hx hb dX9_isOver_4 rfl ?_
  refine r_ialdL C h 1 rfl (vlit rfl) 0 rfl dX9_isOver_5 ?_
  refine lv_aload_n hx hb dX9_isOver_6 rfl (lv_at hl 0 rfl) ?_
  refine r_get C h fk_X9_9 0 rfl rfl dX9_isOver_7 ?_
  refine lv_iconst (v := (1 : Int32)) hx hb dX9_isOver_10 rfl ?_
  refine r_ialdL C h 1 rfl (vlit rfl) 1 rfl dX9_isOver_11 ?_
  refine lv_icmp_lt (tgt := 19) hx hb dX9_isOver_12 rfl (fun c1 => ?_) (fun c1 => ?_)
  · replace hf := ifp c1 hf
    refine lv_iconst (v := (0 : Int32)) hx hb dX9_isOver_19 rfl ?_
    cases hf
    exact r_iret C h hr hlk rfl dX9_isOver_20
  · replace hf := ifn c1 hf
    refine lv_iconst (v := (1 : Int32)) hx hb dX9_isOver_15 rfl ?_
    refine lv_goto (tgt := 20) hx hb dX9_isOver_16 rfl ?_
    cases hf
    exact r_iret C h hr hlk rfl dX9_isOver_20
def f_X9_those_L4 (p0 : Int32) (f_this_s : Nat → Int32) : Nat → Int32 → Int32 → Option (Int32)
  | 0, _, _ => none
  | n + 1, v2, v3 => (if (f_this_s 4) ≤ v3 then some v2 else bd1 (f_X9_get v3 p0 f_this_s) (fun r2 => (if r2 ≤ 0 then lt1 (v2 ||| (0 : Int32)) (fun (t5 : Int32) => lt1 (v3 + (1 : Int32)) (fun (t6 : Int32) => (f_X9_those_L4 p0 f_this_s n) t5 t6)) else lt1 (v2 ||| ((1 : Int32) <<< (v3 &&& 31))) (fun (t7 : Int32) => lt1 (v3 + (1 : Int32)) (fun (t8 : Int32) => (f_X9_those_L4 p0 f_this_s n) t7 t8)))))
def f_X9_those (p0 : Int32) (f_this_s : Nat → Int32) : Option (Int32) := f_X9_those_L4 p0 f_this_s 1000 (0 : Int32) (0 : Int32)
set_option maxRecDepth 100000 in
set_option maxHeartbeats 4000000 in
theorem c_X9_those {l : Launch} {G : Gt} {h_this h_this_s h_this_kept h_this_laid h_this_pile h_this_tape h_this_letters h_this_code0 h_this_read h_this_saved h_this_plan h_this_bestPlan h_this_offThen h_this_paidThen h_this_rows h_this_sorts h_this_sizes h_this_number h_this_holds h_this_heldOne h_this_trace : Nat} {p0 : Int32} {x_this_isKept : Int32} {x_this_taped : Int32} {x_this_at : Int32} {x_this_begun : Int32} {x_this_token : Int32} {x_this_value : Int32} {x_this_opened : Int32} {x_this_steps : Int32} {x_this_most : Int32} {x_this_many : Int32} {x_this_few : Int32} {x_this_everHome : Int32} {x_this_firstFit : Int32} {x_this_rowMany : Int32} {x_this_traced : Int32} {x_this_own : Int32} {x_this_isParted : Int32} {f_this_s : Nat → Int32} {r : Int32} (hf : f_X9_those p0 f_this_s = some r) : mFi l G yX9_those cX9_those 4 .int 1 [.ref h_this, .int p0] [(h_this, ob 9 [.ref h_this_s, .ref h_this_kept, .ref h_this_laid, .int x_this_isKept, .ref h_this_pile, .ref h_this_tape, .int x_this_taped, .ref h_this_letters, .int x_this_at, .int x_this_begun, .int x_this_token, .int x_this_value, .int x_this_opened, .int x_this_steps, .ref h_this_code0, .ref h_this_read, .ref h_this_saved, .ref h_this_plan, .ref h_this_bestPlan, .int x_this_most, .int x_this_many, .int x_this_few, .int x_this_everHome, .ref h_this_offThen, .ref h_this_paidThen, .int x_this_firstFit, .ref h_this_rows, .int x_this_rowMany, .ref h_this_sorts, .ref h_this_sizes, .ref h_this_number, .ref h_this_holds, .ref h_this_heldOne, .ref h_this_trace, .int x_this_traced, .int x_this_own, .int x_this_isParted]), (h_this_s, ia G 313 f_this_s)] r [(h_this, ob 9 [.ref h_this_s, .ref h_this_kept, .ref h_this_laid, .int x_this_isKept, .ref h_this_pile, .ref h_this_tape, .int x_this_taped, .ref h_this_letters, .int x_this_at, .int x_this_begun, .int x_this_token, .int x_this_value, .int x_this_opened, .int x_this_steps, .ref h_this_code0, .ref h_this_read, .ref h_this_saved, .ref h_this_plan, .ref h_this_bestPlan, .int x_this_most, .int x_this_many, .int x_this_few, .int x_this_everHome, .ref h_this_offThen, .ref h_this_paidThen, .int x_this_firstFit, .ref h_this_rows, .int x_this_rowMany, .ref h_this_sorts, .ref h_this_sizes, .ref h_this_number, .ref h_this_holds, .ref h_this_heldOne, .ref h_this_trace, .int x_this_traced, .int x_this_own, .int x_this_isParted]), (h_this_s, ia G 313 f_this_s)] := by
  refine mFi.of (by decide +kernel) (Nat.le_of_ble_eq_true rfl) ?_
  intro p e s m below meth c A C hr hlk h ls hl
  obtain ⟨hx, hb, hml, hown, hts⟩ := id C
  replace hl : lv_has ls 4 [(0, .ref h_this), (1, .int p0)] := hl
  unfold f_X9_those at hf
  refine with_K G A 4 (fun K hK1 hK2 => ?_)
  have L4 : ∀ (n : Nat) (v2 : Int32) (v3 : Int32), f_X9_those_L4 p0 f_this_s n v2 v3 = some r → K 4 ([] : List Value) [(h_this, ob 9 [.ref h_this_s, .ref h_this_kept, .ref h_this_laid, .int x_this_isKept, .ref h_this_pile, .ref h_this_tape, .int x_this_taped, .ref h_this_letters, .int x_this_at, .int x_this_begun, .int x_this_token, .int x_this_value, .int x_this_opened, .int x_this_steps, .ref h_this_code0, .ref h_this_read, .ref h_this_saved, .ref h_this_plan, .ref h_this_bestPlan, .int x_this_most, .int x_this_many, .int x_this_few, .int x_this_everHome, .ref h_this_offThen, .ref h_this_paidThen, .int x_this_firstFit, .ref h_this_rows, .int x_this_rowMany, .ref h_this_sorts, .ref h_this_sizes, .ref h_this_number, .ref h_this_holds, .ref h_this_heldOne, .ref h_this_trace, .int x_this_traced, .int x_this_own, .int x_this_isParted]), (h_this_s, ia G 313 f_this_s)] [(0, .ref h_this), (1, .int p0), (2, .int v2), (3, .int v3)] := by
    intro n
    induction n with
    | zero =>
      intro v2 v3 hf
      replace hf : (none : Option _) = some _ := hf
      cases hf
    | succ n ih =>
      intro v2 v3 hf
      rw [f_X9_those_L4] at hf
      refine hK1 _ _ _ _ (fun H locs ls h hl => ?_)
      refine lv_iload_n hx hb dX9_those_4 rfl (lv_at hl 3 rfl) ?_
      refine lv_aload_n hx hb dX9_those_5 rfl (lv_at hl 0 rfl) ?_
      refine r_get C h fk_X9_9 0 rfl rfl dX9_those_6 ?_
      refine lv_iconst (v := (4 : Int32)) hx hb dX9_those_9 rfl ?_
      refine r_ialdL C h 1 rfl (vlit rfl) 4 rfl dX9_those_10 ?_
      refine lv_icmp_ge (tgt := 39) hx hb dX9_those_11 rfl (fun c1 => ?_) (fun c1 => ?_)
      · replace hf := ifp c1 hf
        refine lv_iload_n hx hb dX9_those_39 rfl (lv_at hl 2 rfl) ?_
        cases hf
        exact r_iret C h hr hlk rfl dX9_those_40
      · replace hf := ifn c1 hf
        refine lv_iload_n hx hb dX9_those_14 rfl (lv_at hl 2 rfl) ?_
        refine lv_aload_n hx hb dX9_those_15 rfl (lv_at hl 0 rfl) ?_
        refine lv_iload_n hx hb dX9_those_16 rfl (lv_at hl 3 rfl) ?_
        refine lv_iload_n hx hb dX9_those_17 rfl (lv_at hl 1 rfl) ?_
        replace hf := bd1_inv hf
        obtain ⟨r2, hc3, hf⟩ := hf
        refine r_ciV0 C h (c_X9_get hc3) mv_X9_79 rfl 0 rfl [0, 1] rfl rfl hl.1 rfl (Nat.le_of_ble_eq_true rfl) (rok (by decide)) dX9_those_18 (fun H locs h => ?_)
        refine lv_if_le (tgt := 30) hx hb dX9_those_21 rfl (fun c4 => ?_) (fun c4 => ?_)
        · replace hf := ifp c4 hf
          refine lv_iconst (v := (0 : Int32)) hx hb dX9_those_30 rfl ?_
          refine lv_ior hx hb dX9_those_31 ?_
          refine lv_topi (fun t5 et5 => ?_)
          replace hf := lt1_inv et5 hf
          refine lv_istore_n (lv' := [(2, .int t5), (0, .ref h_this), (1, .int p0), (3, .int v3)]) hx hb dX9_those_32 rfl hl (by decide) rfl (fun ls hl => ?_)
          obtain ⟨t6, et6⟩ : ∃ y : Int32, y = v3 + (1 : Int32) := ⟨_, rfl⟩
          replace hf := lt1_inv et6 hf
          refine lv_iinc (v := t6) (lv' := [(3, .int t6), (2, .int t5), (0, .ref h_this), (1, .int p0)]) hx hb dX9_those_33 hl (k := 3) rfl (by rw [et6]; rfl) (by decide) rfl (fun ls hl => ?_)
          refine lv_goto (tgt := 4) hx hb dX9_those_36 rfl ?_
          exact hK2 _ _ _ _ (ih t5 t6 hf) _ _ _ h (lv_sub hl [2, 3, 1, 0] rfl)
        · replace hf := ifn c4 hf
          refine lv_iconst (v := (1 : Int32)) hx hb dX9_those_24 rfl ?_
          refine lv_iload_n hx hb dX9_those_25 rfl (lv_at hl 3 rfl) ?_
          refine lv_ishl hx hb dX9_those_26 ?_
          refine lv_goto (tgt := 31) hx hb dX9_those_27 rfl ?_
          refine lv_ior hx hb dX9_those_31 ?_
          refine lv_topi (fun t7 et7 => ?_)
          replace hf := lt1_inv et7 hf
          refine lv_istore_n (lv' := [(2, .int t7), (0, .ref h_this), (1, .int p0), (3, .int v3)]) hx hb dX9_those_32 rfl hl (by decide) rfl (fun ls hl => ?_)
          obtain ⟨t8, et8⟩ : ∃ y : Int32, y = v3 + (1 : Int32) := ⟨_, rfl⟩
          replace hf := lt1_inv et8 hf
          refine lv_iinc (v := t8) (lv' := [(3, .int t8), (2, .int t7), (0, .ref h_this), (1, .int p0)]) hx hb dX9_those_33 hl (k := 3) rfl (by rw [et8]; rfl) (by decide) rfl (fun ls hl => ?_)
          refine lv_goto (tgt := 4) hx hb dX9_those_36 rfl ?_
          exact hK2 _ _ _ _ (ih t7 t8 hf) _ _ _ h (lv_sub hl [2, 3, 1, 0] rfl)
  refine lv_iconst (v := (0 : Int32)) hx hb dX9_those_0 rfl ?_
  refine lv_istore_n (lv' := [(2, .int (0 : Int32)), (0, .ref h_this), (1, .int p0)]) hx hb dX9_those_1 rfl hl (by decide) rfl (fun ls hl => ?_)
  refine lv_iconst (v := (0 : Int32)) hx hb dX9_those_2 rfl ?_
  refine lv_istore_n (lv' := [(3, .int (0 : Int32)), (2, .int (0 : Int32)), (0, .ref h_this), (1, .int p0)]) hx hb dX9_those_3 rfl hl (by decide) rfl (fun ls hl => ?_)
  exact hK2 _ _ _ _ (L4 1000 (0 : Int32) (0 : Int32) hf) _ _ _ h (lv_sub hl [2, 3, 1, 0] rfl)
def f_X9_isOnRock (p0 : Int32) (f_this_s : Nat → Int32) : Option (Int32) := bd1 (f_X9_get p0 (4 : Int32) f_this_s) (fun r1 => (if r1 = 0 then bd1 (f_X9_get p0 (1 : Int32) f_this_s) (fun r4 => (if r4 = 0 then some (1 : Int32) else some (0 : Int32))) else some (0 : Int32)))
set_option maxRecDepth 100000 in
set_option maxHeartbeats 4000000 in
theorem c_X9_isOnRock {l : Launch} {G : Gt} {h_this h_this_s h_this_kept h_this_laid h_this_pile h_this_tape h_this_letters h_this_code0 h_this_read h_this_saved h_this_plan h_this_bestPlan h_this_offThen h_this_paidThen h_this_rows h_this_sorts h_this_sizes h_this_number h_this_holds h_this_heldOne h_this_trace : Nat} {p0 : Int32} {x_this_isKept : Int32} {x_this_taped : Int32} {x_this_at : Int32} {x_this_begun : Int32} {x_this_token : Int32} {x_this_value : Int32} {x_this_opened : Int32} {x_this_steps : Int32} {x_this_most : Int32} {x_this_many : Int32} {x_this_few : Int32} {x_this_everHome : Int32} {x_this_firstFit : Int32} {x_this_rowMany : Int32} {x_this_traced : Int32} {x_this_own : Int32} {x_this_isParted : Int32} {f_this_s : Nat → Int32} {r : Int32} (hf : f_X9_isOnRock p0 f_this_s = some r) : mFi l G yX9_isOnRock cX9_isOnRock 2 .boolean 1 [.ref h_this, .int p0] [(h_this, ob 9 [.ref h_this_s, .ref h_this_kept, .ref h_this_laid, .int x_this_isKept, .ref h_this_pile, .ref h_this_tape, .int x_this_taped, .ref h_this_letters, .int x_this_at, .int x_this_begun, .int x_this_token, .int x_this_value, .int x_this_opened, .int x_this_steps, .ref h_this_code0, .ref h_this_read, .ref h_this_saved, .ref h_this_plan, .ref h_this_bestPlan, .int x_this_most, .int x_this_many, .int x_this_few, .int x_this_everHome, .ref h_this_offThen, .ref h_this_paidThen, .int x_this_firstFit, .ref h_this_rows, .int x_this_rowMany, .ref h_this_sorts, .ref h_this_sizes, .ref h_this_number, .ref h_this_holds, .ref h_this_heldOne, .ref h_this_trace, .int x_this_traced, .int x_this_own, .int x_this_isParted]), (h_this_s, ia G 313 f_this_s)] r [(h_this, ob 9 [.ref h_this_s, .ref h_this_kept, .ref h_this_laid, .int x_this_isKept, .ref h_this_pile, .ref h_this_tape, .int x_this_taped, .ref h_this_letters, .int x_this_at, .int x_this_begun, .int x_this_token, .int x_this_value, .int x_this_opened, .int x_this_steps, .ref h_this_code0, .ref h_this_read, .ref h_this_saved, .ref h_this_plan, .ref h_this_bestPlan, .int x_this_most, .int x_this_many, .int x_this_few, .int x_this_everHome, .ref h_this_offThen, .ref h_this_paidThen, .int x_this_firstFit, .ref h_this_rows, .int x_this_rowMany, .ref h_this_sorts, .ref h_this_sizes, .ref h_this_number, .ref h_this_holds, .ref h_this_heldOne, .ref h_this_trace, .int x_this_traced, .int x_this_own, .int x_this_isParted]), (h_this_s, ia G 313 f_this_s)] := by
  refine mFi.of (by decide +kernel) (Nat.le_of_ble_eq_true rfl) ?_
  intro p e s m below meth c A C hr hlk h ls hl
  obtain ⟨hx, hb, hml, hown, hts⟩ := id C
  replace hl : lv_has ls 2 [(0, .ref h_this), (1, .int p0)] := hl
  unfold f_X9_isOnRock at hf
  refine lv_aload_n hx hb dX9_isOnRock_0 rfl (lv_at hl 0 rfl) ?_
  refine lv_iload_n hx hb dX9_isOnRock_1 rfl (lv_at hl 1 rfl) ?_
  refine lv_iconst (v := (4 : Int32)) hx hb dX9_isOnRock_2 rfl ?_
  replace hf := bd1_inv hf
  obtain ⟨r1, hc2, hf⟩ := hf
  refine r_ciV0 C h (c_X9_get hc2) mv_X9_79 rfl 0 rfl [0, 1] rfl rfl hl.1 rfl (Nat.le_of_ble_eq_true rfl) (rok (by decide)) dX9_isOnRock_3 (fun H locs h => ?_)
  refine lv_if_ne (tgt := 22) hx hb dX9_isOnRock_6 rfl (fun c3 => ?_) (fun c3 => ?_)
  · replace hf := ifn c3 hf
    refine lv_iconst (v := (0 : Int32)) hx hb dX9_isOnRock_22 rfl ?_
    cases hf
    exact r_iret C h hr hlk rfl dX9_isOnRock_23
  · replace hf := ifp c3 hf
    refine lv_aload_n hx hb dX9_isOnRock_9 rfl (lv_at hl 0 rfl) ?_
    refine lv_iload_n hx hb dX9_isOnRock_10 rfl (lv_at hl 1 rfl) ?_
    refine lv_iconst (v := (1 : Int32)) hx hb dX9_isOnRock_11 rfl ?_
    replace hf := bd1_inv hf
    obtain ⟨r4, hc5, hf⟩ := hf
    refine r_ciV0 C h (c_X9_get hc5) mv_X9_79 rfl 0 rfl [0, 1] rfl rfl hl.1 rfl (Nat.le_of_ble_eq_true rfl) (rok (by decide)) dX9_isOnRock_12 (fun H locs h => ?_)
    refine lv_if_ne (tgt := 22) hx hb dX9_isOnRock_15 rfl (fun c6 => ?_) (fun c6 => ?_)
    · replace hf := ifn c6 hf
      refine lv_iconst (v := (0 : Int32)) hx hb dX9_isOnRock_22 rfl ?_
      cases hf
      exact r_iret C h hr hlk rfl dX9_isOnRock_23
    · replace hf := ifp c6 hf
      refine lv_iconst (v := (1 : Int32)) hx hb dX9_isOnRock_18 rfl ?_
      refine lv_goto (tgt := 23) hx hb dX9_isOnRock_19 rfl ?_
      cases hf
      exact r_iret C h hr hlk rfl dX9_isOnRock_23
def f_X9_onRock_L4 (f_this_s : Nat → Int32) : Nat → Int32 → Int32 → Option (Int32)
  | 0, _, _ => none
  | n + 1, v1, v2 => (if (f_this_s 4) ≤ v2 then some v1 else bd1 (f_X9_isOnRock v2 f_this_s) (fun r2 => (if r2 = 0 then lt1 (v1 + (0 : Int32)) (fun (t5 : Int32) => lt1 (v2 + (1 : Int32)) (fun (t6 : Int32) => (f_X9_onRock_L4 f_this_s n) t5 t6)) else lt1 (v1 + (1 : Int32)) (fun (t7 : Int32) => lt1 (v2 + (1 : Int32)) (fun (t8 : Int32) => (f_X9_onRock_L4 f_this_s n) t7 t8)))))
def f_X9_onRock (f_this_s : Nat → Int32) : Option (Int32) := f_X9_onRock_L4 f_this_s 1000 (0 : Int32) (0 : Int32)
set_option maxRecDepth 100000 in
set_option maxHeartbeats 4000000 in
theorem c_X9_onRock {l : Launch} {G : Gt} {h_this h_this_s h_this_kept h_this_laid h_this_pile h_this_tape h_this_letters h_this_code0 h_this_read h_this_saved h_this_plan h_this_bestPlan h_this_offThen h_this_paidThen h_this_rows h_this_sorts h_this_sizes h_this_number h_this_holds h_this_heldOne h_this_trace : Nat} {x_this_isKept : Int32} {x_this_taped : Int32} {x_this_at : Int32} {x_this_begun : Int32} {x_this_token : Int32} {x_this_value : Int32} {x_this_opened : Int32} {x_this_steps : Int32} {x_this_most : Int32} {x_this_many : Int32} {x_this_few : Int32} {x_this_everHome : Int32} {x_this_firstFit : Int32} {x_this_rowMany : Int32} {x_this_traced : Int32} {x_this_own : Int32} {x_this_isParted : Int32} {f_this_s : Nat → Int32} {r : Int32} (hf : f_X9_onRock f_this_s = some r) : mFi l G yX9_onRock cX9_onRock 3 .int 2 [.ref h_this] [(h_this, ob 9 [.ref h_this_s, .ref h_this_kept, .ref h_this_laid, .int x_this_isKept, .ref h_this_pile, .ref h_this_tape, .int x_this_taped, .ref h_this_letters, .int x_this_at, .int x_this_begun, .int x_this_token, .int x_this_value, .int x_this_opened, .int x_this_steps, .ref h_this_code0, .ref h_this_read, .ref h_this_saved, .ref h_this_plan, .ref h_this_bestPlan, .int x_this_most, .int x_this_many, .int x_this_few, .int x_this_everHome, .ref h_this_offThen, .ref h_this_paidThen, .int x_this_firstFit, .ref h_this_rows, .int x_this_rowMany, .ref h_this_sorts, .ref h_this_sizes, .ref h_this_number, .ref h_this_holds, .ref h_this_heldOne, .ref h_this_trace, .int x_this_traced, .int x_this_own, .int x_this_isParted]), (h_this_s, ia G 313 f_this_s)] r [(h_this, ob 9 [.ref h_this_s, .ref h_this_kept, .ref h_this_laid, .int x_this_isKept, .ref h_this_pile, .ref h_this_tape, .int x_this_taped, .ref h_this_letters, .int x_this_at, .int x_this_begun, .int x_this_token, .int x_this_value, .int x_this_opened, .int x_this_steps, .ref h_this_code0, .ref h_this_read, .ref h_this_saved, .ref h_this_plan, .ref h_this_bestPlan, .int x_this_most, .int x_this_many, .int x_this_few, .int x_this_everHome, .ref h_this_offThen, .ref h_this_paidThen, .int x_this_firstFit, .ref h_this_rows, .int x_this_rowMany, .ref h_this_sorts, .ref h_this_sizes, .ref h_this_number, .ref h_this_holds, .ref h_this_heldOne, .ref h_this_trace, .int x_this_traced, .int x_this_own, .int x_this_isParted]), (h_this_s, ia G 313 f_this_s)] := by
  refine mFi.of (by decide +kernel) (Nat.le_of_ble_eq_true rfl) ?_
  intro p e s m below meth c A C hr hlk h ls hl
  obtain ⟨hx, hb, hml, hown, hts⟩ := id C
  replace hl : lv_has ls 3 [(0, .ref h_this)] := hl
  unfold f_X9_onRock at hf
  refine with_K G A 3 (fun K hK1 hK2 => ?_)
  have L4 : ∀ (n : Nat) (v1 : Int32) (v2 : Int32), f_X9_onRock_L4 f_this_s n v1 v2 = some r → K 4 ([] : List Value) [(h_this, ob 9 [.ref h_this_s, .ref h_this_kept, .ref h_this_laid, .int x_this_isKept, .ref h_this_pile, .ref h_this_tape, .int x_this_taped, .ref h_this_letters, .int x_this_at, .int x_this_begun, .int x_this_token, .int x_this_value, .int x_this_opened, .int x_this_steps, .ref h_this_code0, .ref h_this_read, .ref h_this_saved, .ref h_this_plan, .ref h_this_bestPlan, .int x_this_most, .int x_this_many, .int x_this_few, .int x_this_everHome, .ref h_this_offThen, .ref h_this_paidThen, .int x_this_firstFit, .ref h_this_rows, .int x_this_rowMany, .ref h_this_sorts, .ref h_this_sizes, .ref h_this_number, .ref h_this_holds, .ref h_this_heldOne, .ref h_this_trace, .int x_this_traced, .int x_this_own, .int x_this_isParted]), (h_this_s, ia G 313 f_this_s)] [(0, .ref h_this), (1, .int v1), (2, .int v2)] := by
    intro n
    induction n with
    | zero =>
      intro v1 v2 hf
      replace hf : (none : Option _) = some _ := hf
      cases hf
    | succ n ih =>
      intro v1 v2 hf
      rw [f_X9_onRock_L4] at hf
      refine hK1 _ _ _ _ (fun H locs ls h hl => ?_)
      refine lv_iload_n hx hb dX9_onRock_4 rfl (lv_at hl 2 rfl) ?_
      refine lv_aload_n hx hb dX9_onRock_5 rfl (lv_at hl 0 rfl) ?_
      refine r_get C h fk_X9_9 0 rfl rfl dX9_onRock_6 ?_
      refine lv_iconst (v := (4 : Int32)) hx hb dX9_onRock_9 rfl ?_
      refine r_ialdL C h 1 rfl (vlit rfl) 4 rfl dX9_onRock_10 ?_
      refine lv_icmp_ge (tgt := 36) hx hb dX9_onRock_11 rfl (fun c1 => ?_) (fun c1 => ?_)
      · replace hf := ifp c1 hf
        refine lv_iload_n hx hb dX9_onRock_36 rfl (lv_at hl 1 rfl) ?_
        cases hf
        exact r_iret C h hr hlk rfl dX9_onRock_37
      · replace hf := ifn c1 hf
        refine lv_iload_n hx hb dX9_onRock_14 rfl (lv_at hl 1 rfl) ?_
        refine lv_aload_n hx hb dX9_onRock_15 rfl (lv_at hl 0 rfl) ?_
        refine lv_iload_n hx hb dX9_onRock_16 rfl (lv_at hl 2 rfl) ?_
        replace hf := bd1_inv hf
        obtain ⟨r2, hc3, hf⟩ := hf
        refine r_ciV0 C h (c_X9_isOnRock hc3) mv_X9_108 rfl 0 rfl [0, 1] rfl rfl hl.1 rfl (Nat.le_of_ble_eq_true rfl) (rok (by decide)) dX9_onRock_17 (fun H locs h => ?_)
        refine lv_if_eq (tgt := 27) hx hb dX9_onRock_20 rfl (fun c4 => ?_) (fun c4 => ?_)
        · replace hf := ifp c4 hf
          refine lv_iconst (v := (0 : Int32)) hx hb dX9_onRock_27 rfl ?_
          refine lv_iadd hx hb dX9_onRock_28 ?_
          refine lv_topi (fun t5 et5 => ?_)
          replace hf := lt1_inv et5 hf
          refine lv_istore_n (lv' := [(1, .int t5), (0, .ref h_this), (2, .int v2)]) hx hb dX9_onRock_29 rfl hl (by decide) rfl (fun ls hl => ?_)
          obtain ⟨t6, et6⟩ : ∃ y : Int32, y = v2 + (1 : Int32) := ⟨_, rfl⟩
          replace hf := lt1_inv et6 hf
          refine lv_iinc (v := t6) (lv' := [(2, .int t6), (1, .int t5), (0, .ref h_this)]) hx hb dX9_onRock_30 hl (k := 2) rfl (by rw [et6]; rfl) (by decide) rfl (fun ls hl => ?_)
          refine lv_goto (tgt := 4) hx hb dX9_onRock_33 rfl ?_
          exact hK2 _ _ _ _ (ih t5 t6 hf) _ _ _ h (lv_sub hl [2, 1, 0] rfl)
        · replace hf := ifn c4 hf
          refine lv_iconst (v := (1 : Int32)) hx hb dX9_onRock_23 rfl ?_
          refine lv_goto (tgt := 28) hx hb dX9_onRock_24 rfl ?_
          refine lv_iadd hx hb dX9_onRock_28 ?_
          refine lv_topi (fun t7 et7 => ?_)
          replace hf := lt1_inv et7 hf
          refine lv_istore_n (lv' := [(1, .int t7), (0, .ref h_this), (2, .int v2)]) hx hb dX9_onRock_29 rfl hl (by decide) rfl (fun ls hl => ?_)
          obtain ⟨t8, et8⟩ : ∃ y : Int32, y = v2 + (1 : Int32) := ⟨_, rfl⟩
          replace hf := lt1_inv et8 hf
          refine lv_iinc (v := t8) (lv' := [(2, .int t8), (1, .int t7), (0, .ref h_this)]) hx hb dX9_onRock_30 hl (k := 2) rfl (by rw [et8]; rfl) (by decide) rfl (fun ls hl => ?_)
          refine lv_goto (tgt := 4) hx hb dX9_onRock_33 rfl ?_
          exact hK2 _ _ _ _ (ih t7 t8 hf) _ _ _ h (lv_sub hl [2, 1, 0] rfl)
  refine lv_iconst (v := (0 : Int32)) hx hb dX9_onRock_0 rfl ?_
  refine lv_istore_n (lv' := [(1, .int (0 : Int32)), (0, .ref h_this)]) hx hb dX9_onRock_1 rfl hl (by decide) rfl (fun ls hl => ?_)
  refine lv_iconst (v := (0 : Int32)) hx hb dX9_onRock_2 rfl ?_
  refine lv_istore_n (lv' := [(2, .int (0 : Int32)), (1, .int (0 : Int32)), (0, .ref h_this)]) hx hb dX9_onRock_3 rfl hl (by decide) rfl (fun ls hl => ?_)
  exact hK2 _ _ _ _ (L4 1000 (0 : Int32) (0 : Int32) hf) _ _ _ h (lv_sub hl [2, 1, 0] rfl)
