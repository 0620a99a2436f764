def f_X9_in1 (p0 : Int32) (p1 : Int32) (p2 : Int32) : Option (Int32) := (if p0 < p1 then some (0 : Int32) else (if p2 < p0 then some (0 : Int32) else some (1 : Int32)))
set_option maxRecDepth 100000 in
set_option maxHeartbeats 4000000 in
theorem c_X9_in1 {l : Launch} {G : Gt} {p0 : Int32} {p1 : Int32} {p2 : Int32} {r : Int32} (hf : f_X9_in1 p0 p1 p2 = some r) : mFi l G yX9_in1 cX9_in1 3 .boolean 0 [.int p0, .int p1, .int p2] ([] : va_W) r ([] : va_W) := by
  refine mFi.of (by decide +kernel) (Nat.le_of_ble_eq_true rfl) ?_
  intro p e s m below meth c A C hr hlk h ls hl
  obtain ⟨hx, hb, hml, hown, hts⟩ := id C
  replace hl : lv_has ls 3 [(0, .int p0), (1, .int p1), (2, .int p2)] := hl
  unfold f_X9_in1 at hf
  refine lv_iload_n hx hb dX9_in1_0 rfl (lv_at hl 0 rfl) ?_
  refine lv_iload_n hx hb dX9_in1_1 rfl (lv_at hl 1 rfl) ?_
  refine lv_icmp_lt (tgt := 14) hx hb dX9_in1_2 rfl (fun c1 => ?_) (fun c1 => ?_)
  · replace hf := ifp c1 hf
    refine lv_iconst (v := (0 : Int32)) hx hb dX9_in1_14 rfl ?_
    cases hf
    exact r_iret C h hr hlk rfl dX9_in1_15
  · replace hf := ifn c1 hf
    refine lv_iload_n hx hb dX9_in1_5 rfl (lv_at hl 0 rfl) ?_
    refine lv_iload_n hx hb dX9_in1_6 rfl (lv_at hl 2 rfl) ?_
    refine lv_icmp_gt (tgt := 14) hx hb dX9_in1_7 rfl (fun c2 => ?_) (fun c2 => ?_)
    · replace hf := ifp c2 hf
      refine lv_iconst (v := (0 : Int32)) hx hb dX9_in1_14 rfl ?_
      cases hf
      exact r_iret C h hr hlk rfl dX9_in1_15
    · replace hf := ifn c2 hf
      refine lv_iconst (v := (1 : Int32)) hx hb dX9_in1_10 rfl ?_
      refine lv_goto (tgt := 15) hx hb dX9_in1_11 rfl ?_
      cases hf
      exact r_iret C h hr hlk rfl dX9_in1_15
def f_X9_isDigit (p0 : Int32) : Option (Int32) := bd1 (f_X9_in1 p0 (0 : Int32) (9 : Int32)) (fun r1 => chkB r1 (some r1))
set_option maxRecDepth 100000 in
set_option maxHeartbeats 4000000 in
theorem c_X9_isDigit {l : Launch} {G : Gt} {p0 : Int32} {r : Int32} (hf : f_X9_isDigit p0 = some r) : mFi l G yX9_isDigit cX9_isDigit 1 .boolean 1 [.int p0] ([] : va_W) r ([] : va_W) := by
  refine mFi.of (by decide +kernel) (Nat.le_of_ble_eq_true rfl) ?_
  intro p e s m below meth c A C hr hlk h ls hl
  obtain ⟨hx, hb, hml, hown, hts⟩ := id C
  replace hl : lv_has ls 1 [(0, .int p0)] := hl
  unfold f_X9_isDigit at hf
  refine lv_iload_n hx hb dX9_isDigit_0 rfl (lv_at hl 0 rfl) ?_
  refine lv_iconst (v := (0 : Int32)) hx hb dX9_isDigit_1 rfl ?_
  refine lv_bipush (v := (9 : Int32)) hx hb dX9_isDigit_2 rfl ?_
  replace hf := bd1_inv hf
  obtain ⟨r1, hc2, hf⟩ := hf
  refine r_ciS0 C h (c_X9_in1 hc2) ms_X9_71 rfl [] rfl rfl hl.1 rfl (Nat.le_of_ble_eq_true rfl) (rok (by decide)) dX9_isDigit_4 (fun H locs h => ?_)
  replace hf := chkB_inv hf
  obtain ⟨hb3, hf⟩ := hf
  cases hf
  exact r_iret C h hr hlk hb3 dX9_isDigit_7
def f_X9_isLane (p0 : Int32) : Option (Int32) := bd1 (f_X9_in1 p0 (0 : Int32) (5 : Int32)) (fun r1 => chkB r1 (some r1))
set_option maxRecDepth 100000 in
set_option maxHeartbeats 4000000 in
theorem c_X9_isLane {l : Launch} {G : Gt} {p0 : Int32} {r : Int32} (hf : f_X9_isLane p0 = some r) : mFi l G yX9_isLane cX9_isLane 1 .boolean 1 [.int p0] ([] : va_W) r ([] : va_W) := by
  refine mFi.of (by decide +kernel) (Nat.le_of_ble_eq_true rfl) ?_
  intro p e s m below meth c A C hr hlk h ls hl
  obtain ⟨hx, hb, hml, hown, hts⟩ := id C
  replace hl : lv_has ls 1 [(0, .int p0)] := hl
  unfold f_X9_isLane at hf
  refine lv_iload_n hx hb dX9_isLane_0 rfl (lv_at hl 0 rfl) ?_
  refine lv_iconst (v := (0 : Int32)) hx hb dX9_isLane_1 rfl ?_
  refine lv_iconst (v := (5 : Int32)) hx hb dX9_isLane_2 rfl ?_
  replace hf := bd1_inv hf
  obtain ⟨r1, hc2, hf⟩ := hf
  refine r_ciS0 C h (c_X9_in1 hc2) ms_X9_71 rfl [] rfl rfl hl.1 rfl (Nat.le_of_ble_eq_true rfl) (rok (by decide)) dX9_isLane_3 (fun H locs h => ?_)
  replace hf := chkB_inv hf
  obtain ⟨hb3, hf⟩ := hf
  cases hf
  exact r_iret C h hr hlk hb3 dX9_isLane_6
def f_X9_puts (p0 : Int32) (p1 : Int32) (p2 : Int32) (f_this_s : Nat → Int32) : Option ((Nat → Int32)) := chkI (((35 : Int32) + ((5 : Int32) * p0)) + p1) 313 (some (upd f_this_s (((35 : Int32) + ((5 : Int32) * p0)) + p1).toNatClampNeg p2))
set_option maxRecDepth 100000 in
set_option maxHeartbeats 4000000 in
theorem c_X9_puts {l : Launch} {G : Gt} {h_this h_this_s h_this_kept h_this_laid h_this_pile h_this_tape h_this_letters h_this_code0 h_this_read h_this_saved h_this_plan h_this_bestPlan h_this_offThen h_this_paidThen h_this_rows h_this_sorts h_this_sizes h_this_number h_this_holds h_this_heldOne h_this_trace : Nat} {p0 : Int32} {p1 : Int32} {p2 : Int32} {x_this_isKept : Int32} {x_this_taped : Int32} {x_this_at : Int32} {x_this_begun : Int32} {x_this_token : Int32} {x_this_value : Int32} {x_this_opened : Int32} {x_this_steps : Int32} {x_this_most : Int32} {x_this_many : Int32} {x_this_few : Int32} {x_this_everHome : Int32} {x_this_firstFit : Int32} {x_this_rowMany : Int32} {x_this_traced : Int32} {x_this_own : Int32} {x_this_isParted : Int32} {f_this_s : Nat → Int32} {m_this_s : Nat → Int32} (hf : f_X9_puts p0 p1 p2 f_this_s = some m_this_s) : mFv l G yX9_puts cX9_puts 4 0 [.ref h_this, .int p0, .int p1, .int p2] [(h_this, ob 9 [.ref h_this_s, .ref h_this_kept, .ref h_this_laid, .int x_this_isKept, .ref h_this_pile, .ref h_this_tape, .int x_this_taped, .ref h_this_letters, .int x_this_at, .int x_this_begun, .int x_this_token, .int x_this_value, .int x_this_opened, .int x_this_steps, .ref h_this_code0, .ref h_this_read, .ref h_this_saved, .ref h_this_plan, .ref h_this_bestPlan, .int x_this_most, .int x_this_many, .int x_this_few, .int x_this_everHome, .ref h_this_offThen, .ref h_this_paidThen, .int x_this_firstFit, .ref h_this_rows, .int x_this_rowMany, .ref h_this_sorts, .ref h_this_sizes, .ref h_this_number, .ref h_this_holds, .ref h_this_heldOne, .ref h_this_trace, .int x_this_traced, .int x_this_own, .int x_this_isParted]), (h_this_s, ia G 313 f_this_s)] [(h_this, ob 9 [.ref h_this_s, .ref h_this_kept, .ref h_this_laid, .int x_this_isKept, .ref h_this_pile, .ref h_this_tape, .int x_this_taped, .ref h_this_letters, .int x_this_at, .int x_this_begun, .int x_this_token, .int x_this_value, .int x_this_opened, .int x_this_steps, .ref h_this_code0, .ref h_this_read, .ref h_this_saved, .ref h_this_plan, .ref h_this_bestPlan, .int x_this_most, .int x_this_many, .int x_this_few, .int x_this_everHome, .ref h_this_offThen, .ref h_this_paidThen, .int x_this_firstFit, .ref h_this_rows, .int x_this_rowMany, .ref h_this_sorts, .ref h_this_sizes, .ref h_this_number, .ref h_this_holds, .ref h_this_heldOne, .ref h_this_trace, .int x_this_traced, .int x_this_own, .int x_this_isParted]), (h_this_s, ia G 313 m_this_s)] := by
  refine mFv.of (by decide +kernel) (Nat.le_of_ble_eq_true rfl) ?_
  intro p e s m below meth c A C hr hlk h ls hl
  obtain ⟨hx, hb, hml, hown, hts⟩ := id C
  replace hl : lv_has ls 4 [(0, .ref h_this), (1, .int p0), (2, .int p1), (3, .int p2)] := hl
  unfold f_X9_puts at hf
  refine lv_aload_n hx hb dX9_puts_0 rfl (lv_at hl 0 rfl) ?_
  refine r_get C h fk_X9_9 0 rfl rfl dX9_puts_1 ?_
  refine lv_bipush (v := (35 : Int32)) hx hb dX9_puts_4 rfl ?_
  refine lv_iconst (v := (5 : Int32)) hx hb dX9_puts_6 rfl ?_
  refine lv_iload_n hx hb dX9_puts_7 rfl (lv_at hl 1 rfl) ?_
  refine lv_imul hx hb dX9_puts_8 ?_
  refine lv_iadd hx hb dX9_puts_9 ?_
  refine lv_iload_n hx hb dX9_puts_10 rfl (lv_at hl 2 rfl) ?_
  refine lv_iadd hx hb dX9_puts_11 ?_
  refine lv_iload_n hx hb dX9_puts_12 rfl (lv_at hl 3 rfl) ?_
  replace hf := chkI_inv hf
  obtain ⟨hi1, hf⟩ := hf
  refine r_iast (ws' := [(h_this, ob 9 [.ref h_this_s, .ref h_this_kept, .ref h_this_laid, .int x_this_isKept, .ref h_this_pile, .ref h_this_tape, .int x_this_taped, .ref h_this_letters, .int x_this_at, .int x_this_begun, .int x_this_token, .int x_this_value, .int x_this_opened, .int x_this_steps, .ref h_this_code0, .ref h_this_read, .ref h_this_saved, .ref h_this_plan, .ref h_this_bestPlan, .int x_this_most, .int x_this_many, .int x_this_few, .int x_this_everHome, .ref h_this_offThen, .ref h_this_paidThen, .int x_this_firstFit, .ref h_this_rows, .int x_this_rowMany, .ref h_this_sorts, .ref h_this_sizes, .ref h_this_number, .ref h_this_holds, .ref h_this_heldOne, .ref h_this_trace, .int x_this_traced, .int x_this_own, .int x_this_isParted]), (h_this_s, ia G 313 (upd f_this_s (((35 : Int32) + ((5 : Int32) * p0)) + p1).toNatClampNeg p2))]) C h 1 rfl hi1 dX9_puts_13 rfl (fun H locs h => ?_)
  cases hf
  exact r_vret C h hr hlk dX9_puts_14
def f_X9_ship (p0 : Int32) (p1 : Int32) (p2 : Int32) (p3 : Int32) (f_this_s : Nat → Int32) : Option (Int32 × (Nat → Int32)) := bd1 (f_X9_in1 p0 (1 : Int32) (5 : Int32)) (fun r1 => (if r1 = 0 then some ((-1 : Int32), f_this_s) else bd1 (f_X9_in1 p1 (0 : Int32) (99 : Int32)) (fun r4 => (if r4 = 0 then some ((-1 : Int32), f_this_s) else bd1 (f_X9_isDigit p2) (fun r7 => (if r7 = 0 then some ((-1 : Int32), f_this_s) else bd1 (f_X9_isLane p3) (fun r10 => (if r10 = 0 then some ((-1 : Int32), f_this_s) else (if (f_this_s 4) = (6 : Int32) then some ((-2 : Int32), f_this_s) else lt1 (f_this_s 4) (fun (t14 : Int32) => bd1 (f_X9_puts t14 (0 : Int32) p0 f_this_s) (fun g15 => bd1 (f_X9_puts t14 (1 : Int32) p1 g15) (fun g17 => bd1 (f_X9_puts t14 (2 : Int32) p2 g17) (fun g19 => bd1 (f_X9_puts t14 (3 : Int32) p3 g19) (fun g21 => bd1 (f_X9_puts t14 (4 : Int32) (0 : Int32) g21) (fun g23 => lt1 ((g23 4) + (1 : Int32)) (fun (t25 : Int32) => some (t14, upd g23 4 t25)))))))))))))))))
set_option maxRecDepth 100000 in
set_option maxHeartbeats 4000000 in
theorem c_X9_ship {l : Launch} {G : Gt} {h_this h_this_s h_this_kept h_this_laid h_this_pile h_this_tape h_this_letters h_this_code0 h_this_read h_this_saved h_this_plan h_this_bestPlan h_this_offThen h_this_paidThen h_this_rows h_this_sorts h_this_sizes h_this_number h_this_holds h_this_heldOne h_this_trace : Nat} {p0 : Int32} {p1 : Int32} {p2 : Int32} {p3 : Int32} {x_this_isKept : Int32} {x_this_taped : Int32} {x_this_at : Int32} {x_this_begun : Int32} {x_this_token : Int32} {x_this_value : Int32} {x_this_opened : Int32} {x_this_steps : Int32} {x_this_most : Int32} {x_this_many : Int32} {x_this_few : Int32} {x_this_everHome : Int32} {x_this_firstFit : Int32} {x_this_rowMany : Int32} {x_this_traced : Int32} {x_this_own : Int32} {x_this_isParted : Int32} {f_this_s : Nat → Int32} {r : Int32} {m_this_s : Nat → Int32} (hf : f_X9_ship p0 p1 p2 p3 f_this_s = some (r, m_this_s)) : mFi l G yX9_ship cX9_ship 6 .int 2 [.ref h_this, .int p0, .int p1, .int p2, .int p3] [(h_this, ob 9 [.ref h_this_s, .ref h_this_kept, .ref h_this_laid, .int x_this_isKept, .ref h_this_pile, .ref h_this_tape, .int x_this_taped, .ref h_this_letters, .int x_this_at, .int x_this_begun, .int x_this_token, .int x_this_value, .int x_this_opened, .int x_this_steps, .ref h_this_code0, .ref h_this_read, .ref h_this_saved, .ref h_this_plan, .ref h_this_bestPlan, .int x_this_most, .int x_this_many, .int x_this_few, .int x_this_everHome, .ref h_this_offThen, .ref h_this_paidThen, .int x_this_firstFit, .ref h_this_rows, .int x_this_rowMany, .ref h_this_sorts, .ref h_this_sizes, .ref h_this_number, .ref h_this_holds, .ref h_this_heldOne, .ref h_this_trace, .int x_this_traced, .int x_this_own, .int x_this_isParted]), (h_this_s, ia G 313 f_this_s)] r [(h_this, ob 9 [.ref h_this_s, .ref h_this_kept, .ref h_this_laid, .int x_this_isKept, .ref h_this_pile, .ref h_this_tape, .int x_this_taped, .ref h_this_letters, .int x_this_at, .int x_this_begun, .int x_this_token, .int x_this_value, .int x_this_opened, .int x_this_steps, .ref h_this_code0, .ref h_this_read, .ref h_this_saved, .ref h_this_plan, .ref h_this_bestPlan, .int x_this_most, .int x_this_many, .int x_this_few, .int x_this_everHome, .ref h_this_offThen, .ref h_this_paidThen, .int x_this_firstFit, .ref h_this_rows, .int x_this_rowMany, .ref h_this_sorts, .ref h_this_sizes, .ref h_this_number, .ref h_this_holds, .ref h_this_heldOne, .ref h_this_trace, .int x_this_traced, .int x_this_own, .int x_this_isParted]), (h_this_s, ia G 313 m_this_s)] := by
  refine mFi.of (by decide +kernel) (Nat.le_of_ble_eq_true rfl) ?_
  intro p e s m below meth c A C hr hlk h ls hl
  obtain ⟨hx, hb, hml, hown, hts⟩ := id C
  replace hl : lv_has ls 6 [(0, .ref h_this), (1, .int p0), (2, .int p1), (3, .int p2), (4, .int p3)] := hl
  unfold f_X9_ship at hf
  refine lv_iload_n hx hb dX9_ship_0 rfl (lv_at hl 1 rfl) ?_
  refine lv_iconst (v := (1 : Int32)) hx hb dX9_ship_1 rfl ?_
  refine lv_iconst (v := (5 : Int32)) hx hb dX9_ship_2 rfl ?_
  replace hf := bd1_inv hf
  obtain ⟨r1, hc2, hf⟩ := hf
  refine r_ciS0 C h (c_X9_in1 hc2) ms_X9_71 rfl [] rfl rfl hl.1 rfl (Nat.le_of_ble_eq_true rfl) (rok (by decide)) dX9_ship_3 (fun H locs h => ?_)
  refine lv_if_eq (tgt := 34) hx hb dX9_ship_6 rfl (fun c3 => ?_) (fun c3 => ?_)
  · replace hf := ifp c3 hf
    refine lv_iconst (v := (-1 : Int32)) hx hb dX9_ship_34 rfl ?_
    cases hf
    exact r_iret C h hr hlk rfl dX9_ship_35
  · replace hf := ifn c3 hf
    refine lv_iload_n hx hb dX9_ship_9 rfl (lv_at hl 2 rfl) ?_
    refine lv_iconst (v := (0 : Int32)) hx hb dX9_ship_10 rfl ?_
    refine lv_bipush (v := (99 : Int32)) hx hb dX9_ship_11 rfl ?_
    replace hf := bd1_inv hf
    obtain ⟨r4, hc5, hf⟩ := hf
    refine r_ciS0 C h (c_X9_in1 hc5) ms_X9_71 rfl [] rfl rfl hl.1 rfl (Nat.le_of_ble_eq_true rfl) (rok (by decide)) dX9_ship_13 (fun H locs h => ?_)
    refine lv_if_eq (tgt := 34) hx hb dX9_ship_16 rfl (fun c6 => ?_) (fun c6 => ?_)
    · replace hf := ifp c6 hf
      refine lv_iconst (v := (-1 : Int32)) hx hb dX9_ship_34 rfl ?_
      cases hf
      exact r_iret C h hr hlk rfl dX9_ship_35
    · replace hf := ifn c6 hf
      refine lv_iload_n hx hb dX9_ship_19 rfl (lv_at hl 3 rfl) ?_
      replace hf := bd1_inv hf
      obtain ⟨r7, hc8, hf⟩ := hf
      refine r_ciS0 C h (c_X9_isDigit hc8) ms_X9_220 rfl [] rfl rfl hl.1 rfl (Nat.le_of_ble_eq_true rfl) (rok (by decide)) dX9_ship_20 (fun H locs h => ?_)
      refine lv_if_eq (tgt := 34) hx hb dX9_ship_23 rfl (fun c9 => ?_) (fun c9 => ?_)
      · replace hf := ifp c9 hf
        refine lv_iconst (v := (-1 : Int32)) hx hb dX9_ship_34 rfl ?_
        cases hf
        exact r_iret C h hr hlk rfl dX9_ship_35
      · replace hf := ifn c9 hf
        refine lv_iload hx hb dX9_ship_26 (lv_at hl 4 rfl) ?_
        replace hf := bd1_inv hf
        obtain ⟨r10, hc11, hf⟩ := hf
        refine r_ciS0 C h (c_X9_isLane hc11) ms_X9_223 rfl [] rfl rfl hl.1 rfl (Nat.le_of_ble_eq_true rfl) (rok (by decide)) dX9_ship_28 (fun H locs h => ?_)
        refine lv_if_ne (tgt := 36) hx hb dX9_ship_31 rfl (fun c12 => ?_) (fun c12 => ?_)
        · replace hf := ifn c12 hf
          refine lv_aload_n hx hb dX9_ship_36 rfl (lv_at hl 0 rfl) ?_
          refine r_get C h fk_X9_9 0 rfl rfl dX9_ship_37 ?_
          refine lv_iconst (v := (4 : Int32)) hx hb dX9_ship_40 rfl ?_
          refine r_ialdL C h 1 rfl (vlit rfl) 4 rfl dX9_ship_41 ?_
          refine lv_bipush (v := (6 : Int32)) hx hb dX9_ship_42 rfl ?_
          refine lv_icmp_ne (tgt := 50) hx hb dX9_ship_44 rfl (fun c13 => ?_) (fun c13 => ?_)
          · replace hf := ifn c13 hf
            refine lv_aload_n hx hb dX9_ship_50 rfl (lv_at hl 0 rfl) ?_
            refine r_get C h fk_X9_9 0 rfl rfl dX9_ship_51 ?_
            refine lv_iconst (v := (4 : Int32)) hx hb dX9_ship_54 rfl ?_
            refine r_ialdL C h 1 rfl (vlit rfl) 4 rfl dX9_ship_55 ?_
            refine lv_topi (fun t14 et14 => ?_)
            replace hf := lt1_inv et14 hf
            refine lv_istore (lv' := [(5, .int t14), (0, .ref h_this), (1, .int p0), (2, .int p1), (3, .int p2), (4, .int p3)]) hx hb dX9_ship_56 hl (by decide) rfl (fun ls hl => ?_)
            refine lv_aload_n hx hb dX9_ship_58 rfl (lv_at hl 1 rfl) ?_
            refine lv_iload hx hb dX9_ship_59 (lv_at hl 0 rfl) ?_
            refine lv_iconst (v := (0 : Int32)) hx hb dX9_ship_61 rfl ?_
            refine lv_iload_n hx hb dX9_ship_62 rfl (lv_at hl 2 rfl) ?_
            replace hf := bd1_inv hf
            obtain ⟨g15, hc16, hf⟩ := hf
            refine r_cvV (ws' := [(h_this, ob 9 [.ref h_this_s, .ref h_this_kept, .ref h_this_laid, .int x_this_isKept, .ref h_this_pile, .ref h_this_tape, .int x_this_taped, .ref h_this_letters, .int x_this_at, .int x_this_begun, .int x_this_token, .int x_this_value, .int x_this_opened, .int x_this_steps, .ref h_this_code0, .ref h_this_read, .ref h_this_saved, .ref h_this_plan, .ref h_this_bestPlan, .int x_this_most, .int x_this_many, .int x_this_few, .int x_this_everHome, .ref h_this_offThen, .ref h_this_paidThen, .int x_this_firstFit, .ref h_this_rows, .int x_this_rowMany, .ref h_this_sorts, .ref h_this_sizes, .ref h_this_number, .ref h_this_holds, .ref h_this_heldOne, .ref h_this_trace, .int x_this_traced, .int x_this_own, .int x_this_isParted]), (h_this_s, ia G 313 g15)]) C h (c_X9_puts hc16) mv_X9_195 rfl 0 rfl [0, 1] rfl rfl rfl rfl rfl hl.1 rfl (Nat.le_of_ble_eq_true rfl) (rok (by decide)) dX9_ship_63 (fun H locs h => ?_)
            refine lv_aload_n hx hb dX9_ship_66 rfl (lv_at hl 1 rfl) ?_
            refine lv_iload hx hb dX9_ship_67 (lv_at hl 0 rfl) ?_
            refine lv_iconst (v := (1 : Int32)) hx hb dX9_ship_69 rfl ?_
            refine lv_iload_n hx hb dX9_ship_70 rfl (lv_at hl 3 rfl) ?_
            replace hf := bd1_inv hf
            obtain ⟨g17, hc18, hf⟩ := hf
            refine r_cvV (ws' := [(h_this, ob 9 [.ref h_this_s, .ref h_this_kept, .ref h_this_laid, .int x_this_isKept, .ref h_this_pile, .ref h_this_tape, .int x_this_taped, .ref h_this_letters, .int x_this_at, .int x_this_begun, .int x_this_token, .int x_this_value, .int x_this_opened, .int x_this_steps, .ref h_this_code0, .ref h_this_read, .ref h_this_saved, .ref h_this_plan, .ref h_this_bestPlan, .int x_this_most, .int x_this_many, .int x_this_few, .int x_this_everHome, .ref h_this_offThen, .ref h_this_paidThen, .int x_this_firstFit, .ref h_this_rows, .int x_this_rowMany, .ref h_this_sorts, .ref h_this_sizes, .ref h_this_number, .ref h_this_holds, .ref h_this_heldOne, .ref h_this_trace, .int x_this_traced, .int x_this_own, .int x_this_isParted]), (h_this_s, ia G 313 g17)]) C h (c_X9_puts hc18) mv_X9_195 rfl 0 rfl [0, 1] rfl rfl rfl rfl rfl hl.1 rfl (Nat.le_of_ble_eq_true rfl) (rok (by decide)) dX9_ship_71 (fun H locs h => ?_)
            refine lv_aload_n hx hb dX9_ship_74 rfl (lv_at hl 1 rfl) ?_
            refine lv_iload hx hb dX9_ship_75 (lv_at hl 0 rfl) ?_
            refine lv_iconst (v := (2 : Int32)) hx hb dX9_ship_77 rfl ?_
            refine lv_iload_n hx hb dX9_ship_78 rfl (lv_at hl 4 rfl) ?_
            replace hf := bd1_inv hf
            obtain ⟨g19, hc20, hf⟩ := hf
            refine r_cvV (ws' := [(h_this, ob 9 [.ref h_this_s, .ref h_this_kept, .ref h_this_laid, .int x_this_isKept, .ref h_this_pile, .ref h_this_tape, .int x_this_taped, .ref h_this_letters, .int x_this_at, .int x_this_begun, .int x_this_token, .int x_this_value, .int x_this_opened, .int x_this_steps, .ref h_this_code0, .ref h_this_read, .ref h_this_saved, .ref h_this_plan, .ref h_this_bestPlan, .int x_this_most, .int x_this_many, .int x_this_few, .int x_this_everHome, .ref h_this_offThen, .ref h_this_paidThen, .int x_this_firstFit, .ref h_this_rows, .int x_this_rowMany, .ref h_this_sorts, .ref h_this_sizes, .ref h_this_number, .ref h_this_holds, .ref h_this_heldOne, .ref h_this_trace, .int x_this_traced, .int x_this_own, .int x_this_isParted]), (h_this_s, ia G 313 g19)]) C h (c_X9_puts hc20) mv_X9_195 rfl 0 rfl [0, 1] rfl rfl rfl rfl rfl hl.1 rfl (Nat.le_of_ble_eq_true rfl) (rok (by decide)) dX9_ship_79 (fun H locs h => ?_)
            refine lv_aload_n hx hb dX9_ship_82 rfl (lv_at hl 1 rfl) ?_
            refine lv_iload hx hb dX9_ship_83 (lv_at hl 0 rfl) ?_
            refine lv_iconst (v := (3 : Int32)) hx hb dX9_ship_85 rfl ?_
            refine lv_iload hx hb dX9_ship_86 (lv_at hl 5 rfl) ?_
            replace hf := bd1_inv hf
            obtain ⟨g21, hc22, hf⟩ := hf
            refine r_cvV (ws' := [(h_this, ob 9 [.ref h_this_s, .ref h_this_kept, .ref h_this_laid, .int x_this_isKept, .ref h_this_pile, .ref h_this_tape, .int x_this_taped, .ref h_this_letters, .int x_this_at, .int x_this_begun, .int x_this_token, .int x_this_value, .int x_this_opened, .int x_this_steps, .ref h_this_code0, .ref h_this_read, .ref h_this_saved, .ref h_this_plan, .ref h_this_bestPlan, .int x_this_most, .int x_this_many, .int x_this_few, .int x_this_everHome, .ref h_this_offThen, .ref h_this_paidThen, .int x_this_firstFit, .ref h_this_rows, .int x_this_rowMany, .ref h_this_sorts, .ref h_this_sizes, .ref h_this_number, .ref h_this_holds, .ref h_this_heldOne, .ref h_this_trace, .int x_this_traced, .int x_this_own, .int x_this_isParted]), (h_this_s, ia G 313 g21)]) C h (c_X9_puts hc22) mv_X9_195 rfl 0 rfl [0, 1] rfl rfl rfl rfl rfl hl.1 rfl (Nat.le_of_ble_eq_true rfl) (rok (by decide)) dX9_ship_88 (fun H locs h => ?_)
            refine lv_aload_n hx hb dX9_ship_91 rfl (lv_at hl 1 rfl) ?_
            refine lv_iload hx hb dX9_ship_92 (lv_at hl 0 rfl) ?_
            refine lv_iconst (v := (4 : Int32)) hx hb dX9_ship_94 rfl ?_
            refine lv_iconst (v := (0 : Int32)) hx hb dX9_ship_95 rfl ?_
            replace hf := bd1_inv hf
            obtain ⟨g23, hc24, hf⟩ := hf
            refine r_cvV (ws' := [(h_this, ob 9 [.ref h_this_s, .ref h_this_kept, .ref h_this_laid, .int x_this_isKept, .ref h_this_pile, .ref h_this_tape, .int x_this_taped, .ref h_this_letters, .int x_this_at, .int x_this_begun, .int x_this_token, .int x_this_value, .int x_this_opened, .int x_this_steps, .ref h_this_code0, .ref h_this_read, .ref h_this_saved, .ref h_this_plan, .ref h_this_bestPlan, .int x_this_most, .int x_this_many, .int x_this_few, .int x_this_everHome, .ref h_this_offThen, .ref h_this_paidThen, .int x_this_firstFit, .ref h_this_rows, .int x_this_rowMany, .ref h_this_sorts, .ref h_this_sizes, .ref h_this_number, .ref h_this_holds, .ref h_this_heldOne, .ref h_this_trace, .int x_this_traced, .int x_this_own, .int x_this_isParted]), (h_this_s, ia G 313 g23)]) C h (c_X9_puts hc24) mv_X9_195 rfl 0 rfl [0, 1] rfl rfl rfl rfl rfl hl.1 rfl (Nat.le_of_ble_eq_true rfl) (rok (by decide)) dX9_ship_96 (fun H locs h => ?_)
            refine lv_aload_n hx hb dX9_ship_99 rfl (lv_at hl 1 rfl) ?_
            refine r_get C h fk_X9_9 0 rfl rfl dX9_ship_100 ?_
            refine lv_iconst (v := (4 : Int32)) hx hb dX9_ship_103 rfl ?_
            refine lv_dup2_11 hx hb dX9_ship_104 rfl rfl ?_
            refine r_ialdL C h 1 rfl (vlit rfl) 4 rfl dX9_ship_105 ?_
            refine lv_iconst (v := (1 : Int32)) hx hb dX9_ship_106 rfl ?_
            refine lv_iadd hx hb dX9_ship_107 ?_
            refine lv_topi (fun t25 et25 => ?_)
            replace hf := lt1_inv et25 hf
            refine r_iastL (ws' := [(h_this, ob 9 [.ref h_this_s, .ref h_this_kept, .ref h_this_laid, .int x_this_isKept, .ref h_this_pile, .ref h_this_tape, .int x_this_taped, .ref h_this_letters, .int x_this_at, .int x_this_begun, .int x_this_token, .int x_this_value, .int x_this_opened, .int x_this_steps, .ref h_this_code0, .ref h_this_read, .ref h_this_saved, .ref h_this_plan, .ref h_this_bestPlan, .int x_this_most, .int x_this_many, .int x_this_few, .int x_this_everHome, .ref h_this_offThen, .ref h_this_paidThen, .int x_this_firstFit, .ref h_this_rows, .int x_this_rowMany, .ref h_this_sorts, .ref h_this_sizes, .ref h_this_number, .ref h_this_holds, .ref h_this_heldOne, .ref h_this_trace, .int x_this_traced, .int x_this_own, .int x_this_isParted]), (h_this_s, ia G 313 (upd g23 4 t25))]) C h 1 rfl (vlit rfl) 4 rfl dX9_ship_108 rfl (fun H locs h => ?_)
            refine lv_iload hx hb dX9_ship_109 (lv_at hl 0 rfl) ?_
            cases hf
            exact r_iret C h hr hlk rfl dX9_ship_111
          · replace hf := ifp c13 hf
            refine lv_bipush (v := (-2 : Int32)) hx hb dX9_ship_47 rfl ?_
            cases hf
            exact r_iret C h hr hlk rfl dX9_ship_49
        · replace hf := ifp c12 hf
          refine lv_iconst (v := (-1 : Int32)) hx hb dX9_ship_34 rfl ?_
          cases hf
          exact r_iret C h hr hlk rfl dX9_ship_35
def f_X9_isShip (p0 : Int32) (f_this_s : Nat → Int32) : Option (Int32) := bd1 (f_X9_in1 p0 (0 : Int32) ((f_this_s 4) - (1 : Int32))) (fun r1 => chkB r1 (some r1))
set_option maxRecDepth 100000 in
set_option maxHeartbeats 4000000 in
theorem c_X9_isShip {l : Launch} {G : Gt} {h_this h_this_s h_this_kept h_this_laid h_this_pile h_this_tape h_this_letters h_this_code0 h_this_read h_this_saved h_this_plan h_this_bestPlan h_this_offThen h_this_paidThen h_this_rows h_this_sorts h_this_sizes h_this_number h_this_holds h_this_heldOne h_this_trace : Nat} {p0 : Int32} {x_this_isKept : Int32} {x_this_taped : Int32} {x_this_at : Int32} {x_this_begun : Int32} {x_this_token : Int32} {x_this_value : Int32} {x_this_opened : Int32} {x_this_steps : Int32} {x_this_most : Int32} {x_this_many : Int32} {x_this_few : Int32} {x_this_everHome : Int32} {x_this_firstFit : Int32} {x_this_rowMany : Int32} {x_this_traced : Int32} {x_this_own : Int32} {x_this_isParted : Int32} {f_this_s : Nat → Int32} {r : Int32} (hf : f_X9_isShip p0 f_this_s = some r) : mFi l G yX9_isShip cX9_isShip 2 .boolean 1 [.ref h_this, .int p0] [(h_this, ob 9 [.ref h_this_s, .ref h_this_kept, .ref h_this_laid, .int x_this_isKept, .ref h_this_pile, .ref h_this_tape, .int x_this_taped, .ref h_this_letters, .int x_this_at, .int x_this_begun, .int x_this_token, .int x_this_value, .int x_this_opened, .int x_this_steps, .ref h_this_code0, .ref h_this_read, .ref h_this_saved, .ref h_this_plan, .ref h_this_bestPlan, .int x_this_most, .int x_this_many, .int x_this_few, .int x_this_everHome, .ref h_this_offThen, .ref h_this_paidThen, .int x_this_firstFit, .ref h_this_rows, .int x_this_rowMany, .ref h_this_sorts, .ref h_this_sizes, .ref h_this_number, .ref h_this_holds, .ref h_this_heldOne, .ref h_this_trace, .int x_this_traced, .int x_this_own, .int x_this_isParted]), (h_this_s, ia G 313 f_this_s)] r [(h_this, ob 9 [.ref h_this_s, .ref h_this_kept, .ref h_this_laid, .int x_this_isKept, .ref h_this_pile, .ref h_this_tape, .int x_this_taped, .ref h_this_letters, .int x_this_at, .int x_this_begun, .int x_this_token, .int x_this_value, .int x_this_opened, .int x_this_steps, .ref h_this_code0, .ref h_this_read, .ref h_this_saved, .ref h_this_plan, .ref h_this_bestPlan, .int x_this_most, .int x_this_many, .int x_this_few, .int x_this_everHome, .ref h_this_offThen, .ref h_this_paidThen, .int x_this_firstFit, .ref h_this_rows, .int x_this_rowMany, .ref h_this_sorts, .ref h_this_sizes, .ref h_this_number, .ref h_this_holds, .ref h_this_heldOne, .ref h_this_trace, .int x_this_traced, .int x_this_own, .int x_this_isParted]), (h_this_s, ia G 313 f_this_s)] := by
  refine mFi.of (by decide +kernel) (Nat.le_of_ble_eq_true rfl) ?_
  intro p e s m below meth c A C hr hlk h ls hl
  obtain ⟨hx, hb, hml, hown, hts⟩ := id C
  replace hl : lv_has ls 2 [(0, .ref h_this), (1, .int p0)] := hl
  unfold f_X9_isShip at hf
  refine lv_iload_n hx hb dX9_isShip_0 rfl (lv_at hl 1 rfl) ?_
  refine lv_iconst (v := (0 : Int32)) hx hb dX9_isShip_1 rfl ?_
  refine lv_aload_n hx hb dX9_isShip_2 rfl (lv_at hl 0 rfl) ?_
  refine r_get C h fk_X9_9 0 rfl rfl dX9_isShip_3 ?_
  refine lv_iconst (v := (4 : Int32)) hx hb dX9_isShip_6 rfl ?_
  refine r_ialdL C h 1 rfl (vlit rfl) 4 rfl dX9_isShip_7 ?_
  refine lv_iconst (v := (1 : Int32)) hx hb dX9_isShip_8 rfl ?_
  refine lv_isub hx hb dX9_isShip_9 ?_
  replace hf := bd1_inv hf
  obtain ⟨r1, hc2, hf⟩ := hf
  refine r_ciS0 C h (c_X9_in1 hc2) ms_X9_71 rfl [] rfl rfl hl.1 rfl (Nat.le_of_ble_eq_true rfl) (rok (by decide)) dX9_isShip_10 (fun H locs h => ?_)
  replace hf := chkB_inv hf
  obtain ⟨hb3, hf⟩ := hf
  cases hf
  exact r_iret C h hr hlk hb3 dX9_isShip_13
def f_X9_get (p0 : Int32) (p1 : Int32) (f_this_s : Nat → Int32) : Option (Int32) := chkI (((35 : Int32) + ((5 : Int32) * p0)) + p1) 313 (some (f_this_s (((35 : Int32) + ((5 : Int32) * p0)) + p1).toNatClampNeg))
set_option maxRecDepth 100000 in
set_option maxHeartbeats 4000000 in
theorem c_X9_get {l : Launch} {G : Gt} {h_this h_this_s h_this_kept h_this_laid h_this_pile h_this_tape h_this_letters h_this_code0 h_this_read h_this_saved h_this_plan h_this_bestPlan h_this_offThen h_this_paidThen h_this_rows h_this_sorts h_this_sizes h_this_number h_this_holds h_this_heldOne h_this_trace : Nat} {p0 : Int32} {p1 : Int32} {x_this_isKept : Int32} {x_this_taped : Int32} {x_this_at : Int32} {x_this_begun : Int32} {x_this_token : Int32} {x_this_value : Int32} {x_this_opened : Int32} {x_this_steps : Int32} {x_this_most : Int32} {x_this_many : Int32} {x_this_few : Int32} {x_this_everHome : Int32} {x_this_firstFit : Int32} {x_this_rowMany : Int32} {x_this_traced : Int32} {x_this_own : Int32} {x_this_isParted : Int32} {f_this_s : Nat → Int32} {r : Int32} (hf : f_X9_get p0 p1 f_this_s = some r) : mFi l G yX9_get cX9_get 3 .int 0 [.ref h_this, .int p0, .int p1] [(h_this, ob 9 [.ref h_this_s, .ref h_this_kept, .ref h_this_laid, .int x_this_isKept, .ref h_this_pile, .ref h_this_tape, .int x_this_taped, .ref h_this_letters, .int x_this_at, .int x_this_begun, .int x_this_token, .int x_this_value, .int x_this_opened, .int x_this_steps, .ref h_this_code0, .ref h_this_read, .ref h_this_saved, .ref h_this_plan, .ref h_this_bestPlan, .int x_this_most, .int x_this_many, .int x_this_few, .int x_this_everHome, .ref h_this_offThen, .ref h_this_paidThen, .int x_this_firstFit, .ref h_this_rows, .int x_this_rowMany, .ref h_this_sorts, .ref h_this_sizes, .ref h_this_number, .ref h_this_holds, .ref h_this_heldOne, .ref h_this_trace, .int x_this_traced, .int x_this_own, .int x_this_isParted]), (h_this_s, ia G 313 f_this_s)] r [(h_this, ob 9 [.ref h_this_s, .ref h_this_kept, .ref h_this_laid, .int x_this_isKept, .ref h_this_pile, .ref h_this_tape, .int x_this_taped, .ref h_this_letters, .int x_this_at, .int x_this_begun, .int x_this_token, .int x_this_value, .int x_this_opened, .int x_this_steps, .ref h_this_code0, .ref h_this_read, .ref h_this_saved, .ref h_this_plan, .ref h_this_bestPlan, .int x_this_most, .int x_this_many, .int x_this_few, .int x_this_everHome, .ref h_this_offThen, .ref h_this_paidThen, .int x_this_firstFit, .ref h_this_rows, .int x_this_rowMany, .ref h_this_sorts, .ref h_this_sizes, .ref h_this_number, .ref h_this_holds, .ref h_this_heldOne, .ref h_this_trace, .int x_this_traced, .int x_this_own, .int x_this_isParted]), (h_this_s, ia G 313 f_this_s)] := by
  refine mFi.of (by decide +kernel) (Nat.le_of_ble_eq_true rfl) ?_
  intro p e s m below meth c A C hr hlk h ls hl
  obtain ⟨hx, hb, hml, hown, hts⟩ := id C
  replace hl : lv_has ls 3 [(0, .ref h_this), (1, .int p0), (2, .int p1)] := hl
  unfold f_X9_get at hf
  refine lv_aload_n hx hb dX9_get_0 rfl (lv_at hl 0 rfl) ?_
  refine r_get C h fk_X9_9 0 rfl rfl dX9_get_1 ?_
  refine lv_bipush (v := (35 : Int32)) hx hb dX9_get_4 rfl ?_
  refine lv_iconst (v := (5 : Int32)) hx hb dX9_get_6 rfl ?_
  refine lv_iload_n hx hb dX9_get_7 rfl (lv_at hl 1 rfl) ?_
  refine lv_imul hx hb dX9_get_8 ?_
  refine lv_iadd hx hb dX9_get_9 ?_
  refine lv_iload_n hx hb dX9_get_10 rfl (lv_at hl 2 rfl) ?_
  refine lv_iadd hx hb dX9_get_11 ?_
  replace hf := chkI_inv hf
  obtain ⟨hi1, hf⟩ := hf
  refine r_iald C h 1 rfl hi1 dX9_get_12 ?_
  cases hf
  exact r_iret C h hr hlk rfl dX9_get_13
def f_X9_lightNow (f_this_s : Nat → Int32) : Option (Int32) := (if (16 : Int32) ≤ (f_this_s 0) then some (0 : Int32) else chkI ((7 : Int32) + (f_this_s 0)) 313 (some (f_this_s ((7 : Int32) + (f_this_s 0)).toNatClampNeg)))
set_option maxRecDepth 100000 in
set_option maxHeartbeats 4000000 in
theorem c_X9_lightNow {l : Launch} {G : Gt} {h_this h_this_s h_this_kept h_this_laid h_this_pile h_this_tape h_this_letters h_this_code0 h_this_read h_this_saved h_this_plan h_this_bestPlan h_this_offThen h_this_paidThen h_this_rows h_this_sorts h_this_sizes h_this_number h_this_holds h_this_heldOne h_this_trace : Nat} {x_this_isKept : Int32} {x_this_taped : Int32} {x_this_at : Int32} {x_this_begun : Int32} {x_this_token : Int32} {x_this_value : Int32} {x_this_opened : Int32} {x_this_steps : Int32} {x_this_most : Int32} {x_this_many : Int32} {x_this_few : Int32} {x_this_everHome : Int32} {x_this_firstFit : Int32} {x_this_rowMany : Int32} {x_this_traced : Int32} {x_this_own : Int32} {x_this_isParted : Int32} {f_this_s : Nat → Int32} {r : Int32} (hf : f_X9_lightNow f_this_s = some r) : mFi l G yX9_lightNow cX9_lightNow 1 .int 0 [.ref h_this] [(h_this, ob 9 [.ref h_this_s, .ref h_this_kept, .ref h_this_laid, .int x_this_isKept, .ref h_this_pile, .ref h_this_tape, .int x_this_taped, .ref h_this_letters, .int x_this_at, .int x_this_begun, .int x_this_token, .int x_this_value, .int x_this_opened, .int x_this_steps, .ref h_this_code0, .ref h_this_read, .ref h_this_saved, .ref h_this_plan, .ref h_this_bestPlan, .int x_this_most, .int x_this_many, .int x_this_few, .int x_this_everHome, .ref h_this_offThen, .ref h_this_paidThen, .int x_this_firstFit, .ref h_this_rows, .int x_this_rowMany, .ref h_this_sorts, .ref h_this_sizes, .ref h_this_number, .ref h_this_holds, .ref h_this_heldOne, .ref h_this_trace, .int x_this_traced, .int x_this_own, .int x_this_isParted]), (h_this_s, ia G 313 f_this_s)] r [(h_this, ob 9 [.ref h_this_s, .ref h_this_kept, .ref h_this_laid, .int x_this_isKept, .ref h_this_pile, .ref h_this_tape, .int x_this_taped, .ref h_this_letters, .int x_this_at, .int x_this_begun, .int x_this_token, .int x_this_value, .int x_this_opened, .int x_this_steps, .ref h_this_code0, .ref h_this_read, .ref h_this_saved, .ref h_this_plan, .ref h_this_bestPlan, .int x_this_most, .int x_this_many, .int x_this_few, .int x_this_everHome, .ref h_this_offThen, .ref h_this_paidThen, .int x_this_firstFit, .ref h_this_rows, .int x_this_rowMany, .ref h_this_sorts, .ref h_this_sizes, .ref h_this_number, .ref h_this_holds, .ref h_this_heldOne, .ref h_this_trace, .int x_this_traced, .int x_this_own, .int x_this_isParted]), (h_this_s, ia G 313 f_this_s)] := by
  refine mFi.of (by decide +kernel) (Nat.le_of_ble_eq_true rfl) ?_
  intro p e s m below meth c A C hr hlk h ls hl
  obtain ⟨hx, hb, hml, hown, hts⟩ := id C
  replace hl : lv_has ls 1 [(0, .ref h_this)] := hl
  unfold f_X9_lightNow at hf
  refine lv_aload_n hx hb dX9_lightNow_0 rfl (lv_at hl 0 rfl) ?_
  refine r_get C h fk_X9_9 0 rfl rfl dX9_lightNow_1 ?_
  refine lv_iconst (v := (0 : Int32)) hx hb dX9_lightNow_4 rfl ?_
  refine r_ialdL C h 1 rfl (vlit rfl) 0 rfl dX9_lightNow_5 ?_
  refine lv_bipush (v := (16 : Int32)) hx hb dX9_lightNow_6 rfl ?_
  refine lv_icmp_ge (tgt := 28) hx hb dX9_lightNow_8 rfl (fun c1 => ?_) (fun c1 => ?_)
  · replace hf := ifp c1 hf
    refine lv_iconst (v := (0 : Int32)) hx hb dX9_lightNow_28 rfl ?_
    cases hf
    exact r_iret C h hr hlk rfl dX9_lightNow_29
  · replace hf := ifn c1 hf
    refine lv_aload_n hx hb dX9_lightNow_11 rfl (lv_at hl 0 rfl) ?_
    refine r_get C h fk_X9_9 0 rfl rfl dX9_lightNow_12 ?_
    refine lv_bipush (v := (7 : Int32)) hx hb dX9_lightNow_15 rfl ?_
    refine lv_aload_n hx hb dX9_lightNow_17 rfl (lv_at hl 0 rfl) ?_
    refine r_get C h fk_X9_9 0 rfl rfl dX9_lightNow_18 ?_
    refine lv_iconst (v := (0 : Int32)) hx hb dX9_lightNow_21 rfl ?_
    refine r_ialdL C h 1 rfl (vlit rfl) 0 rfl dX9_lightNow_22 ?_
    refine lv_iadd hx hb dX9_lightNow_23 ?_
    replace hf := chkI_inv hf
    obtain ⟨hi2, hf⟩ := hf
    refine r_iald C h 1 rfl hi2 dX9_lightNow_24 ?_
    refine lv_goto (tgt := 29) hx hb dX9_lightNow_25 rfl ?_
    cases hf
    exact r_iret C h hr hlk rfl dX9_lightNow_29
def f_X9_nearsBy (p0 : Int32) (p1 : Int32) (p2 : Int32) (p3 : Int32) : Option (Int32) := (if p0 = (1 : Int32) then some (p1 * p2) else (if p0 = (2 : Int32) then some ((2 : Int32) * p1) else (if p0 = (3 : Int32) then some (((2 : Int32) * p1) + p2) else (if p0 = (4 : Int32) then some ((3 : Int32) + p2) else (if p0 = (5 : Int32) then (if (p3 - p3 / (3 : Int32) * (3 : Int32)) = 0 then some (0 : Int32) else some ((3 : Int32) + p2)) else some ((2 : Int32) + p1))))))
set_option maxRecDepth 100000 in
set_option maxHeartbeats 4000000 in
theorem c_X9_nearsBy {l : Launch} {G : Gt} {p0 : Int32} {p1 : Int32} {p2 : Int32} {p3 : Int32} {r : Int32} (hf : f_X9_nearsBy p0 p1 p2 p3 = some r) : mFi l G yX9_nearsBy cX9_nearsBy 4 .int 0 [.int p0, .int p1, .int p2, .int p3] ([] : va_W) r ([] : va_W) := by
  refine mFi.of (by decide +kernel) (Nat.le_of_ble_eq_true rfl) ?_
  intro p e s m below meth c A C hr hlk h ls hl
  obtain ⟨hx, hb, hml, hown, hts⟩ := id C
  replace hl : lv_has ls 4 [(0, .int p0), (1, .int p1), (2, .int p2), (3, .int p3)] := hl
  unfold f_X9_nearsBy at hf
  refine lv_iload_n hx hb dX9_nearsBy_0 rfl (lv_at hl 0 rfl) ?_
  by_cases c1 : p0 = (1 : Int32)
  · replace hf := ifp c1 hf
    refine r_tab (tgt := 36) C dX9_nearsBy_1 (1 : Int32) c1 (by decide) rfl rfl ?_
    refine lv_iload_n hx hb dX9_nearsBy_36 rfl (lv_at hl 1 rfl) ?_
    refine lv_iload_n hx hb dX9_nearsBy_37 rfl (lv_at hl 2 rfl) ?_
    refine lv_imul hx hb dX9_nearsBy_38 ?_
    cases hf
    exact r_iret C h hr hlk rfl dX9_nearsBy_39
  · replace hf := ifn c1 hf
    by_cases c2 : p0 = (2 : Int32)
    · replace hf := ifp c2 hf
      refine r_tab (tgt := 40) C dX9_nearsBy_1 (2 : Int32) c2 (by decide) rfl rfl ?_
      refine lv_iconst (v := (2 : Int32)) hx hb dX9_nearsBy_40 rfl ?_
      refine lv_iload_n hx hb dX9_nearsBy_41 rfl (lv_at hl 1 rfl) ?_
      refine lv_imul hx hb dX9_nearsBy_42 ?_
      cases hf
      exact r_iret C h hr hlk rfl dX9_nearsBy_43
    · replace hf := ifn c2 hf
      by_cases c3 : p0 = (3 : Int32)
      · replace hf := ifp c3 hf
        refine r_tab (tgt := 44) C dX9_nearsBy_1 (3 : Int32) c3 (by decide) rfl rfl ?_
        refine lv_iconst (v := (2 : Int32)) hx hb dX9_nearsBy_44 rfl ?_
        refine lv_iload_n hx hb dX9_nearsBy_45 rfl (lv_at hl 1 rfl) ?_
        refine lv_imul hx hb dX9_nearsBy_46 ?_
        refine lv_iload_n hx hb dX9_nearsBy_47 rfl (lv_at hl 2 rfl) ?_
        refine lv_iadd hx hb dX9_nearsBy_48 ?_
        cases hf
        exact r_iret C h hr hlk rfl dX9_nearsBy_49
      · replace hf := ifn c3 hf
        by_cases c4 : p0 = (4 : Int32)
        · replace hf := ifp c4 hf
          refine r_tab (tgt := 50) C dX9_nearsBy_1 (4 : Int32) c4 (by decide) rfl rfl ?_
          refine lv_iconst (v := (3 : Int32)) hx hb dX9_nearsBy_50 rfl ?_
          refine lv_iload_n hx hb dX9_nearsBy_51 rfl (lv_at hl 2 rfl) ?_
          refine lv_iadd hx hb dX9_nearsBy_52 ?_
          cases hf
          exact r_iret C h hr hlk rfl dX9_nearsBy_53
        · replace hf := ifn c4 hf
          by_cases c5 : p0 = (5 : Int32)
          · replace hf := ifp c5 hf
            refine r_tab (tgt := 54) C dX9_nearsBy_1 (5 : Int32) c5 (by decide) rfl rfl ?_
            refine lv_iload_n hx hb dX9_nearsBy_54 rfl (lv_at hl 3 rfl) ?_
            refine lv_iconst (v := (3 : Int32)) hx hb dX9_nearsBy_55 rfl ?_
            refine lv_irem hx hb dX9_nearsBy_56 (by decide) ?_
            refine lv_if_ne (tgt := 64) hx hb dX9_nearsBy_57 rfl (fun c6 => ?_) (fun c6 => ?_)
            · replace hf := ifn c6 hf
              refine lv_iconst (v := (3 : Int32)) hx hb dX9_nearsBy_64 rfl ?_
              refine lv_iload_n hx hb dX9_nearsBy_65 rfl (lv_at hl 2 rfl) ?_
              refine lv_iadd hx hb dX9_nearsBy_66 ?_
              cases hf
              exact r_iret C h hr hlk rfl dX9_nearsBy_67
            · replace hf := ifp c6 hf
              refine lv_iconst (v := (0 : Int32)) hx hb dX9_nearsBy_60 rfl ?_
              refine lv_goto (tgt := 67) hx hb dX9_nearsBy_61 rfl ?_
              cases hf
              exact r_iret C h hr hlk rfl dX9_nearsBy_67
          · replace hf := ifn c5 hf
            refine r_tabD (tgt := 68) C dX9_nearsBy_1 [(1 : Int32), (2 : Int32), (3 : Int32), (4 : Int32), (5 : Int32)] (by decide) (nel_c c1 (nel_c c2 (nel_c c3 (nel_c c4 (nel_c c5 nel_0))))) rfl ?_
            refine lv_iconst (v := (2 : Int32)) hx hb dX9_nearsBy_68 rfl ?_
            refine lv_iload_n hx hb dX9_nearsBy_69 rfl (lv_at hl 1 rfl) ?_
            refine lv_iadd hx hb dX9_nearsBy_70 ?_
            cases hf
            exact r_iret C h hr hlk rfl dX9_nearsBy_71
def f_X9_nearsOf_L45 (p0 : Int32) (f_this_s : Nat → Int32) : Nat → Int32 → Int32 → Option (Int32)
  | 0, _, _ => none
  | n + 1, v2, v3 => (if (f_this_s 4) ≤ v3 then (if 0 ≤ v2 then some v2 else some (0 : Int32)) else (if v3 = p0 then lt1 (v2 - (0 : Int32)) (fun (t16 : Int32) => lt1 (v3 + (1 : Int32)) (fun (t17 : Int32) => (f_X9_nearsOf_L45 p0 f_this_s n) t16 t17)) else bd1 (f_X9_get v3 (4 : Int32) f_this_s) (fun r18 => (if r18 = 0 then bd1 (f_X9_get v3 (3 : Int32) f_this_s) (fun r23 => bd1 (f_X9_get p0 (3 : Int32) f_this_s) (fun r25 => (if r23 = r25 then lt1 (v2 - (1 : Int32)) (fun (t30 : Int32) => lt1 (v3 + (1 : Int32)) (fun (t31 : Int32) => (f_X9_nearsOf_L45 p0 f_this_s n) t30 t31)) else lt1 (v2 - (0 : Int32)) (fun (t28 : Int32) => lt1 (v3 + (1 : Int32)) (fun (t29 : Int32) => (f_X9_nearsOf_L45 p0 f_this_s n) t28 t29))))) else lt1 (v2 - (0 : Int32)) (fun (t21 : Int32) => lt1 (v3 + (1 : Int32)) (fun (t22 : Int32) => (f_X9_nearsOf_L45 p0 f_this_s n) t21 t22))))))
def f_X9_nearsOf (p0 : Int32) (f_this_s : Nat → Int32) : Option (Int32) := bd1 (f_X9_get p0 (0 : Int32) f_this_s) (fun r1 => bd1 (f_X9_lightNow f_this_s) (fun r3 => bd1 (f_X9_lightNow f_this_s) (fun r5 => bd1 (f_X9_nearsBy r1 (r3 / (4 : Int32)) (r5 - r5 / (4 : Int32) * (4 : Int32)) (f_this_s 0)) (fun r7 => bd1 (f_X9_get p0 (3 : Int32) f_this_s) (fun r9 => chkI ((23 : Int32) + r9) 313 (lt1 (r7 + (f_this_s ((23 : Int32) + r9).toNatClampNeg)) (fun (t12 : Int32) => f_X9_nearsOf_L45 p0 f_this_s 1000 t12 (0 : Int32))))))))
set_option maxRecDepth 100000 in
set_option maxHeartbeats 4000000 in
theorem c_X9_nearsOf {l : Launch} {G : Gt} {h_this h_this_s h_this_kept h_this_laid h_this_pile h_this_tape h_this_letters h_this_code0 h_this_read h_this_saved h_this_plan h_this_bestPlan h_this_offThen h_this_paidThen h_this_rows h_this_sorts h_this_sizes h_this_number h_this_holds h_this_heldOne h_this_trace : Nat} {p0 : Int32} {x_this_isKept : Int32} {x_this_taped : Int32} {x_this_at : Int32} {x_this_begun : Int32} {x_this_token : Int32} {x_this_value : Int32} {x_this_opened : Int32} {x_this_steps : Int32} {x_this_most : Int32} {x_this_many : Int32} {x_this_few : Int32} {x_this_everHome : Int32} {x_this_firstFit : Int32} {x_this_rowMany : Int32} {x_this_traced : Int32} {x_this_own : Int32} {x_this_isParted : Int32} {f_this_s : Nat → Int32} {r : Int32} (hf : f_X9_nearsOf p0 f_this_s = some r) : mFi l G yX9_nearsOf cX9_nearsOf 4 .int 1 [.ref h_this, .int p0] [(h_this, ob 9 [.ref h_this_s, .ref h_this_kept, .ref h_this_laid, .int x_this_isKept, .ref h_this_pile, .ref h_this_tape, .int x_this_taped, .ref h_this_letters, .int x_this_at, .int x_this_begun, .int x_this_token, .int x_this_value, .int x_this_opened, .int x_this_steps, .ref h_this_code0, .ref h_this_read, .ref h_this_saved, .ref h_this_plan, .ref h_this_bestPlan, .int x_this_most, .int x_this_many, .int x_this_few, .int x_this_everHome, .ref h_this_offThen, .ref h_this_paidThen, .int x_this_firstFit, .ref h_this_rows, .int x_this_rowMany, .ref h_this_sorts, .ref h_this_sizes, .ref h_this_number, .ref h_this_holds, .ref h_this_heldOne, .ref h_this_trace, .int x_this_traced, .int x_this_own, .int x_this_isParted]), (h_this_s, ia G 313 f_this_s)] r [(h_this, ob 9 [.ref h_this_s, .ref h_this_kept, .ref h_this_laid, .int x_this_isKept, .ref h_this_pile, .ref h_this_tape, .int x_this_taped, .ref h_this_letters, .int x_this_at, .int x_this_begun, .int x_this_token, .int x_this_value, .int x_this_opened, .int x_this_steps, .ref h_this_code0, .ref h_this_read, .ref h_this_saved, .ref h_this_plan, .ref h_this_bestPlan, .int x_this_most, .int x_this_many, .int x_this_few, .int x_this_everHome, .ref h_this_offThen, .ref h_this_paidThen, .int x_this_firstFit, .ref h_this_rows, .int x_this_rowMany, .ref h_this_sorts, .ref h_this_sizes, .ref h_this_number, .ref h_this_holds, .ref h_this_heldOne, .ref h_this_trace, .int x_this_traced, .int x_this_own, .int x_this_isParted]), (h_this_s, ia G 313 f_this_s)] := by
  refine mFi.of (by decide +kernel) (Nat.le_of_ble_eq_true rfl) ?_
  intro p e s m below meth c A C hr hlk h ls hl
  obtain ⟨hx, hb, hml, hown, hts⟩ := id C
  replace hl : lv_has ls 4 [(0, .ref h_this), (1, .int p0)] := hl
  unfold f_X9_nearsOf at hf
  refine with_K G A 4 (fun K hK1 hK2 => ?_)
  have L45 : ∀ (n : Nat) (v2 : Int32) (v3 : Int32), f_X9_nearsOf_L45 p0 f_this_s n v2 v3 = some r → K 45 ([] : List Value) [(h_this, ob 9 [.ref h_this_s, .ref h_this_kept, .ref h_this_laid, .int x_this_isKept, .ref h_this_pile, .ref h_this_tape, .int x_this_taped, .ref h_this_letters, .int x_this_at, .int x_this_begun, .int x_this_token, .int x_this_value, .int x_this_opened, .int x_this_steps, .ref h_this_code0, .ref h_this_read, .ref h_this_saved, .ref h_this_plan, .ref h_this_bestPlan, .int x_this_most, .int x_this_many, .int x_this_few, .int x_this_everHome, .ref h_this_offThen, .ref h_this_paidThen, .int x_this_firstFit, .ref h_this_rows, .int x_this_rowMany, .ref h_this_sorts, .ref h_this_sizes, .ref h_this_number, .ref h_this_holds, .ref h_this_heldOne, .ref h_this_trace, .int x_this_traced, .int x_this_own, .int x_this_isParted]), (h_this_s, ia G 313 f_this_s)] [(0, .ref h_this), (1, .int p0), (2, .int v2), (3, .int v3)] := by
    intro n
    induction n with
    | zero =>
      intro v2 v3 hf
      replace hf : (none : Option _) = some _ := hf
      cases hf
    | succ n ih =>
      intro v2 v3 hf
      rw [f_X9_nearsOf_L45] at hf
      refine hK1 _ _ _ _ (fun H locs ls h hl => ?_)
      refine lv_iload_n hx hb dX9_nearsOf_45 rfl (lv_at hl 3 rfl) ?_
      refine lv_aload_n hx hb dX9_nearsOf_46 rfl (lv_at hl 0 rfl) ?_
      refine r_get C h fk_X9_9 0 rfl rfl dX9_nearsOf_47 ?_
      refine lv_iconst (v := (4 : Int32)) hx hb dX9_nearsOf_50 rfl ?_
      refine r_ialdL C h 1 rfl (vlit rfl) 4 rfl dX9_nearsOf_51 ?_
      refine lv_icmp_ge (tgt := 98) hx hb dX9_nearsOf_52 rfl (fun c13 => ?_) (fun c13 => ?_)
      · replace hf := ifp c13 hf
        refine lv_iload_n hx hb dX9_nearsOf_98 rfl (lv_at hl 2 rfl) ?_
        refine lv_if_ge (tgt := 106) hx hb dX9_nearsOf_99 rfl (fun c14 => ?_) (fun c14 => ?_)
        · replace hf := ifp c14 hf
          refine lv_iload_n hx hb dX9_nearsOf_106 rfl (lv_at hl 2 rfl) ?_
          cases hf
          exact r_iret C h hr hlk rfl dX9_nearsOf_107
        · replace hf := ifn c14 hf
          refine lv_iconst (v := (0 : Int32)) hx hb dX9_nearsOf_102 rfl ?_
          refine lv_goto (tgt := 107) hx hb dX9_nearsOf_103 rfl ?_
          cases hf
          exact r_iret C h hr hlk rfl dX9_nearsOf_107
      · replace hf := ifn c13 hf
        refine lv_iload_n hx hb dX9_nearsOf_55 rfl (lv_at hl 2 rfl) ?_
        refine lv_iload_n hx hb dX9_nearsOf_56 rfl (lv_at hl 3 rfl) ?_
        refine lv_iload_n hx hb dX9_nearsOf_57 rfl (lv_at hl 1 rfl) ?_
        refine lv_icmp_eq (tgt := 89) hx hb dX9_nearsOf_58 rfl (fun c15 => ?_) (fun c15 => ?_)
        · replace hf := ifp c15 hf
          refine lv_iconst (v := (0 : Int32)) hx hb dX9_nearsOf_89 rfl ?_
          refine lv_isub hx hb dX9_nearsOf_90 ?_
          refine lv_topi (fun t16 et16 => ?_)
          replace hf := lt1_inv et16 hf
          refine lv_istore_n (lv' := [(2, .int t16), (0, .ref h_this), (1, .int p0), (3, .int v3)]) hx hb dX9_nearsOf_91 rfl hl (by decide) rfl (fun ls hl => ?_)
          obtain ⟨t17, et17⟩ : ∃ y : Int32, y = v3 + (1 : Int32) := ⟨_, rfl⟩
          replace hf := lt1_inv et17 hf
          refine lv_iinc (v := t17) (lv' := [(3, .int t17), (2, .int t16), (0, .ref h_this), (1, .int p0)]) hx hb dX9_nearsOf_92 hl (k := 3) rfl (by rw [et17]; rfl) (by decide) rfl (fun ls hl => ?_)
          refine lv_goto (tgt := 45) hx hb dX9_nearsOf_95 rfl ?_
          exact hK2 _ _ _ _ (ih t16 t17 hf) _ _ _ h (lv_sub hl [2, 3, 1, 0] rfl)
        · replace hf := ifn c15 hf
          refine lv_aload_n hx hb dX9_nearsOf_61 rfl (lv_at hl 0 rfl) ?_
          refine lv_iload_n hx hb dX9_nearsOf_62 rfl (lv_at hl 3 rfl) ?_
          refine lv_iconst (v := (4 : Int32)) hx hb dX9_nearsOf_63 rfl ?_
          replace hf := bd1_inv hf
          obtain ⟨r18, hc19, hf⟩ := hf
          refine r_ciV0 C h (c_X9_get hc19) mv_X9_79 rfl 0 rfl [0, 1] rfl rfl hl.1 rfl (Nat.le_of_ble_eq_true rfl) (rok (by decide)) dX9_nearsOf_64 (fun H locs h => ?_)
          refine lv_if_ne (tgt := 89) hx hb dX9_nearsOf_67 rfl (fun c20 => ?_) (fun c20 => ?_)
          · replace hf := ifn c20 hf
            refine lv_iconst (v := (0 : Int32)) hx hb dX9_nearsOf_89 rfl ?_
            refine lv_isub hx hb dX9_nearsOf_90 ?_
            refine lv_topi (fun t21 et21 => ?_)
            replace hf := lt1_inv et21 hf
            refine lv_istore_n (lv' := [(2, .int t21), (0, .ref h_this), (1, .int p0), (3, .int v3)]) hx hb dX9_nearsOf_91 rfl hl (by decide) rfl (fun ls hl => ?_)
            obtain ⟨t22, et22⟩ : ∃ y : Int32, y = v3 + (1 : Int32) := ⟨_, rfl⟩
            replace hf := lt1_inv et22 hf
            refine lv_iinc (v := t22) (lv' := [(3, .int t22), (2, .int t21), (0, .ref h_this), (1, .int p0)]) hx hb dX9_nearsOf_92 hl (k := 3) rfl (by rw [et22]; rfl) (by decide) rfl (fun ls hl => ?_)
            refine lv_goto (tgt := 45) hx hb dX9_nearsOf_95 rfl ?_
            exact hK2 _ _ _ _ (ih t21 t22 hf) _ _ _ h (lv_sub hl [2, 3, 1, 0] rfl)
          · replace hf := ifp c20 hf
            refine lv_aload_n hx hb dX9_nearsOf_70 rfl (lv_at hl 0 rfl) ?_
            refine lv_iload_n hx hb dX9_nearsOf_71 rfl (lv_at hl 3 rfl) ?_
            refine lv_iconst (v := (3 : Int32)) hx hb dX9_nearsOf_72 rfl ?_
            replace hf := bd1_inv hf
            obtain ⟨r23, hc24, hf⟩ := hf
            refine r_ciV0 C h (c_X9_get hc24) mv_X9_79 rfl 0 rfl [0, 1] rfl rfl hl.1 rfl (Nat.le_of_ble_eq_true rfl) (rok (by decide)) dX9_nearsOf_73 (fun H locs h => ?_)
            refine lv_aload_n hx hb dX9_nearsOf_76 rfl (lv_at hl 0 rfl) ?_
            refine lv_iload_n hx hb dX9_nearsOf_77 rfl (lv_at hl 1 rfl) ?_
            refine lv_iconst (v := (3 : Int32)) hx hb dX9_nearsOf_78 rfl ?_
            replace hf := bd1_inv hf
            obtain ⟨r25, hc26, hf⟩ := hf
            refine r_ciV0 C h (c_X9_get hc26) mv_X9_79 rfl 0 rfl [0, 1] rfl rfl hl.1 rfl (Nat.le_of_ble_eq_true rfl) (rok (by decide)) dX9_nearsOf_79 (fun H locs h => ?_)
            refine lv_icmp_ne (tgt := 89) hx hb dX9_nearsOf_82 rfl (fun c27 => ?_) (fun c27 => ?_)
            · replace hf := ifn c27 hf
              refine lv_iconst (v := (0 : Int32)) hx hb dX9_nearsOf_89 rfl ?_
              refine lv_isub hx hb dX9_nearsOf_90 ?_
              refine lv_topi (fun t28 et28 => ?_)
              replace hf := lt1_inv et28 hf
              refine lv_istore_n (lv' := [(2, .int t28), (0, .ref h_this), (1, .int p0), (3, .int v3)]) hx hb dX9_nearsOf_91 rfl hl (by decide) rfl (fun ls hl => ?_)
              obtain ⟨t29, et29⟩ : ∃ y : Int32, y = v3 + (1 : Int32) := ⟨_, rfl⟩
              replace hf := lt1_inv et29 hf
              refine lv_iinc (v := t29) (lv' := [(3, .int t29), (2, .int t28), (0, .ref h_this), (1, .int p0)]) hx hb dX9_nearsOf_92 hl (k := 3) rfl (by rw [et29]; rfl) (by decide) rfl (fun ls hl => ?_)
              refine lv_goto (tgt := 45) hx hb dX9_nearsOf_95 rfl ?_
              exact hK2 _ _ _ _ (ih t28 t29 hf) _ _ _ h (lv_sub hl [2, 3, 1, 0] rfl)
            · replace hf := ifp c27 hf
              refine lv_iconst (v := (1 : Int32)) hx hb dX9_nearsOf_85 rfl ?_
              refine lv_goto (tgt := 90) hx hb dX9_nearsOf_86 rfl ?_
              refine lv_isub hx hb dX9_nearsOf_90 ?_
              refine lv_topi (fun t30 et30 => ?_)
              replace hf := lt1_inv et30 hf
              refine lv_istore_n (lv' := [(2, .int t30), (0, .ref h_this), (1, .int p0), (3, .int v3)]) hx hb dX9_nearsOf_91 rfl hl (by decide) rfl (fun ls hl => ?_)
              obtain ⟨t31, et31⟩ : ∃ y : Int32, y = v3 + (1 : Int32) := ⟨_, rfl⟩
              replace hf := lt1_inv et31 hf
              refine lv_iinc (v := t31) (lv' := [(3, .int t31), (2, .int t30), (0, .ref h_this), (1, .int p0)]) hx hb dX9_nearsOf_92 hl (k := 3) rfl (by rw [et31]; rfl) (by decide) rfl (fun ls hl => ?_)
              refine lv_goto (tgt := 45) hx hb dX9_nearsOf_95 rfl ?_
              exact hK2 _ _ _ _ (ih t30 t31 hf) _ _ _ h (lv_sub hl [2, 3, 1, 0] rfl)
  refine lv_aload_n hx hb dX9_nearsOf_0 rfl (lv_at hl 0 rfl) ?_
  refine lv_iload_n hx hb dX9_nearsOf_1 rfl (lv_at hl 1 rfl) ?_
  refine lv_iconst (v := (0 : Int32)) hx hb dX9_nearsOf_2 rfl ?_
  replace hf := bd1_inv hf
  obtain ⟨r1, hc2, hf⟩ := hf
  refine r_ciV0 C h (c_X9_get hc2) mv_X9_79 rfl 0 rfl [0, 1] rfl rfl hl.1 rfl (Nat.le_of_ble_eq_true rfl) (rok (by decide)) dX9_nearsOf_3 (fun H locs h => ?_)
  refine lv_aload_n hx hb dX9_nearsOf_6 rfl (lv_at hl 0 rfl) ?_
  replace hf := bd1_inv hf
  obtain ⟨r3, hc4, hf⟩ := hf
  refine r_ciV0 C h (c_X9_lightNow hc4) mv_X9_83 rfl 0 rfl [0, 1] rfl rfl hl.1 rfl (Nat.le_of_ble_eq_true rfl) (rok (by decide)) dX9_nearsOf_7 (fun H locs h => ?_)
  refine lv_iconst (v := (4 : Int32)) hx hb dX9_nearsOf_10 rfl ?_
  refine lv_idiv hx hb dX9_nearsOf_11 (by decide) ?_
  refine lv_aload_n hx hb dX9_nearsOf_12 rfl (lv_at hl 0 rfl) ?_
  replace hf := bd1_inv hf
  obtain ⟨r5, hc6, hf⟩ := hf
  refine r_ciV0 C h (c_X9_lightNow hc6) mv_X9_83 rfl 0 rfl [0, 1] rfl rfl hl.1 rfl (Nat.le_of_ble_eq_true rfl) (rok (by decide)) dX9_nearsOf_13 (fun H locs h => ?_)
  refine lv_iconst (v := (4 : Int32)) hx hb dX9_nearsOf_16 rfl ?_
  refine lv_irem hx hb dX9_nearsOf_17 (by decide) ?_
  refine lv_aload_n hx hb dX9_nearsOf_18 rfl (lv_at hl 0 rfl) ?_
  refine r_get C h fk_X9_9 0 rfl rfl dX9_nearsOf_19 ?_
  refine lv_iconst (v := (0 : Int32)) hx hb dX9_nearsOf_22 rfl ?_
  refine r_ialdL C h 1 rfl (vlit rfl) 0 rfl dX9_nearsOf_23 ?_
  replace hf := bd1_inv hf
  obtain ⟨r7, hc8, hf⟩ := hf
  refine r_ciS0 C h (c_X9_nearsBy hc8) ms_X9_87 rfl [] rfl rfl hl.1 rfl (Nat.le_of_ble_eq_true rfl) (rok (by decide)) dX9_nearsOf_24 (fun H locs h => ?_)
  refine lv_aload_n hx hb dX9_nearsOf_27 rfl (lv_at hl 0 rfl) ?_
  refine r_get C h fk_X9_9 0 rfl rfl dX9_nearsOf_28 ?_
  refine lv_bipush (v := (23 : Int32)) hx hb dX9_nearsOf_31 rfl ?_
  refine lv_aload_n hx hb dX9_nearsOf_33 rfl (lv_at hl 0 rfl) ?_
  refine lv_iload_n hx hb dX9_nearsOf_34 rfl (lv_at hl 1 rfl) ?_
  refine lv_iconst (v := (3 : Int32)) hx hb dX9_nearsOf_35 rfl ?_
  replace hf := bd1_inv hf
  obtain ⟨r9, hc10, hf⟩ := hf
  refine r_ciV0 C h (c_X9_get hc10) mv_X9_79 rfl 0 rfl [0, 1] rfl rfl hl.1 rfl (Nat.le_of_ble_eq_true rfl) (rok (by decide)) dX9_nearsOf_36 (fun H locs h => ?_)
  refine lv_iadd hx hb dX9_nearsOf_39 ?_
  replace hf := chkI_inv hf
  obtain ⟨hi11, hf⟩ := hf
  refine r_iald C h 1 rfl hi11 dX9_nearsOf_40 ?_
  refine lv_iadd hx hb dX9_nearsOf_41 ?_
  refine lv_topi (fun t12 et12 => ?_)
  replace hf := lt1_inv et12 hf
  refine lv_istore_n (lv' := [(2, .int t12), (0, .ref h_this), (1, .int p0)]) hx hb dX9_nearsOf_42 rfl hl (by decide) rfl (fun ls hl => ?_)
  refine lv_iconst (v := (0 : Int32)) hx hb dX9_nearsOf_43 rfl ?_
  refine lv_istore_n (lv' := [(3, .int (0 : Int32)), (2, .int t12), (0, .ref h_this), (1, .int p0)]) hx hb dX9_nearsOf_44 rfl hl (by decide) rfl (fun ls hl => ?_)
  exact hK2 _ _ _ _ (L45 1000 t12 (0 : Int32) hf) _ _ _ h (lv_sub hl [2, 3, 1, 0] rfl)
def f_X9_reachesBy (p0 : Int32) (p1 : Int32) (p2 : Int32) : Option (Int32) := lt1 ((10 : Int32) + ((2 : Int32) * p1)) (fun (t1 : Int32) => lt1 ((t1 + (5 : Int32)) - ((3 : Int32) * p2)) (fun (t2 : Int32) => (if p0 = (1 : Int32) then some (20 : Int32) else (if p0 = (2 : Int32) then some (t1 + (5 : Int32)) else (if p0 = (3 : Int32) then (if t2 ≤ 0 then some (0 : Int32) else some t2) else (if p0 = (4 : Int32) then some (t1 + ((3 : Int32) * p2)) else (if p0 = (5 : Int32) then some ((t1 + ((3 : Int32) * p2)) / (2 : Int32)) else some t1)))))))
set_option maxRecDepth 100000 in
set_option maxHeartbeats 4000000 in
theorem c_X9_reachesBy {l : Launch} {G : Gt} {p0 : Int32} {p1 : Int32} {p2 : Int32} {r : Int32} (hf : f_X9_reachesBy p0 p1 p2 = some r) : mFi l G yX9_reachesBy cX9_reachesBy 5 .int 0 [.int p0, .int p1, .int p2] ([] : va_W) r ([] : va_W) := by
  refine mFi.of (by decide +kernel) (Nat.le_of_ble_eq_true rfl) ?_
  intro p e s m below meth c A C hr hlk h ls hl
  obtain ⟨hx, hb, hml, hown, hts⟩ := id C
  replace hl : lv_has ls 5 [(0, .int p0), (1, .int p1), (2, .int p2)] := hl
  unfold f_X9_reachesBy at hf
  refine lv_bipush (v := (10 : Int32)) hx hb dX9_reachesBy_0 rfl ?_
  refine lv_iconst (v := (2 : Int32)) hx hb dX9_reachesBy_2 rfl ?_
  refine lv_iload_n hx hb dX9_reachesBy_3 rfl (lv_at hl 1 rfl) ?_
  refine lv_imul hx hb dX9_reachesBy_4 ?_
  refine lv_iadd hx hb dX9_reachesBy_5 ?_
  refine lv_topi (fun t1 et1 => ?_)
  replace hf := lt1_inv et1 hf
  refine lv_istore_n (lv' := [(3, .int t1), (0, .int p0), (1, .int p1), (2, .int p2)]) hx hb dX9_reachesBy_6 rfl hl (by decide) rfl (fun ls hl => ?_)
  refine lv_iload_n hx hb dX9_reachesBy_7 rfl (lv_at hl 0 rfl) ?_
  refine lv_iconst (v := (5 : Int32)) hx hb dX9_reachesBy_8 rfl ?_
  refine lv_iadd hx hb dX9_reachesBy_9 ?_
  refine lv_iconst (v := (3 : Int32)) hx hb dX9_reachesBy_10 rfl ?_
  refine lv_iload_n hx hb dX9_reachesBy_11 rfl (lv_at hl 3 rfl) ?_
  refine lv_imul hx hb dX9_reachesBy_12 ?_
  refine lv_isub hx hb dX9_reachesBy_13 ?_
  refine lv_topi (fun t2 et2 => ?_)
  replace hf := lt1_inv et2 hf
  refine lv_istore (lv' := [(4, .int t2), (3, .int t1), (0, .int p0), (1, .int p1), (2, .int p2)]) hx hb dX9_reachesBy_14 hl (by decide) rfl (fun ls hl => ?_)
  refine lv_iload_n hx hb dX9_reachesBy_16 rfl (lv_at hl 2 rfl) ?_
  by_cases c3 : p0 = (1 : Int32)
  · replace hf := ifp c3 hf
    refine r_tab (tgt := 52) C dX9_reachesBy_17 (1 : Int32) c3 (by decide) rfl rfl ?_
    refine lv_bipush (v := (20 : Int32)) hx hb dX9_reachesBy_52 rfl ?_
    cases hf
    exact r_iret C h hr hlk rfl dX9_reachesBy_54
  · replace hf := ifn c3 hf
    by_cases c4 : p0 = (2 : Int32)
    · replace hf := ifp c4 hf
      refine r_tab (tgt := 55) C dX9_reachesBy_17 (2 : Int32) c4 (by decide) rfl rfl ?_
      refine lv_iload_n hx hb dX9_reachesBy_55 rfl (lv_at hl 1 rfl) ?_
      refine lv_iconst (v := (5 : Int32)) hx hb dX9_reachesBy_56 rfl ?_
      refine lv_iadd hx hb dX9_reachesBy_57 ?_
      cases hf
      exact r_iret C h hr hlk rfl dX9_reachesBy_58
    · replace hf := ifn c4 hf
      by_cases c5 : p0 = (3 : Int32)
      · replace hf := ifp c5 hf
        refine r_tab (tgt := 59) C dX9_reachesBy_17 (3 : Int32) c5 (by decide) rfl rfl ?_
        refine lv_iload hx hb dX9_reachesBy_59 (lv_at hl 0 rfl) ?_
        refine lv_if_le (tgt := 69) hx hb dX9_reachesBy_61 rfl (fun c8 => ?_) (fun c8 => ?_)
        · replace hf := ifp c8 hf
          refine lv_iconst (v := (0 : Int32)) hx hb dX9_reachesBy_69 rfl ?_
          cases hf
          exact r_iret C h hr hlk rfl dX9_reachesBy_70
        · replace hf := ifn c8 hf
          refine lv_iload hx hb dX9_reachesBy_64 (lv_at hl 0 rfl) ?_
          refine lv_goto (tgt := 70) hx hb dX9_reachesBy_66 rfl ?_
          cases hf
          exact r_iret C h hr hlk rfl dX9_reachesBy_70
      · replace hf := ifn c5 hf
        by_cases c6 : p0 = (4 : Int32)
        · replace hf := ifp c6 hf
          refine r_tab (tgt := 71) C dX9_reachesBy_17 (4 : Int32) c6 (by decide) rfl rfl ?_
          refine lv_iload_n hx hb dX9_reachesBy_71 rfl (lv_at hl 1 rfl) ?_
          refine lv_iconst (v := (3 : Int32)) hx hb dX9_reachesBy_72 rfl ?_
          refine lv_iload_n hx hb dX9_reachesBy_73 rfl (lv_at hl 4 rfl) ?_
          refine lv_imul hx hb dX9_reachesBy_74 ?_
          refine lv_iadd hx hb dX9_reachesBy_75 ?_
          cases hf
          exact r_iret C h hr hlk rfl dX9_reachesBy_76
        · replace hf := ifn c6 hf
          by_cases c7 : p0 = (5 : Int32)
          · replace hf := ifp c7 hf
            refine r_tab (tgt := 77) C dX9_reachesBy_17 (5 : Int32) c7 (by decide) rfl rfl ?_
            refine lv_iload_n hx hb dX9_reachesBy_77 rfl (lv_at hl 1 rfl) ?_
            refine lv_iconst (v := (3 : Int32)) hx hb dX9_reachesBy_78 rfl ?_
            refine lv_iload_n hx hb dX9_reachesBy_79 rfl (lv_at hl 4 rfl) ?_
            refine lv_imul hx hb dX9_reachesBy_80 ?_
            refine lv_iadd hx hb dX9_reachesBy_81 ?_
            refine lv_iconst (v := (2 : Int32)) hx hb dX9_reachesBy_82 rfl ?_
            refine lv_idiv hx hb dX9_reachesBy_83 (by decide) ?_
            cases hf
            exact r_iret C h hr hlk rfl dX9_reachesBy_84
          · replace hf := ifn c7 hf
            refine r_tabD (tgt := 85) C dX9_reachesBy_17 [(1 : Int32), (2 : Int32), (3 : Int32), (4 : Int32), (5 : Int32)] (by decide) (nel_c c3 (nel_c c4 (nel_c c5 (nel_c c6 (nel_c c7 nel_0))))) rfl ?_
            refine lv_iload_n hx hb dX9_reachesBy_85 rfl (lv_at hl 1 rfl) ?_
            cases hf
            exact r_iret C h hr hlk rfl dX9_reachesBy_86
def f_X9_reachesWith (p0 : Int32) (p1 : Int32) (f_this_s : Nat → Int32) : Option (Int32) := bd1 (f_X9_get p0 (0 : Int32) f_this_s) (fun r1 => bd1 (f_X9_lightNow f_this_s) (fun r3 => bd1 (f_X9_reachesBy r1 p1 (r3 / (4 : Int32))) (fun r5 => bd1 (f_X9_get p0 (3 : Int32) f_this_s) (fun r7 => chkI ((29 : Int32) + r7) 313 (some (r5 + (f_this_s ((29 : Int32) + r7).toNatClampNeg)))))))
set_option maxRecDepth 100000 in
set_option maxHeartbeats 4000000 in
theorem c_X9_reachesWith {l : Launch} {G : Gt} {h_this h_this_s h_this_kept h_this_laid h_this_pile h_this_tape h_this_letters h_this_code0 h_this_read h_this_saved h_this_plan h_this_bestPlan h_this_offThen h_this_paidThen h_this_rows h_this_sorts h_this_sizes h_this_number h_this_holds h_this_heldOne h_this_trace : Nat} {p0 : Int32} {p1 : Int32} {x_this_isKept : Int32} {x_this_taped : Int32} {x_this_at : Int32} {x_this_begun : Int32} {x_this_token : Int32} {x_this_value : Int32} {x_this_opened : Int32} {x_this_steps : Int32} {x_this_most : Int32} {x_this_many : Int32} {x_this_few : Int32} {x_this_everHome : Int32} {x_this_firstFit : Int32} {x_this_rowMany : Int32} {x_this_traced : Int32} {x_this_own : Int32} {x_this_isParted : Int32} {f_this_s : Nat → Int32} {r : Int32} (hf : f_X9_reachesWith p0 p1 f_this_s = some r) : mFi l G yX9_reachesWith cX9_reachesWith 3 .int 1 [.ref h_this, .int p0, .int p1] [(h_this, ob 9 [.ref h_this_s, .ref h_this_kept, .ref h_this_laid, .int x_this_isKept, .ref h_this_pile, .ref h_this_tape, .int x_this_taped, .ref h_this_letters, .int x_this_at, .int x_this_begun, .int x_this_token, .int x_this_value, .int x_this_opened, .int x_this_steps, .ref h_this_code0, .ref h_this_read, .ref h_this_saved, .ref h_this_plan, .ref h_this_bestPlan, .int x_this_most, .int x_this_many, .int x_this_few, .int x_this_everHome, .ref h_this_offThen, .ref h_this_paidThen, .int x_this_firstFit, .ref h_this_rows, .int x_this_rowMany, .ref h_this_sorts, .ref h_this_sizes, .ref h_this_number, .ref h_this_holds, .ref h_this_heldOne, .ref h_this_trace, .int x_this_traced, .int x_this_own, .int x_this_isParted]), (h_this_s, ia G 313 f_this_s)] r [(h_this, ob 9 [.ref h_this_s, .ref h_this_kept, .ref h_this_laid, .int x_this_isKept, .ref h_this_pile, .ref h_this_tape, .int x_this_taped, .ref h_this_letters, .int x_this_at, .int x_this_begun, .int x_this_token, .int x_this_value, .int x_this_opened, .int x_this_steps, .ref h_this_code0, .ref h_this_read, .ref h_this_saved, .ref h_this_plan, .ref h_this_bestPlan, .int x_this_most, .int x_this_many, .int x_this_few, .int x_this_everHome, .ref h_this_offThen, .ref h_this_paidThen, .int x_this_firstFit, .ref h_this_rows, .int x_this_rowMany, .ref h_this_sorts, .ref h_this_sizes, .ref h_this_number, .ref h_this_holds, .ref h_this_heldOne, .ref h_this_trace, .int x_this_traced, .int x_this_own, .int x_this_isParted]), (h_this_s, ia G 313 f_this_s)] := by
  refine mFi.of (by decide +kernel) (Nat.le_of_ble_eq_true rfl) ?_
  intro p e s m below meth c A C hr hlk h ls hl
  obtain ⟨hx, hb, hml, hown, hts⟩ := id C
  replace hl : lv_has ls 3 [(0, .ref h_this), (1, .int p0), (2, .int p1)] := hl
  unfold f_X9_reachesWith at hf
  refine lv_aload_n hx hb dX9_reachesWith_0 rfl (lv_at hl 0 rfl) ?_
  refine lv_iload_n hx hb dX9_reachesWith_1 rfl (lv_at hl 1 rfl) ?_
  refine lv_iconst (v := (0 : Int32)) hx hb dX9_reachesWith_2 rfl ?_
  replace hf := bd1_inv hf
  obtain ⟨r1, hc2, hf⟩ := hf
  refine r_ciV0 C h (c_X9_get hc2) mv_X9_79 rfl 0 rfl [0, 1] rfl rfl hl.1 rfl (Nat.le_of_ble_eq_true rfl) (rok (by decide)) dX9_reachesWith_3 (fun H locs h => ?_)
  refine lv_iload_n hx hb dX9_reachesWith_6 rfl (lv_at hl 2 rfl) ?_
  refine lv_aload_n hx hb dX9_reachesWith_7 rfl (lv_at hl 0 rfl) ?_
  replace hf := bd1_inv hf
  obtain ⟨r3, hc4, hf⟩ := hf
  refine r_ciV0 C h (c_X9_lightNow hc4) mv_X9_83 rfl 0 rfl [0, 1] rfl rfl hl.1 rfl (Nat.le_of_ble_eq_true rfl) (rok (by decide)) dX9_reachesWith_8 (fun H locs h => ?_)
  refine lv_iconst (v := (4 : Int32)) hx hb dX9_reachesWith_11 rfl ?_
  refine lv_idiv hx hb dX9_reachesWith_12 (by decide) ?_
  replace hf := bd1_inv hf
  obtain ⟨r5, hc6, hf⟩ := hf
  refine r_ciS0 C h (c_X9_reachesBy hc6) ms_X9_91 rfl [] rfl rfl hl.1 rfl (Nat.le_of_ble_eq_true rfl) (rok (by decide)) dX9_reachesWith_13 (fun H locs h => ?_)
  refine lv_aload_n hx hb dX9_reachesWith_16 rfl (lv_at hl 0 rfl) ?_
  refine r_get C h fk_X9_9 0 rfl rfl dX9_reachesWith_17 ?_
  refine lv_bipush (v := (29 : Int32)) hx hb dX9_reachesWith_20 rfl ?_
  refine lv_aload_n hx hb dX9_reachesWith_22 rfl (lv_at hl 0 rfl) ?_
  refine lv_iload_n hx hb dX9_reachesWith_23 rfl (lv_at hl 1 rfl) ?_
  refine lv_iconst (v := (3 : Int32)) hx hb dX9_reachesWith_24 rfl ?_
  replace hf := bd1_inv hf
  obtain ⟨r7, hc8, hf⟩ := hf
  refine r_ciV0 C h (c_X9_get hc8) mv_X9_79 rfl 0 rfl [0, 1] rfl rfl hl.1 rfl (Nat.le_of_ble_eq_true rfl) (rok (by decide)) dX9_reachesWith_25 (fun H locs h => ?_)
  refine lv_iadd hx hb dX9_reachesWith_28 ?_
  replace hf := chkI_inv hf
  obtain ⟨hi9, hf⟩ := hf
  refine r_iald C h 1 rfl hi9 dX9_reachesWith_29 ?_
  refine lv_iadd hx hb dX9_reachesWith_30 ?_
  cases hf
  exact r_iret C h hr hlk rfl dX9_reachesWith_31
def f_X9_isReachedWith (p0 : Int32) (p1 : Int32) (f_this_s : Nat → Int32) : Option (Int32) := bd1 (f_X9_get p0 (4 : Int32) f_this_s) (fun r1 => (if r1 = 0 then bd1 (f_X9_get p0 (1 : Int32) f_this_s) (fun r4 => (if r4 ≤ 0 then some (0 : Int32) else bd1 (f_X9_get p0 (1 : Int32) f_this_s) (fun r7 => bd1 (f_X9_reachesWith p0 p1 f_this_s) (fun r9 => (if r9 < r7 then some (0 : Int32) else some (1 : Int32)))))) else some (0 : Int32)))
set_option maxRecDepth 100000 in
set_option maxHeartbeats 4000000 in
theorem c_X9_isReachedWith {l : Launch} {G : Gt} {h_this h_this_s h_this_kept h_this_laid h_this_pile h_this_tape h_this_letters h_this_code0 h_this_read h_this_saved h_this_plan h_this_bestPlan h_this_offThen h_this_paidThen h_this_rows h_this_sorts h_this_sizes h_this_number h_this_holds h_this_heldOne h_this_trace : Nat} {p0 : Int32} {p1 : Int32} {x_this_isKept : Int32} {x_this_taped : Int32} {x_this_at : Int32} {x_this_begun : Int32} {x_this_token : Int32} {x_this_value : Int32} {x_this_opened : Int32} {x_this_steps : Int32} {x_this_most : Int32} {x_this_many : Int32} {x_this_few : Int32} {x_this_everHome : Int32} {x_this_firstFit : Int32} {x_this_rowMany : Int32} {x_this_traced : Int32} {x_this_own : Int32} {x_this_isParted : Int32} {f_this_s : Nat → Int32} {r : Int32} (hf : f_X9_isReachedWith p0 p1 f_this_s = some r) : mFi l G yX9_isReachedWith cX9_isReachedWith 3 .boolean 2 [.ref h_this, .int p0, .int p1] [(h_this, ob 9 [.ref h_this_s, .ref h_this_kept, .ref h_this_laid, .int x_this_isKept, .ref h_this_pile, .ref h_this_tape, .int x_this_taped, .ref h_this_letters, .int x_this_at, .int x_this_begun, .int x_this_token, .int x_this_value, .int x_this_opened, .int x_this_steps, .ref h_this_code0, .ref h_this_read, .ref h_this_saved, .ref h_this_plan, .ref h_this_bestPlan, .int x_this_most, .int x_this_many, .int x_this_few, .int x_this_everHome, .ref h_this_offThen, .ref h_this_paidThen, .int x_this_firstFit, .ref h_this_rows, .int x_this_rowMany, .ref h_this_sorts, .ref h_this_sizes, .ref h_this_number, .ref h_this_holds, .ref h_this_heldOne, .ref h_this_trace, .int x_this_traced, .int x_this_own, .int x_this_isParted]), (h_this_s, ia G 313 f_this_s)] r [(h_this, ob 9 [.ref h_this_s, .ref h_this_kept, .ref h_this_laid, .int x_this_isKept, .ref h_this_pile, .ref h_this_tape, .int x_this_taped, .ref h_this_letters, .int x_this_at, .int x_this_begun, .int x_this_token, .int x_this_value, .int x_this_opened, .int x_this_steps, .ref h_this_code0, .ref h_this_read, .ref h_this_saved, .ref h_this_plan, .ref h_this_bestPlan, .int x_this_most, .int x_this_many, .int x_this_few, .int x_this_everHome, .ref h_this_offThen, .ref h_this_paidThen, .int x_this_firstFit, .ref h_this_rows, .int x_this_rowMany, .ref h_this_sorts, .ref h_this_sizes, .ref h_this_number, .ref h_this_holds, .ref h_this_heldOne, .ref h_this_trace, .int x_this_traced, .int x_this_own, .int x_this_isParted]), (h_this_s, ia G 313 f_this_s)] := by
  refine mFi.of (by decide +kernel) (Nat.le_of_ble_eq_true rfl) ?_
  intro p e s m below meth c A C hr hlk h ls hl
  obtain ⟨hx, hb, hml, hown, hts⟩ := id C
  replace hl : lv_has ls 3 [(0, .ref h_this), (1, .int p0), (2, .int p1)] := hl
  unfold f_X9_isReachedWith at hf
  refine lv_aload_n hx hb dX9_isReachedWith_0 rfl (lv_at hl 0 rfl) ?_
  refine lv_iload_n hx hb dX9_isReachedWith_1 rfl (lv_at hl 1 rfl) ?_
  refine lv_iconst (v := (4 : Int32)) hx hb dX9_isReachedWith_2 rfl ?_
  replace hf := bd1_inv hf
  obtain ⟨r1, hc2, hf⟩ := hf
  refine r_ciV0 C h (c_X9_get hc2) mv_X9_79 rfl 0 rfl [0, 1] rfl rfl hl.1 rfl (Nat.le_of_ble_eq_true rfl) (rok (by decide)) dX9_isReachedWith_3 (fun H locs h => ?_)
  refine lv_if_ne (tgt := 37) hx hb dX9_isReachedWith_6 rfl (fun c3 => ?_) (fun c3 => ?_)
  · replace hf := ifn c3 hf
    refine lv_iconst (v := (0 : Int32)) hx hb dX9_isReachedWith_37 rfl ?_
    cases hf
    exact r_iret C h hr hlk rfl dX9_isReachedWith_38
  · replace hf := ifp c3 hf
    refine lv_aload_n hx hb dX9_isReachedWith_9 rfl (lv_at hl 0 rfl) ?_
    refine lv_iload_n hx hb dX9_isReachedWith_10 rfl (lv_at hl 1 rfl) ?_
    refine lv_iconst (v := (1 : Int32)) hx hb dX9_isReachedWith_11 rfl ?_
    replace hf := bd1_inv hf
    obtain ⟨r4, hc5, hf⟩ := hf
    refine r_ciV0 C h (c_X9_get hc5) mv_X9_79 rfl 0 rfl [0, 1] rfl rfl hl.1 rfl (Nat.le_of_ble_eq_true rfl) (rok (by decide)) dX9_isReachedWith_12 (fun H locs h => ?_)
    refine lv_if_le (tgt := 37) hx hb dX9_isReachedWith_15 rfl (fun c6 => ?_) (fun c6 => ?_)
    · replace hf := ifp c6 hf
      refine lv_iconst (v := (0 : Int32)) hx hb dX9_isReachedWith_37 rfl ?_
      cases hf
      exact r_iret C h hr hlk rfl dX9_isReachedWith_38
    · replace hf := ifn c6 hf
      refine lv_aload_n hx hb dX9_isReachedWith_18 rfl (lv_at hl 0 rfl) ?_
      refine lv_iload_n hx hb dX9_isReachedWith_19 rfl (lv_at hl 1 rfl) ?_
      refine lv_iconst (v := (1 : Int32)) hx hb dX9_isReachedWith_20 rfl ?_
      replace hf := bd1_inv hf
      obtain ⟨r7, hc8, hf⟩ := hf
      refine r_ciV0 C h (c_X9_get hc8) mv_X9_79 rfl 0 rfl [0, 1] rfl rfl hl.1 rfl (Nat.le_of_ble_eq_true rfl) (rok (by decide)) dX9_isReachedWith_21 (fun H locs h => ?_)
      refine lv_aload_n hx hb dX9_isReachedWith_24 rfl (lv_at hl 0 rfl) ?_
      refine lv_iload_n hx hb dX9_isReachedWith_25 rfl (lv_at hl 1 rfl) ?_
      refine lv_iload_n hx hb dX9_isReachedWith_26 rfl (lv_at hl 2 rfl) ?_
      replace hf := bd1_inv hf
      obtain ⟨r9, hc10, hf⟩ := hf
      refine r_ciV0 C h (c_X9_reachesWith hc10) mv_X9_95 rfl 0 rfl [0, 1] rfl rfl hl.1 rfl (Nat.le_of_ble_eq_true rfl) (rok (by decide)) dX9_isReachedWith_27 (fun H locs h => ?_)
      refine lv_icmp_gt (tgt := 37) hx hb dX9_isReachedWith_30 rfl (fun c11 => ?_) (fun c11 => ?_)
      · replace hf := ifp c11 hf
        refine lv_iconst (v := (0 : Int32)) hx hb dX9_isReachedWith_37 rfl ?_
        cases hf
        exact r_iret C h hr hlk rfl dX9_isReachedWith_38
      · replace hf := ifn c11 hf
        refine lv_iconst (v := (1 : Int32)) hx hb dX9_isReachedWith_33 rfl ?_
        refine lv_goto (tgt := 38) hx hb dX9_isReachedWith_34 rfl ?_
        cases hf
        exact r_iret C h hr hlk rfl dX9_isReachedWith_38
def f_X9_paysOf (p0 : Int32) (f_this_s : Nat → Int32) : Option (Int32) := bd1 (f_X9_get p0 (2 : Int32) f_this_s) (fun r1 => bd1 (f_X9_isReachedWith p0 r1 f_this_s) (fun r3 => (if r3 = 0 then some (0 : Int32) else bd1 (f_X9_get p0 (2 : Int32) f_this_s) (fun r6 => some ((6 : Int32) + r6)))))
set_option maxRecDepth 100000 in
set_option maxHeartbeats 4000000 in
theorem c_X9_paysOf {l : Launch} {G : Gt} {h_this h_this_s h_this_kept h_this_laid h_this_pile h_this_tape h_this_letters h_this_code0 h_this_read h_this_saved h_this_plan h_this_bestPlan h_this_offThen h_this_paidThen h_this_rows h_this_sorts h_this_sizes h_this_number h_this_holds h_this_heldOne h_this_trace : Nat} {p0 : Int32} {x_this_isKept : Int32} {x_this_taped : Int32} {x_this_at : Int32} {x_this_begun : Int32} {x_this_token : Int32} {x_this_value : Int32} {x_this_opened : Int32} {x_this_steps : Int32} {x_this_most : Int32} {x_this_many : Int32} {x_this_few : Int32} {x_this_everHome : Int32} {x_this_firstFit : Int32} {x_this_rowMany : Int32} {x_this_traced : Int32} {x_this_own : Int32} {x_this_isParted : Int32} {f_this_s : Nat → Int32} {r : Int32} (hf : f_X9_paysOf p0 f_this_s = some r) : mFi l G yX9_paysOf cX9_paysOf 2 .int 3 [.ref h_this, .int p0] [(h_this, ob 9 [.ref h_this_s, .ref h_this_kept, .ref h_this_laid, .int x_this_isKept, .ref h_this_pile, .ref h_this_tape, .int x_this_taped, .ref h_this_letters, .int x_this_at, .int x_this_begun, .int x_this_token, .int x_this_value, .int x_this_opened, .int x_this_steps, .ref h_this_code0, .ref h_this_read, .ref h_this_saved, .ref h_this_plan, .ref h_this_bestPlan, .int x_this_most, .int x_this_many, .int x_this_few, .int x_this_everHome, .ref h_this_offThen, .ref h_this_paidThen, .int x_this_firstFit, .ref h_this_rows, .int x_this_rowMany, .ref h_this_sorts, .ref h_this_sizes, .ref h_this_number, .ref h_this_holds, .ref h_this_heldOne, .ref h_this_trace, .int x_this_traced, .int x_this_own, .int x_this_isParted]), (h_this_s, ia G 313 f_this_s)] r [(h_this, ob 9 [.ref h_this_s, .ref h_this_kept, .ref h_this_laid, .int x_this_isKept, .ref h_this_pile, .ref h_this_tape, .int x_this_taped, .ref h_this_letters, .int x_this_at, .int x_this_begun, .int x_this_token, .int x_this_value, .int x_this_opened, .int x_this_steps, .ref h_this_code0, .ref h_this_read, .ref h_this_saved, .ref h_this_plan, .ref h_this_bestPlan, .int x_this_most, .int x_this_many, .int x_this_few, .int x_this_everHome, .ref h_this_offThen, .ref h_this_paidThen, .int x_this_firstFit, .ref h_this_rows, .int x_this_rowMany, .ref h_this_sorts, .ref h_this_sizes, .ref h_this_number, .ref h_this_holds, .ref h_this_heldOne, .ref h_this_trace, .int x_this_traced, .int x_this_own, .int x_this_isParted]), (h_this_s, ia G 313 f_this_s)] := by
  refine mFi.of (by decide +kernel) (Nat.le_of_ble_eq_true rfl) ?_
  intro p e s m below meth c A C hr hlk h ls hl
  obtain ⟨hx, hb, hml, hown, hts⟩ := id C
  replace hl : lv_has ls 2 [(0, .ref h_this), (1, .int p0)] := hl
  unfold f_X9_paysOf at hf
  refine lv_aload_n hx hb dX9_paysOf_0 rfl (lv_at hl 0 rfl) ?_
  refine lv_iload_n hx hb dX9_paysOf_1 rfl (lv_at hl 1 rfl) ?_
  refine lv_aload_n hx hb dX9_paysOf_2 rfl (lv_at hl 0 rfl) ?_
  refine lv_iload_n hx hb dX9_paysOf_3 rfl (lv_at hl 1 rfl) ?_
  refine lv_iconst (v := (2 : Int32)) hx hb dX9_paysOf_4 rfl ?_
  replace hf := bd1_inv hf
  obtain ⟨r1, hc2, hf⟩ := hf
  refine r_ciV0 C h (c_X9_get hc2) mv_X9_79 rfl 0 rfl [0, 1] rfl rfl hl.1 rfl (Nat.le_of_ble_eq_true rfl) (rok (by decide)) dX9_paysOf_5 (fun H locs h => ?_)
  replace hf := bd1_inv hf
  obtain ⟨r3, hc4, hf⟩ := hf
  refine r_ciV0 C h (c_X9_isReachedWith hc4) mv_X9_98 rfl 0 rfl [0, 1] rfl rfl hl.1 rfl (Nat.le_of_ble_eq_true rfl) (rok (by decide)) dX9_paysOf_8 (fun H locs h => ?_)
  refine lv_if_eq (tgt := 26) hx hb dX9_paysOf_11 rfl (fun c5 => ?_) (fun c5 => ?_)
  · replace hf := ifp c5 hf
    refine lv_iconst (v := (0 : Int32)) hx hb dX9_paysOf_26 rfl ?_
    cases hf
    exact r_iret C h hr hlk rfl dX9_paysOf_27
  · replace hf := ifn c5 hf
    refine lv_bipush (v := (6 : Int32)) hx hb dX9_paysOf_14 rfl ?_
    refine lv_aload_n hx hb dX9_paysOf_16 rfl (lv_at hl 0 rfl) ?_
    refine lv_iload_n hx hb dX9_paysOf_17 rfl (lv_at hl 1 rfl) ?_
    refine lv_iconst (v := (2 : Int32)) hx hb dX9_paysOf_18 rfl ?_
    replace hf := bd1_inv hf
    obtain ⟨r6, hc7, hf⟩ := hf
    refine r_ciV0 C h (c_X9_get hc7) mv_X9_79 rfl 0 rfl [0, 1] rfl rfl hl.1 rfl (Nat.le_of_ble_eq_true rfl) (rok (by decide)) dX9_paysOf_19 (fun H locs h => ?_)
    refine lv_iadd hx hb dX9_paysOf_22 ?_
    refine lv_goto (tgt := 27) hx hb dX9_paysOf_23 rfl ?_
    cases hf
    exact r_iret C h hr hlk rfl dX9_paysOf_27
def f_X9_ruleOf (p0 : Int32) (p1 : Int32) (f_this_s : Nat → Int32) : Option (Int32) := chkI (((89 : Int32) + ((3 : Int32) * p0)) + p1) 313 (some (f_this_s (((89 : Int32) + ((3 : Int32) * p0)) + p1).toNatClampNeg))
set_option maxRecDepth 100000 in
set_option maxHeartbeats 4000000 in
theorem c_X9_ruleOf {l : Launch} {G : Gt} {h_this h_this_s h_this_kept h_this_laid h_this_pile h_this_tape h_this_letters h_this_code0 h_this_read h_this_saved h_this_plan h_this_bestPlan h_this_offThen h_this_paidThen h_this_rows h_this_sorts h_this_sizes h_this_number h_this_holds h_this_heldOne h_this_trace : Nat} {p0 : Int32} {p1 : Int32} {x_this_isKept : Int32} {x_this_taped : Int32} {x_this_at : Int32} {x_this_begun : Int32} {x_this_token : Int32} {x_this_value : Int32} {x_this_opened : Int32} {x_this_steps : Int32} {x_this_most : Int32} {x_this_many : Int32} {x_this_few : Int32} {x_this_everHome : Int32} {x_this_firstFit : Int32} {x_this_rowMany : Int32} {x_this_traced : Int32} {x_this_own : Int32} {x_this_isParted : Int32} {f_this_s : Nat → Int32} {r : Int32} (hf : f_X9_ruleOf p0 p1 f_this_s = some r) : mFi l G yX9_ruleOf cX9_ruleOf 3 .int 0 [.ref h_this, .int p0, .int p1] [(h_this, ob 9 [.ref h_this_s, .ref h_this_kept, .ref h_this_laid, .int x_this_isKept, .ref h_this_pile, .ref h_this_tape, .int x_this_taped, .ref h_this_letters, .int x_this_at, .int x_this_begun, .int x_this_token, .int x_this_value, .int x_this_opened, .int x_this_steps, .ref h_this_code0, .ref h_this_read, .ref h_this_saved, .ref h_this_plan, .ref h_this_bestPlan, .int x_this_most, .int x_this_many, .int x_this_few, .int x_this_everHome, .ref h_this_offThen, .ref h_this_paidThen, .int x_this_firstFit, .ref h_this_rows, .int x_this_rowMany, .ref h_this_sorts, .ref h_this_sizes, .ref h_this_number, .ref h_this_holds, .ref h_this_heldOne, .ref h_this_trace, .int x_this_traced, .int x_this_own, .int x_this_isParted]), (h_this_s, ia G 313 f_this_s)] r [(h_this, ob 9 [.ref h_this_s, .ref h_this_kept, .ref h_this_laid, .int x_this_isKept, .ref h_this_pile, .ref h_this_tape, .int x_this_taped, .ref h_this_letters, .int x_this_at, .int x_this_begun, .int x_this_token, .int x_this_value, .int x_this_opened, .int x_this_steps, .ref h_this_code0, .ref h_this_read, .ref h_this_saved, .ref h_this_plan, .ref h_this_bestPlan, .int x_this_most, .int x_this_many, .int x_this_few, .int x_this_everHome, .ref h_this_offThen, .ref h_this_paidThen, .int x_this_firstFit, .ref h_this_rows, .int x_this_rowMany, .ref h_this_sorts, .ref h_this_sizes, .ref h_this_number, .ref h_this_holds, .ref h_this_heldOne, .ref h_this_trace, .int x_this_traced, .int x_this_own, .int x_this_isParted]), (h_this_s, ia G 313 f_this_s)] := by
  refine mFi.of (by decide +kernel) (Nat.le_of_ble_eq_true rfl) ?_
  intro p e s m below meth c A C hr hlk h ls hl
  obtain ⟨hx, hb, hml, hown, hts⟩ := id C
  replace hl : lv_has ls 3 [(0, .ref h_this), (1, .int p0), (2, .int p1)] := hl
  unfold f_X9_ruleOf at hf
  refine lv_aload_n hx hb dX9_ruleOf_0 rfl (lv_at hl 0 rfl) ?_
  refine r_get C h fk_X9_9 0 rfl rfl dX9_ruleOf_1 ?_
  refine lv_bipush (v := (89 : Int32)) hx hb dX9_ruleOf_4 rfl ?_
  refine lv_iconst (v := (3 : Int32)) hx hb dX9_ruleOf_6 rfl ?_
  refine lv_iload_n hx hb dX9_ruleOf_7 rfl (lv_at hl 1 rfl) ?_
  refine lv_imul hx hb dX9_ruleOf_8 ?_
  refine lv_iadd hx hb dX9_ruleOf_9 ?_
  refine lv_iload_n hx hb dX9_ruleOf_10 rfl (lv_at hl 2 rfl) ?_
  refine lv_iadd hx hb dX9_ruleOf_11 ?_
  replace hf := chkI_inv hf
  obtain ⟨hi1, hf⟩ := hf
  refine r_iald C h 1 rfl hi1 dX9_ruleOf_12 ?_
  cases hf
  exact r_iret C h hr hlk rfl dX9_ruleOf_13
def f_X9_above (p0 : Int32) : Option (Int32) := (if p0 = (3 : Int32) then some (2 : Int32) else (if p0 = (5 : Int32) then some (4 : Int32) else some (0 : Int32)))
set_option maxRecDepth 100000 in
set_option maxHeartbeats 4000000 in
theorem c_X9_above {l : Launch} {G : Gt} {p0 : Int32} {r : Int32} (hf : f_X9_above p0 = some r) : mFi l G yX9_above cX9_above 1 .int 0 [.int p0] ([] : va_W) r ([] : va_W) := by
  refine mFi.of (by decide +kernel) (Nat.le_of_ble_eq_true rfl) ?_
  intro p e s m below meth c A C hr hlk h ls hl
  obtain ⟨hx, hb, hml, hown, hts⟩ := id C
  replace hl : lv_has ls 1 [(0, .int p0)] := hl
  unfold f_X9_above at hf
  refine lv_iload_n hx hb dX9_above_0 rfl (lv_at hl 0 rfl) ?_
  refine lv_iconst (v := (3 : Int32)) hx hb dX9_above_1 rfl ?_
  refine lv_icmp_ne (tgt := 9) hx hb dX9_above_2 rfl (fun c1 => ?_) (fun c1 => ?_)
  · replace hf := ifn c1 hf
    refine lv_iload_n hx hb dX9_above_9 rfl (lv_at hl 0 rfl) ?_
    refine lv_iconst (v := (5 : Int32)) hx hb dX9_above_10 rfl ?_
    refine lv_icmp_ne (tgt := 18) hx hb dX9_above_11 rfl (fun c2 => ?_) (fun c2 => ?_)
    · replace hf := ifn c2 hf
      refine lv_iconst (v := (0 : Int32)) hx hb dX9_above_18 rfl ?_
      cases hf
      exact r_iret C h hr hlk rfl dX9_above_19
    · replace hf := ifp c2 hf
      refine lv_iconst (v := (4 : Int32)) hx hb dX9_above_14 rfl ?_
      refine lv_goto (tgt := 19) hx hb dX9_above_15 rfl ?_
      cases hf
      exact r_iret C h hr hlk rfl dX9_above_19
  · replace hf := ifp c1 hf
    refine lv_iconst (v := (2 : Int32)) hx hb dX9_above_5 rfl ?_
    refine lv_goto (tgt := 19) hx hb dX9_above_6 rfl ?_
    cases hf
    exact r_iret C h hr hlk rfl dX9_above_19
def f_X9_isUnder_L2 (p1 : Int32) : Nat → Int32 → Option (Int32)
  | 0, _ => none
  | n + 1, v2 => (if v2 = p1 then (if v2 = p1 then some (1 : Int32) else some (0 : Int32)) else (if v2 = 0 then (if v2 = p1 then some (1 : Int32) else some (0 : Int32)) else bd1 (f_X9_above v2) (fun r5 => (f_X9_isUnder_L2 p1 n) r5)))
def f_X9_isUnder (p0 : Int32) (p1 : Int32) : Option (Int32) := f_X9_isUnder_L2 p1 1000 p0
set_option maxRecDepth 100000 in
set_option maxHeartbeats 4000000 in
theorem c_X9_isUnder {l : Launch} {G : Gt} {p0 : Int32} {p1 : Int32} {r : Int32} (hf : f_X9_isUnder p0 p1 = some r) : mFi l G yX9_isUnder cX9_isUnder 3 .boolean 1 [.int p0, .int p1] ([] : va_W) r ([] : va_W) := by
  refine mFi.of (by decide +kernel) (Nat.le_of_ble_eq_true rfl) ?_
  intro p e s m below meth c A C hr hlk h ls hl
  obtain ⟨hx, hb, hml, hown, hts⟩ := id C
  replace hl : lv_has ls 3 [(0, .int p0), (1, .int p1)] := hl
  unfold f_X9_isUnder at hf
  refine with_K G A 3 (fun K hK1 hK2 => ?_)
  have L2 : ∀ (n : Nat) (v2 : Int32), f_X9_isUnder_L2 p1 n v2 = some r → K 2 ([] : List Value) ([] : va_W) [(1, .int p1), (2, .int v2)] := by
    intro n
    induction n with
    | zero =>
      intro v2 hf
      replace hf : (none : Option _) = some _ := hf
      cases hf
    | succ n ih =>
      intro v2 hf
      rw [f_X9_isUnder_L2] at hf
      refine hK1 _ _ _ _ (fun H locs ls h hl => ?_)
      refine lv_iload_n hx hb dX9_isUnder_2 rfl (lv_at hl 1 rfl) ?_
      refine lv_iload_n hx hb dX9_isUnder_3 rfl (lv_at hl 0 rfl) ?_
      refine lv_icmp_eq (tgt := 19) hx hb dX9_isUnder_4 rfl (fun c1 => ?_) (fun c1 => ?_)
      · replace hf := ifp c1 hf
        refine lv_iload_n hx hb dX9_isUnder_19 rfl (lv_at hl 1 rfl) ?_
        refine lv_iload_n hx hb dX9_isUnder_20 rfl (lv_at hl 0 rfl) ?_
        refine lv_icmp_ne (tgt := 28) hx hb dX9_isUnder_21 rfl (fun c2 => ?_) (fun c2 => ?_)
        · replace hf := ifn c2 hf
          refine lv_iconst (v := (0 : Int32)) hx hb dX9_isUnder_28 rfl ?_
          cases hf
          exact r_iret C h hr hlk rfl dX9_isUnder_29
        · replace hf := ifp c2 hf
          refine lv_iconst (v := (1 : Int32)) hx hb dX9_isUnder_24 rfl ?_
          refine lv_goto (tgt := 29) hx hb dX9_isUnder_25 rfl ?_
          cases hf
          exact r_iret C h hr hlk rfl dX9_isUnder_29
      · replace hf := ifn c1 hf
        refine lv_iload_n hx hb dX9_isUnder_7 rfl (lv_at hl 1 rfl) ?_
        refine lv_if_eq (tgt := 19) hx hb dX9_isUnder_8 rfl (fun c3 => ?_) (fun c3 => ?_)
        · replace hf := ifp c3 hf
          refine lv_iload_n hx hb dX9_isUnder_19 rfl (lv_at hl 1 rfl) ?_
          refine lv_iload_n hx hb dX9_isUnder_20 rfl (lv_at hl 0 rfl) ?_
          refine lv_icmp_ne (tgt := 28) hx hb dX9_isUnder_21 rfl (fun c4 => ?_) (fun c4 => ?_)
          · replace hf := ifn c4 hf
            refine lv_iconst (v := (0 : Int32)) hx hb dX9_isUnder_28 rfl ?_
            cases hf
            exact r_iret C h hr hlk rfl dX9_isUnder_29
          · replace hf := ifp c4 hf
            refine lv_iconst (v := (1 : Int32)) hx hb dX9_isUnder_24 rfl ?_
            refine lv_goto (tgt := 29) hx hb dX9_isUnder_25 rfl ?_
            cases hf
            exact r_iret C h hr hlk rfl dX9_isUnder_29
        · replace hf := ifn c3 hf
          refine lv_iload_n hx hb dX9_isUnder_11 rfl (lv_at hl 1 rfl) ?_
          replace hf := bd1_inv hf
          obtain ⟨r5, hc6, hf⟩ := hf
          refine r_ciS0 C h (c_X9_above hc6) ms_X9_75 rfl [] rfl rfl hl.1 rfl (Nat.le_of_ble_eq_true rfl) (rok (by decide)) dX9_isUnder_12 (fun H locs h => ?_)
          refine lv_istore_n (lv' := [(2, .int r5), (1, .int p1)]) hx hb dX9_isUnder_15 rfl hl (by decide) rfl (fun ls hl => ?_)
          refine lv_goto (tgt := 2) hx hb dX9_isUnder_16 rfl ?_
          exact hK2 _ _ _ _ (ih r5 hf) _ _ _ h (lv_sub hl [1, 0] rfl)
  refine lv_iload_n hx hb dX9_isUnder_0 rfl (lv_at hl 0 rfl) ?_
  refine lv_istore_n (lv' := [(2, .int p0), (0, .int p0), (1, .int p1)]) hx hb dX9_isUnder_1 rfl hl (by decide) rfl (fun ls hl => ?_)
  exact hK2 _ _ _ _ (L2 1000 p0 hf) _ _ _ h (lv_sub hl [2, 0] rfl)
def f_X9_knownOf (p0 : Int32) (p1 : Int32) (f_this_s : Nat → Int32) : Option (Int32) := (if p0 = 0 then some (f_this_s 0) else (if p0 = (1 : Int32) then bd1 (f_X9_get p1 (1 : Int32) f_this_s) (fun r9 => some r9) else (if p0 = (2 : Int32) then bd1 (f_X9_get p1 (2 : Int32) f_this_s) (fun r7 => some r7) else (if p0 = (3 : Int32) then bd1 (f_X9_lightNow f_this_s) (fun r5 => some (r5 / (4 : Int32))) else some p1))))
set_option maxRecDepth 100000 in
set_option maxHeartbeats 4000000 in
theorem c_X9_knownOf {l : Launch} {G : Gt} {h_this h_this_s h_this_kept h_this_laid h_this_pile h_this_tape h_this_letters h_this_code0 h_this_read h_this_saved h_this_plan h_this_bestPlan h_this_offThen h_this_paidThen h_this_rows h_this_sorts h_this_sizes h_this_number h_this_holds h_this_heldOne h_this_trace : Nat} {p0 : Int32} {p1 : Int32} {x_this_isKept : Int32} {x_this_taped : Int32} {x_this_at : Int32} {x_this_begun : Int32} {x_this_token : Int32} {x_this_value : Int32} {x_this_opened : Int32} {x_this_steps : Int32} {x_this_most : Int32} {x_this_many : Int32} {x_this_few : Int32} {x_this_everHome : Int32} {x_this_firstFit : Int32} {x_this_rowMany : Int32} {x_this_traced : Int32} {x_this_own : Int32} {x_this_isParted : Int32} {f_this_s : Nat → Int32} {r : Int32} (hf : f_X9_knownOf p0 p1 f_this_s = some r) : mFi l G yX9_knownOf cX9_knownOf 3 .int 1 [.ref h_this, .int p0, .int p1] [(h_this, ob 9 [.ref h_this_s, .ref h_this_kept, .ref h_this_laid, .int x_this_isKept, .ref h_this_pile, .ref h_this_tape, .int x_this_taped, .ref h_this_letters, .int x_this_at, .int x_this_begun, .int x_this_token, .int x_this_value, .int x_this_opened, .int x_this_steps, .ref h_this_code0, .ref h_this_read, .ref h_this_saved, .ref h_this_plan, .ref h_this_bestPlan, .int x_this_most, .int x_this_many, .int x_this_few, .int x_this_everHome, .ref h_this_offThen, .ref h_this_paidThen, .int x_this_firstFit, .ref h_this_rows, .int x_this_rowMany, .ref h_this_sorts, .ref h_this_sizes, .ref h_this_number, .ref h_this_holds, .ref h_this_heldOne, .ref h_this_trace, .int x_this_traced, .int x_this_own, .int x_this_isParted]), (h_this_s, ia G 313 f_this_s)] r [(h_this, ob 9 [.ref h_this_s, .ref h_this_kept, .ref h_this_laid, .int x_this_isKept, .ref h_this_pile, .ref h_this_tape, .int x_this_taped, .ref h_this_letters, .int x_this_at, .int x_this_begun, .int x_this_token, .int x_this_value, .int x_this_opened, .int x_this_steps, .ref h_this_code0, .ref h_this_read, .ref h_this_saved, .ref h_this_plan, .ref h_this_bestPlan, .int x_this_most, .int x_this_many, .int x_this_few, .int x_this_everHome, .ref h_this_offThen, .ref h_this_paidThen, .int x_this_firstFit, .ref h_this_rows, .int x_this_rowMany, .ref h_this_sorts, .ref h_this_sizes, .ref h_this_number, .ref h_this_holds, .ref h_this_heldOne, .ref h_this_trace, .int x_this_traced, .int x_this_own, .int x_this_isParted]), (h_this_s, ia G 313 f_this_s)] := by
  refine mFi.of (by decide +kernel) (Nat.le_of_ble_eq_true rfl) ?_
  intro p e s m below meth c A C hr hlk h ls hl
  obtain ⟨hx, hb, hml, hown, hts⟩ := id C
  replace hl : lv_has ls 3 [(0, .ref h_this), (1, .int p0), (2, .int p1)] := hl
  unfold f_X9_knownOf at hf
  refine lv_iload_n hx hb dX9_knownOf_0 rfl (lv_at hl 1 rfl) ?_
  refine lv_if_ne (tgt := 13) hx hb dX9_knownOf_1 rfl (fun c1 => ?_) (fun c1 => ?_)
  · replace hf := ifn c1 hf
    refine lv_iload_n hx hb dX9_knownOf_13 rfl (lv_at hl 1 rfl) ?_
    refine lv_iconst (v := (1 : Int32)) hx hb dX9_knownOf_14 rfl ?_
    refine lv_icmp_ne (tgt := 27) hx hb dX9_knownOf_15 rfl (fun c2 => ?_) (fun c2 => ?_)
    · replace hf := ifn c2 hf
      refine lv_iload_n hx hb dX9_knownOf_27 rfl (lv_at hl 1 rfl) ?_
      refine lv_iconst (v := (2 : Int32)) hx hb dX9_knownOf_28 rfl ?_
      refine lv_icmp_ne (tgt := 41) hx hb dX9_knownOf_29 rfl (fun c3 => ?_) (fun c3 => ?_)
      · replace hf := ifn c3 hf
        refine lv_iload_n hx hb dX9_knownOf_41 rfl (lv_at hl 1 rfl) ?_
        refine lv_iconst (v := (3 : Int32)) hx hb dX9_knownOf_42 rfl ?_
        refine lv_icmp_ne (tgt := 55) hx hb dX9_knownOf_43 rfl (fun c4 => ?_) (fun c4 => ?_)
        · replace hf := ifn c4 hf
          refine lv_iload_n hx hb dX9_knownOf_55 rfl (lv_at hl 2 rfl) ?_
          cases hf
          exact r_iret C h hr hlk rfl dX9_knownOf_56
        · replace hf := ifp c4 hf
          refine lv_aload_n hx hb dX9_knownOf_46 rfl (lv_at hl 0 rfl) ?_
          replace hf := bd1_inv hf
          obtain ⟨r5, hc6, hf⟩ := hf
          refine r_ciV0 C h (c_X9_lightNow hc6) mv_X9_83 rfl 0 rfl [0, 1] rfl rfl hl.1 rfl (Nat.le_of_ble_eq_true rfl) (rok (by decide)) dX9_knownOf_47 (fun H locs h => ?_)
          refine lv_iconst (v := (4 : Int32)) hx hb dX9_knownOf_50 rfl ?_
          refine lv_idiv hx hb dX9_knownOf_51 (by decide) ?_
          refine lv_goto (tgt := 56) hx hb dX9_knownOf_52 rfl ?_
          cases hf
          exact r_iret C h hr hlk rfl dX9_knownOf_56
      · replace hf := ifp c3 hf
        refine lv_aload_n hx hb dX9_knownOf_32 rfl (lv_at hl 0 rfl) ?_
        refine lv_iload_n hx hb dX9_knownOf_33 rfl (lv_at hl 2 rfl) ?_
        refine lv_iconst (v := (2 : Int32)) hx hb dX9_knownOf_34 rfl ?_
        replace hf := bd1_inv hf
        obtain ⟨r7, hc8, hf⟩ := hf
        refine r_ciV0 C h (c_X9_get hc8) mv_X9_79 rfl 0 rfl [0, 1] rfl rfl hl.1 rfl (Nat.le_of_ble_eq_true rfl) (rok (by decide)) dX9_knownOf_35 (fun H locs h => ?_)
        refine lv_goto (tgt := 56) hx hb dX9_knownOf_38 rfl ?_
        cases hf
        exact r_iret C h hr hlk rfl dX9_knownOf_56
    · replace hf := ifp c2 hf
      refine lv_aload_n hx hb dX9_knownOf_18 rfl (lv_at hl 0 rfl) ?_
      refine lv_iload_n hx hb dX9_knownOf_19 rfl (lv_at hl 2 rfl) ?_
      refine lv_iconst (v := (1 : Int32)) hx hb dX9_knownOf_20 rfl ?_
      replace hf := bd1_inv hf
      obtain ⟨r9, hc10, hf⟩ := hf
      refine r_ciV0 C h (c_X9_get hc10) mv_X9_79 rfl 0 rfl [0, 1] rfl rfl hl.1 rfl (Nat.le_of_ble_eq_true rfl) (rok (by decide)) dX9_knownOf_21 (fun H locs h => ?_)
      refine lv_goto (tgt := 56) hx hb dX9_knownOf_24 rfl ?_
      cases hf
      exact r_iret C h hr hlk rfl dX9_knownOf_56
  · replace hf := ifp c1 hf
    refine lv_aload_n hx hb dX9_knownOf_4 rfl (lv_at hl 0 rfl) ?_
    refine r_get C h fk_X9_9 0 rfl rfl dX9_knownOf_5 ?_
    refine lv_iconst (v := (0 : Int32)) hx hb dX9_knownOf_8 rfl ?_
    refine r_ialdL C h 1 rfl (vlit rfl) 0 rfl dX9_knownOf_9 ?_
    refine lv_goto (tgt := 56) hx hb dX9_knownOf_10 rfl ?_
    cases hf
    exact r_iret C h hr hlk rfl dX9_knownOf_56
def f_X9_joined (p0 : Int32) (p1 : Int32) (p2 : Int32) : Option (Int32) := (if p0 = (10010 : Int32) then (if p2 ≤ p1 then some (0 : Int32) else some (1 : Int32)) else (if p0 = (10011 : Int32) then (if p1 = p2 then some (1 : Int32) else some (0 : Int32)) else (if p0 = (10012 : Int32) then (if p1 ≤ p2 then some (0 : Int32) else some (1 : Int32)) else (if p0 = (10013 : Int32) then (if p1 = 0 then some (0 : Int32) else (if p2 = 0 then some (0 : Int32) else some (1 : Int32))) else (if p1 = 0 then (if p2 = 0 then some (0 : Int32) else some (1 : Int32)) else some (1 : Int32))))))
set_option maxRecDepth 100000 in
set_option maxHeartbeats 4000000 in
theorem c_X9_joined {l : Launch} {G : Gt} {p0 : Int32} {p1 : Int32} {p2 : Int32} {r : Int32} (hf : f_X9_joined p0 p1 p2 = some r) : mFi l G yX9_joined cX9_joined 3 .int 0 [.int p0, .int p1, .int p2] ([] : va_W) r ([] : va_W) := by
  refine mFi.of (by decide +kernel) (Nat.le_of_ble_eq_true rfl) ?_
  intro p e s m below meth c A C hr hlk h ls hl
  obtain ⟨hx, hb, hml, hown, hts⟩ := id C
  replace hl : lv_has ls 3 [(0, .int p0), (1, .int p1), (2, .int p2)] := hl
  unfold f_X9_joined at hf
  refine lv_iload_n hx hb dX9_joined_0 rfl (lv_at hl 0 rfl) ?_
  by_cases c1 : p0 = (10010 : Int32)
  · replace hf := ifp c1 hf
    refine r_tab (tgt := 32) C dX9_joined_1 (10010 : Int32) c1 (by decide) rfl rfl ?_
    refine lv_iload_n hx hb dX9_joined_32 rfl (lv_at hl 1 rfl) ?_
    refine lv_iload_n hx hb dX9_joined_33 rfl (lv_at hl 2 rfl) ?_
    refine lv_icmp_ge (tgt := 41) hx hb dX9_joined_34 rfl (fun c5 => ?_) (fun c5 => ?_)
    · replace hf := ifp c5 hf
      refine lv_iconst (v := (0 : Int32)) hx hb dX9_joined_41 rfl ?_
      cases hf
      exact r_iret C h hr hlk rfl dX9_joined_42
    · replace hf := ifn c5 hf
      refine lv_iconst (v := (1 : Int32)) hx hb dX9_joined_37 rfl ?_
      refine lv_goto (tgt := 42) hx hb dX9_joined_38 rfl ?_
      cases hf
      exact r_iret C h hr hlk rfl dX9_joined_42
  · replace hf := ifn c1 hf
    by_cases c2 : p0 = (10011 : Int32)
    · replace hf := ifp c2 hf
      refine r_tab (tgt := 43) C dX9_joined_1 (10011 : Int32) c2 (by decide) rfl rfl ?_
      refine lv_iload_n hx hb dX9_joined_43 rfl (lv_at hl 1 rfl) ?_
      refine lv_iload_n hx hb dX9_joined_44 rfl (lv_at hl 2 rfl) ?_
      refine lv_icmp_ne (tgt := 52) hx hb dX9_joined_45 rfl (fun c6 => ?_) (fun c6 => ?_)
      · replace hf := ifn c6 hf
        refine lv_iconst (v := (0 : Int32)) hx hb dX9_joined_52 rfl ?_
        cases hf
        exact r_iret C h hr hlk rfl dX9_joined_53
      · replace hf := ifp c6 hf
        refine lv_iconst (v := (1 : Int32)) hx hb dX9_joined_48 rfl ?_
        refine lv_goto (tgt := 53) hx hb dX9_joined_49 rfl ?_
        cases hf
        exact r_iret C h hr hlk rfl dX9_joined_53
    · replace hf := ifn c2 hf
      by_cases c3 : p0 = (10012 : Int32)
      · replace hf := ifp c3 hf
        refine r_tab (tgt := 54) C dX9_joined_1 (10012 : Int32) c3 (by decide) rfl rfl ?_
        refine lv_iload_n hx hb dX9_joined_54 rfl (lv_at hl 1 rfl) ?_
        refine lv_iload_n hx hb dX9_joined_55 rfl (lv_at hl 2 rfl) ?_
        refine lv_icmp_le (tgt := 63) hx hb dX9_joined_56 rfl (fun c7 => ?_) (fun c7 => ?_)
        · replace hf := ifp c7 hf
          refine lv_iconst (v := (0 : Int32)) hx hb dX9_joined_63 rfl ?_
          cases hf
          exact r_iret C h hr hlk rfl dX9_joined_64
        · replace hf := ifn c7 hf
          refine lv_iconst (v := (1 : Int32)) hx hb dX9_joined_59 rfl ?_
          refine lv_goto (tgt := 64) hx hb dX9_joined_60 rfl ?_
          cases hf
          exact r_iret C h hr hlk rfl dX9_joined_64
      · replace hf := ifn c3 hf
        by_cases c4 : p0 = (10013 : Int32)
        · replace hf := ifp c4 hf
          refine r_tab (tgt := 65) C dX9_joined_1 (10013 : Int32) c4 (by decide) rfl rfl ?_
          refine lv_iload_n hx hb dX9_joined_65 rfl (lv_at hl 1 rfl) ?_
          refine lv_if_eq (tgt := 77) hx hb dX9_joined_66 rfl (fun c8 => ?_) (fun c8 => ?_)
          · replace hf := ifp c8 hf
            refine lv_iconst (v := (0 : Int32)) hx hb dX9_joined_77 rfl ?_
            cases hf
            exact r_iret C h hr hlk rfl dX9_joined_78
          · replace hf := ifn c8 hf
            refine lv_iload_n hx hb dX9_joined_69 rfl (lv_at hl 2 rfl) ?_
            refine lv_if_eq (tgt := 77) hx hb dX9_joined_70 rfl (fun c9 => ?_) (fun c9 => ?_)
            · replace hf := ifp c9 hf
              refine lv_iconst (v := (0 : Int32)) hx hb dX9_joined_77 rfl ?_
              cases hf
              exact r_iret C h hr hlk rfl dX9_joined_78
            · replace hf := ifn c9 hf
              refine lv_iconst (v := (1 : Int32)) hx hb dX9_joined_73 rfl ?_
              refine lv_goto (tgt := 78) hx hb dX9_joined_74 rfl ?_
              cases hf
              exact r_iret C h hr hlk rfl dX9_joined_78
        · replace hf := ifn c4 hf
          refine r_tabD (tgt := 79) C dX9_joined_1 [(10010 : Int32), (10011 : Int32), (10012 : Int32), (10013 : Int32)] (by decide) (nel_c c1 (nel_c c2 (nel_c c3 (nel_c c4 nel_0)))) rfl ?_
          refine lv_iload_n hx hb dX9_joined_79 rfl (lv_at hl 1 rfl) ?_
          refine lv_if_ne (tgt := 87) hx hb dX9_joined_80 rfl (fun c10 => ?_) (fun c10 => ?_)
          · replace hf := ifn c10 hf
            refine lv_iconst (v := (1 : Int32)) hx hb dX9_joined_87 rfl ?_
            refine lv_goto (tgt := 92) hx hb dX9_joined_88 rfl ?_
            cases hf
            exact r_iret C h hr hlk rfl dX9_joined_92
          · replace hf := ifp c10 hf
            refine lv_iload_n hx hb dX9_joined_83 rfl (lv_at hl 2 rfl) ?_
            refine lv_if_eq (tgt := 91) hx hb dX9_joined_84 rfl (fun c11 => ?_) (fun c11 => ?_)
            · replace hf := ifp c11 hf
              refine lv_iconst (v := (0 : Int32)) hx hb dX9_joined_91 rfl ?_
              cases hf
              exact r_iret C h hr hlk rfl dX9_joined_92
            · replace hf := ifn c11 hf
              refine lv_iconst (v := (1 : Int32)) hx hb dX9_joined_87 rfl ?_
              refine lv_goto (tgt := 92) hx hb dX9_joined_88 rfl ?_
              cases hf
              exact r_iret C h hr hlk rfl dX9_joined_92
def f_X9_holdsFor_b152 (v3 : Int32) (g_this_pile : Nat → Int32) : Option (Int32 × (Nat → Int32)) := (if v3 = 0 then some ((1 : Int32), g_this_pile) else (if (g_this_pile 0) = 0 then some ((0 : Int32), g_this_pile) else some ((1 : Int32), g_this_pile)))
def f_X9_holdsFor_L20 (p0 : Int32) (p1 : Int32) (f_this_s : Nat → Int32) : Nat → Int32 → Int32 → (Nat → Int32) → Option (Int32 × (Nat → Int32))
  | 0, _, _, _ => none
  | n + 1, v3, v4, g_this_pile => bd1 (f_X9_ruleOf p0 (2 : Int32) f_this_s) (fun r4 => (if r4 ≤ v4 then f_X9_holdsFor_b152 v3 g_this_pile else chkI ((113 : Int32) + v4) 313 (lt1 (f_this_s ((113 : Int32) + v4).toNatClampNeg) (fun (t10 : Int32) => (if (10010 : Int32) ≤ t10 then (if t10 = (10015 : Int32) then chkI (v3 - (1 : Int32)) 200 (lt1 ((1 : Int32) - (g_this_pile (v3 - (1 : Int32)).toNatClampNeg)) (fun (t21 : Int32) => chkI (v3 - (1 : Int32)) 200 (lt1 (v4 + (1 : Int32)) (fun (t23 : Int32) => (f_X9_holdsFor_L20 p0 p1 f_this_s n) v3 t23 (upd g_this_pile (v3 - (1 : Int32)).toNatClampNeg t21))))) else lt1 (v3 + (-1 : Int32)) (fun (t13 : Int32) => chkI (t13 - (1 : Int32)) 200 (chkI t13 200 (bd1 (f_X9_joined t10 (g_this_pile (t13 - (1 : Int32)).toNatClampNeg) (g_this_pile t13.toNatClampNeg)) (fun r16 => chkI (t13 - (1 : Int32)) 200 (lt1 (v4 + (1 : Int32)) (fun (t19 : Int32) => (f_X9_holdsFor_L20 p0 p1 f_this_s n) t13 t19 (upd g_this_pile (t13 - (1 : Int32)).toNatClampNeg r16)))))))) else (if (10000 : Int32) ≤ t10 then bd1 (f_X9_knownOf (t10 - (10000 : Int32)) p1 f_this_s) (fun r25 => chkI v3 200 (lt1 (v3 + (1 : Int32)) (fun (t28 : Int32) => lt1 (v4 + (1 : Int32)) (fun (t29 : Int32) => (f_X9_holdsFor_L20 p0 p1 f_this_s n) t28 t29 (upd g_this_pile v3.toNatClampNeg r25))))) else chkI v3 200 (lt1 (v3 + (1 : Int32)) (fun (t31 : Int32) => lt1 (v4 + (1 : Int32)) (fun (t32 : Int32) => (f_X9_holdsFor_L20 p0 p1 f_this_s n) t31 t32 (upd g_this_pile v3.toNatClampNeg t10))))))))))
def f_X9_holdsFor_b18 (p0 : Int32) (p1 : Int32) (f_this_pile : Nat → Int32) (f_this_s : Nat → Int32) (v3 : Int32) (s0 : Int32) : Option (Int32 × (Nat → Int32)) := f_X9_holdsFor_L20 p0 p1 f_this_s 1000 v3 s0 f_this_pile
def f_X9_holdsFor (p0 : Int32) (p1 : Int32) (f_this_pile : Nat → Int32) (f_this_s : Nat → Int32) : Option (Int32 × (Nat → Int32)) := (if p0 = 0 then f_X9_holdsFor_b18 p0 p1 f_this_pile f_this_s (0 : Int32) (0 : Int32) else bd1 (f_X9_ruleOf (p0 - (1 : Int32)) (2 : Int32) f_this_s) (fun r2 => f_X9_holdsFor_b18 p0 p1 f_this_pile f_this_s (0 : Int32) r2))
set_option maxRecDepth 100000 in
set_option maxHeartbeats 4000000 in
theorem c_X9_holdsFor {l : Launch} {G : Gt} {h_this h_this_s h_this_kept h_this_laid h_this_pile h_this_tape h_this_letters h_this_code0 h_this_read h_this_saved h_this_plan h_this_bestPlan h_this_offThen h_this_paidThen h_this_rows h_this_sorts h_this_sizes h_this_number h_this_holds h_this_heldOne h_this_trace : Nat} {p0 : Int32} {p1 : Int32} {x_this_isKept : Int32} {x_this_taped : Int32} {x_this_at : Int32} {x_this_begun : Int32} {x_this_token : Int32} {x_this_value : Int32} {x_this_opened : Int32} {x_this_steps : Int32} {x_this_most : Int32} {x_this_many : Int32} {x_this_few : Int32} {x_this_everHome : Int32} {x_this_firstFit : Int32} {x_this_rowMany : Int32} {x_this_traced : Int32} {x_this_own : Int32} {x_this_isParted : Int32} {f_this_pile : Nat → Int32} {f_this_s : Nat → Int32} {r : Int32} {m_this_pile : Nat → Int32} (hf : f_X9_holdsFor p0 p1 f_this_pile f_this_s = some (r, m_this_pile)) : mFi l G yX9_holdsFor cX9_holdsFor 6 .boolean 2 [.ref h_this, .int p0, .int p1] [(h_this, ob 9 [.ref h_this_s, .ref h_this_kept, .ref h_this_laid, .int x_this_isKept, .ref h_this_pile, .ref h_this_tape, .int x_this_taped, .ref h_this_letters, .int x_this_at, .int x_this_begun, .int x_this_token, .int x_this_value, .int x_this_opened, .int x_this_steps, .ref h_this_code0, .ref h_this_read, .ref h_this_saved, .ref h_this_plan, .ref h_this_bestPlan, .int x_this_most, .int x_this_many, .int x_this_few, .int x_this_everHome, .ref h_this_offThen, .ref h_this_paidThen, .int x_this_firstFit, .ref h_this_rows, .int x_this_rowMany, .ref h_this_sorts, .ref h_this_sizes, .ref h_this_number, .ref h_this_holds, .ref h_this_heldOne, .ref h_this_trace, .int x_this_traced, .int x_this_own, .int x_this_isParted]), (h_this_pile, ia G 200 f_this_pile), (h_this_s, ia G 313 f_this_s)] r [(h_this, ob 9 [.ref h_this_s, .ref h_this_kept, .ref h_this_laid, .int x_this_isKept, .ref h_this_pile, .ref h_this_tape, .int x_this_taped, .ref h_this_letters, .int x_this_at, .int x_this_begun, .int x_this_token, .int x_this_value, .int x_this_opened, .int x_this_steps, .ref h_this_code0, .ref h_this_read, .ref h_this_saved, .ref h_this_plan, .ref h_this_bestPlan, .int x_this_most, .int x_this_many, .int x_this_few, .int x_this_everHome, .ref h_this_offThen, .ref h_this_paidThen, .int x_this_firstFit, .ref h_this_rows, .int x_this_rowMany, .ref h_this_sorts, .ref h_this_sizes, .ref h_this_number, .ref h_this_holds, .ref h_this_heldOne, .ref h_this_trace, .int x_this_traced, .int x_this_own, .int x_this_isParted]), (h_this_pile, ia G 200 m_this_pile), (h_this_s, ia G 313 f_this_s)] := by
  refine mFi.of (by decide +kernel) (Nat.le_of_ble_eq_true rfl) ?_
  intro p e s m below meth c A C hr hlk h ls hl
  obtain ⟨hx, hb, hml, hown, hts⟩ := id C
  replace hl : lv_has ls 6 [(0, .ref h_this), (1, .int p0), (2, .int p1)] := hl
  unfold f_X9_holdsFor at hf
  refine with_K G A 6 (fun K hK1 hK2 => ?_)
  have B152 : ∀ (v3 : Int32) (g_this_pile : Nat → Int32), f_X9_holdsFor_b152 v3 g_this_pile = some (r, m_this_pile) → K 152 ([] : List Value) [(h_this, ob 9 [.ref h_this_s, .ref h_this_kept, .ref h_this_laid, .int x_this_isKept, .ref h_this_pile, .ref h_this_tape, .int x_this_taped, .ref h_this_letters, .int x_this_at, .int x_this_begun, .int x_this_token, .int x_this_value, .int x_this_opened, .int x_this_steps, .ref h_this_code0, .ref h_this_read, .ref h_this_saved, .ref h_this_plan, .ref h_this_bestPlan, .int x_this_most, .int x_this_many, .int x_this_few, .int x_this_everHome, .ref h_this_offThen, .ref h_this_paidThen, .int x_this_firstFit, .ref h_this_rows, .int x_this_rowMany, .ref h_this_sorts, .ref h_this_sizes, .ref h_this_number, .ref h_this_holds, .ref h_this_heldOne, .ref h_this_trace, .int x_this_traced, .int x_this_own, .int x_this_isParted]), (h_this_pile, ia G 200 g_this_pile), (h_this_s, ia G 313 f_this_s)] [(0, .ref h_this), (3, .int v3)] := by
    intro v3 g_this_pile hf
    unfold f_X9_holdsFor_b152 at hf
    refine hK1 _ _ _ _ (fun H locs ls h hl => ?_)
    refine lv_iload_n hx hb dX9_holdsFor_152 rfl (lv_at hl 1 rfl) ?_
    refine lv_if_eq (tgt := 165) hx hb dX9_holdsFor_153 rfl (fun c7 => ?_) (fun c7 => ?_)
    · replace hf := ifp c7 hf
      refine lv_iconst (v := (1 : Int32)) hx hb dX9_holdsFor_165 rfl ?_
      refine lv_goto (tgt := 170) hx hb dX9_holdsFor_166 rfl ?_
      cases hf
      exact r_iret C h hr hlk rfl dX9_holdsFor_170
    · replace hf := ifn c7 hf
      refine lv_aload_n hx hb dX9_holdsFor_156 rfl (lv_at hl 0 rfl) ?_
      refine r_get C h fk_X9_19 0 rfl rfl dX9_holdsFor_157 ?_
      refine lv_iconst (v := (0 : Int32)) hx hb dX9_holdsFor_160 rfl ?_
      refine r_ialdL C h 1 rfl (vlit rfl) 0 rfl dX9_holdsFor_161 ?_
      refine lv_if_eq (tgt := 169) hx hb dX9_holdsFor_162 rfl (fun c8 => ?_) (fun c8 => ?_)
      · replace hf := ifp c8 hf
        refine lv_iconst (v := (0 : Int32)) hx hb dX9_holdsFor_169 rfl ?_
        cases hf
        exact r_iret C h hr hlk rfl dX9_holdsFor_170
      · replace hf := ifn c8 hf
        refine lv_iconst (v := (1 : Int32)) hx hb dX9_holdsFor_165 rfl ?_
        refine lv_goto (tgt := 170) hx hb dX9_holdsFor_166 rfl ?_
        cases hf
        exact r_iret C h hr hlk rfl dX9_holdsFor_170
  have L20 : ∀ (n : Nat) (v3 : Int32) (v4 : Int32) (g_this_pile : Nat → Int32), f_X9_holdsFor_L20 p0 p1 f_this_s n v3 v4 g_this_pile = some (r, m_this_pile) → K 20 ([] : List Value) [(h_this, ob 9 [.ref h_this_s, .ref h_this_kept, .ref h_this_laid, .int x_this_isKept, .ref h_this_pile, .ref h_this_tape, .int x_this_taped, .ref h_this_letters, .int x_this_at, .int x_this_begun, .int x_this_token, .int x_this_value, .int x_this_opened, .int x_this_steps, .ref h_this_code0, .ref h_this_read, .ref h_this_saved, .ref h_this_plan, .ref h_this_bestPlan, .int x_this_most, .int x_this_many, .int x_this_few, .int x_this_everHome, .ref h_this_offThen, .ref h_this_paidThen, .int x_this_firstFit, .ref h_this_rows, .int x_this_rowMany, .ref h_this_sorts, .ref h_this_sizes, .ref h_this_number, .ref h_this_holds, .ref h_this_heldOne, .ref h_this_trace, .int x_this_traced, .int x_this_own, .int x_this_isParted]), (h_this_pile, ia G 200 g_this_pile), (h_this_s, ia G 313 f_this_s)] [(0, .ref h_this), (1, .int p0), (2, .int p1), (3, .int v3), (4, .int v4)] := by
    intro n
    induction n with
    | zero =>
      intro v3 v4 g_this_pile hf
      replace hf : (none : Option _) = some _ := hf
      cases hf
    | succ n ih =>
      intro v3 v4 g_this_pile hf
      rw [f_X9_holdsFor_L20] at hf
      refine hK1 _ _ _ _ (fun H locs ls h hl => ?_)
      refine lv_iload hx hb dX9_holdsFor_20 (lv_at hl 4 rfl) ?_
      refine lv_aload_n hx hb dX9_holdsFor_22 rfl (lv_at hl 0 rfl) ?_
      refine lv_iload_n hx hb dX9_holdsFor_23 rfl (lv_at hl 1 rfl) ?_
      refine lv_iconst (v := (2 : Int32)) hx hb dX9_holdsFor_24 rfl ?_
      replace hf := bd1_inv hf
      obtain ⟨r4, hc5, hf⟩ := hf
      refine r_ciV0 C h (c_X9_ruleOf hc5) mv_X9_112 rfl 0 rfl [0, 2] rfl rfl hl.1 rfl (Nat.le_of_ble_eq_true rfl) (rok (by decide)) dX9_holdsFor_25 (fun H locs h => ?_)
      refine lv_icmp_ge (tgt := 152) hx hb dX9_holdsFor_28 rfl (fun c6 => ?_) (fun c6 => ?_)
      · replace hf := ifp c6 hf
        exact hK2 _ _ _ _ (B152 v3 g_this_pile hf) _ _ _ h (lv_sub hl [0, 3] rfl)
      · replace hf := ifn c6 hf
        refine lv_aload_n hx hb dX9_holdsFor_31 rfl (lv_at hl 0 rfl) ?_
        refine r_get C h fk_X9_9 0 rfl rfl dX9_holdsFor_32 ?_
        refine lv_bipush (v := (113 : Int32)) hx hb dX9_holdsFor_35 rfl ?_
        refine lv_iload hx hb dX9_holdsFor_37 (lv_at hl 4 rfl) ?_
        refine lv_iadd hx hb dX9_holdsFor_39 ?_
        replace hf := chkI_inv hf
        obtain ⟨hi9, hf⟩ := hf
        refine r_iald C h 2 rfl hi9 dX9_holdsFor_40 ?_
        refine lv_topi (fun t10 et10 => ?_)
        replace hf := lt1_inv et10 hf
        refine lv_istore (lv' := [(5, .int t10), (0, .ref h_this), (1, .int p0), (2, .int p1), (3, .int v3), (4, .int v4)]) hx hb dX9_holdsFor_41 hl (by decide) rfl (fun ls hl => ?_)
        refine lv_iload hx hb dX9_holdsFor_43 (lv_at hl 0 rfl) ?_
        refine lv_sipush (v := (10010 : Int32)) hx hb dX9_holdsFor_45 rfl ?_
        refine lv_icmp_ge (tgt := 87) hx hb dX9_holdsFor_48 rfl (fun c11 => ?_) (fun c11 => ?_)
        · replace hf := ifp c11 hf
          refine lv_iload hx hb dX9_holdsFor_87 (lv_at hl 0 rfl) ?_
          refine lv_sipush (v := (10015 : Int32)) hx hb dX9_holdsFor_89 rfl ?_
          refine lv_icmp_ne (tgt := 116) hx hb dX9_holdsFor_92 rfl (fun c12 => ?_) (fun c12 => ?_)
          · replace hf := ifn c12 hf
            obtain ⟨t13, et13⟩ : ∃ y : Int32, y = v3 + (-1 : Int32) := ⟨_, rfl⟩
            replace hf := lt1_inv et13 hf
            refine lv_iinc (v := t13) (lv' := [(3, .int t13), (5, .int t10), (0, .ref h_this), (1, .int p0), (2, .int p1), (4, .int v4)]) hx hb dX9_holdsFor_116 hl (k := 4) rfl (by rw [et13]; rfl) (by decide) rfl (fun ls hl => ?_)
            refine lv_aload_n hx hb dX9_holdsFor_119 rfl (lv_at hl 2 rfl) ?_
            refine r_get C h fk_X9_19 0 rfl rfl dX9_holdsFor_120 ?_
            refine lv_iload_n hx hb dX9_holdsFor_123 rfl (lv_at hl 0 rfl) ?_
            refine lv_iconst (v := (1 : Int32)) hx hb dX9_holdsFor_124 rfl ?_
            refine lv_isub hx hb dX9_holdsFor_125 ?_
            refine lv_iload hx hb dX9_holdsFor_126 (lv_at hl 1 rfl) ?_
            refine lv_aload_n hx hb dX9_holdsFor_128 rfl (lv_at hl 2 rfl) ?_
            refine r_get C h fk_X9_19 0 rfl rfl dX9_holdsFor_129 ?_
            refine lv_iload_n hx hb dX9_holdsFor_132 rfl (lv_at hl 0 rfl) ?_
            refine lv_iconst (v := (1 : Int32)) hx hb dX9_holdsFor_133 rfl ?_
            refine lv_isub hx hb dX9_holdsFor_134 ?_
            replace hf := chkI_inv hf
            obtain ⟨hi14, hf⟩ := hf
            refine r_iald C h 1 rfl hi14 dX9_holdsFor_135 ?_
            refine lv_aload_n hx hb dX9_holdsFor_136 rfl (lv_at hl 2 rfl) ?_
            refine r_get C h fk_X9_19 0 rfl rfl dX9_holdsFor_137 ?_
            refine lv_iload_n hx hb dX9_holdsFor_140 rfl (lv_at hl 0 rfl) ?_
            replace hf := chkI_inv hf
            obtain ⟨hi15, hf⟩ := hf
            refine r_iald C h 1 rfl hi15 dX9_holdsFor_141 ?_
            replace hf := bd1_inv hf
            obtain ⟨r16, hc17, hf⟩ := hf
            refine r_ciS0 C h (c_X9_joined hc17) ms_X9_118 rfl [] rfl rfl hl.1 rfl (Nat.le_of_ble_eq_true rfl) (rok (by decide)) dX9_holdsFor_142 (fun H locs h => ?_)
            replace hf := chkI_inv hf
            obtain ⟨hi18, hf⟩ := hf
            refine r_iast (ws' := [(h_this, ob 9 [.ref h_this_s, .ref h_this_kept, .ref h_this_laid, .int x_this_isKept, .ref h_this_pile, .ref h_this_tape, .int x_this_taped, .ref h_this_letters, .int x_this_at, .int x_this_begun, .int x_this_token, .int x_this_value, .int x_this_opened, .int x_this_steps, .ref h_this_code0, .ref h_this_read, .ref h_this_saved, .ref h_this_plan, .ref h_this_bestPlan, .int x_this_most, .int x_this_many, .int x_this_few, .int x_this_everHome, .ref h_this_offThen, .ref h_this_paidThen, .int x_this_firstFit, .ref h_this_rows, .int x_this_rowMany, .ref h_this_sorts, .ref h_this_sizes, .ref h_this_number, .ref h_this_holds, .ref h_this_heldOne, .ref h_this_trace, .int x_this_traced, .int x_this_own, .int x_this_isParted]), (h_this_pile, ia G 200 (upd g_this_pile (t13 - (1 : Int32)).toNatClampNeg r16)), (h_this_s, ia G 313 f_this_s)]) C h 1 rfl hi18 dX9_holdsFor_145 rfl (fun H locs h => ?_)
            obtain ⟨t19, et19⟩ : ∃ y : Int32, y = v4 + (1 : Int32) := ⟨_, rfl⟩
            replace hf := lt1_inv et19 hf
            refine lv_iinc (v := t19) (lv' := [(4, .int t19), (3, .int t13), (5, .int t10), (0, .ref h_this), (1, .int p0), (2, .int p1)]) hx hb dX9_holdsFor_146 hl (k := 5) rfl (by rw [et19]; rfl) (by decide) rfl (fun ls hl => ?_)
            refine lv_goto (tgt := 20) hx hb dX9_holdsFor_149 rfl ?_
            exact hK2 _ _ _ _ (ih t13 t19 (upd g_this_pile (t13 - (1 : Int32)).toNatClampNeg r16) hf) _ _ _ h (lv_sub hl [3, 4, 5, 1, 0] rfl)
          · replace hf := ifp c12 hf
            refine lv_aload_n hx hb dX9_holdsFor_95 rfl (lv_at hl 1 rfl) ?_
            refine r_get C h fk_X9_19 0 rfl rfl dX9_holdsFor_96 ?_
            refine lv_iload_n hx hb dX9_holdsFor_99 rfl (lv_at hl 4 rfl) ?_
            refine lv_iconst (v := (1 : Int32)) hx hb dX9_holdsFor_100 rfl ?_
            refine lv_isub hx hb dX9_holdsFor_101 ?_
            refine lv_iconst (v := (1 : Int32)) hx hb dX9_holdsFor_102 rfl ?_
            refine lv_aload_n hx hb dX9_holdsFor_103 rfl (lv_at hl 1 rfl) ?_
            refine r_get C h fk_X9_19 0 rfl rfl dX9_holdsFor_104 ?_
            refine lv_iload_n hx hb dX9_holdsFor_107 rfl (lv_at hl 4 rfl) ?_
            refine lv_iconst (v := (1 : Int32)) hx hb dX9_holdsFor_108 rfl ?_
            refine lv_isub hx hb dX9_holdsFor_109 ?_
            replace hf := chkI_inv hf
            obtain ⟨hi20, hf⟩ := hf
            refine r_iald C h 1 rfl hi20 dX9_holdsFor_110 ?_
            refine lv_isub hx hb dX9_holdsFor_111 ?_
            refine lv_topi (fun t21 et21 => ?_)
            replace hf := lt1_inv et21 hf
            replace hf := chkI_inv hf
            obtain ⟨hi22, hf⟩ := hf
            refine r_iast (ws' := [(h_this, ob 9 [.ref h_this_s, .ref h_this_kept, .ref h_this_laid, .int x_this_isKept, .ref h_this_pile, .ref h_this_tape, .int x_this_taped, .ref h_this_letters, .int x_this_at, .int x_this_begun, .int x_this_token, .int x_this_value, .int x_this_opened, .int x_this_steps, .ref h_this_code0, .ref h_this_read, .ref h_this_saved, .ref h_this_plan, .ref h_this_bestPlan, .int x_this_most, .int x_this_many, .int x_this_few, .int x_this_everHome, .ref h_this_offThen, .ref h_this_paidThen, .int x_this_firstFit, .ref h_this_rows, .int x_this_rowMany, .ref h_this_sorts, .ref h_this_sizes, .ref h_this_number, .ref h_this_holds, .ref h_this_heldOne, .ref h_this_trace, .int x_this_traced, .int x_this_own, .int x_this_isParted]), (h_this_pile, ia G 200 (upd g_this_pile (v3 - (1 : Int32)).toNatClampNeg t21)), (h_this_s, ia G 313 f_this_s)]) C h 1 rfl hi22 dX9_holdsFor_112 rfl (fun H locs h => ?_)
            refine lv_goto (tgt := 146) hx hb dX9_holdsFor_113 rfl ?_
            obtain ⟨t23, et23⟩ : ∃ y : Int32, y = v4 + (1 : Int32) := ⟨_, rfl⟩
            replace hf := lt1_inv et23 hf
            refine lv_iinc (v := t23) (lv' := [(4, .int t23), (5, .int t10), (0, .ref h_this), (1, .int p0), (2, .int p1), (3, .int v3)]) hx hb dX9_holdsFor_146 hl (k := 5) rfl (by rw [et23]; rfl) (by decide) rfl (fun ls hl => ?_)
            refine lv_goto (tgt := 20) hx hb dX9_holdsFor_149 rfl ?_
            exact hK2 _ _ _ _ (ih v3 t23 (upd g_this_pile (v3 - (1 : Int32)).toNatClampNeg t21) hf) _ _ _ h (lv_sub hl [2, 3, 4, 5, 0] rfl)
        · replace hf := ifn c11 hf
          refine lv_aload_n hx hb dX9_holdsFor_51 rfl (lv_at hl 1 rfl) ?_
          refine r_get C h fk_X9_19 0 rfl rfl dX9_holdsFor_52 ?_
          refine lv_iload_n hx hb dX9_holdsFor_55 rfl (lv_at hl 4 rfl) ?_
          refine lv_iload hx hb dX9_holdsFor_56 (lv_at hl 0 rfl) ?_
          refine lv_sipush (v := (10000 : Int32)) hx hb dX9_holdsFor_58 rfl ?_
          refine lv_icmp_ge (tgt := 69) hx hb dX9_holdsFor_61 rfl (fun c24 => ?_) (fun c24 => ?_)
          · replace hf := ifp c24 hf
            refine lv_aload_n hx hb dX9_holdsFor_69 rfl (lv_at hl 1 rfl) ?_
            refine lv_iload hx hb dX9_holdsFor_70 (lv_at hl 0 rfl) ?_
            refine lv_sipush (v := (10000 : Int32)) hx hb dX9_holdsFor_72 rfl ?_
            refine lv_isub hx hb dX9_holdsFor_75 ?_
            refine lv_iload_n hx hb dX9_holdsFor_76 rfl (lv_at hl 3 rfl) ?_
            replace hf := bd1_inv hf
            obtain ⟨r25, hc26, hf⟩ := hf
            refine r_ciV0 C h (c_X9_knownOf hc26) mv_X9_115 rfl 0 rfl [0, 2] rfl rfl hl.1 rfl (Nat.le_of_ble_eq_true rfl) (rok (by decide)) dX9_holdsFor_77 (fun H locs h => ?_)
            replace hf := chkI_inv hf
            obtain ⟨hi27, hf⟩ := hf
            refine r_iast (ws' := [(h_this, ob 9 [.ref h_this_s, .ref h_this_kept, .ref h_this_laid, .int x_this_isKept, .ref h_this_pile, .ref h_this_tape, .int x_this_taped, .ref h_this_letters, .int x_this_at, .int x_this_begun, .int x_this_token, .int x_this_value, .int x_this_opened, .int x_this_steps, .ref h_this_code0, .ref h_this_read, .ref h_this_saved, .ref h_this_plan, .ref h_this_bestPlan, .int x_this_most, .int x_this_many, .int x_this_few, .int x_this_everHome, .ref h_this_offThen, .ref h_this_paidThen, .int x_this_firstFit, .ref h_this_rows, .int x_this_rowMany, .ref h_this_sorts, .ref h_this_sizes, .ref h_this_number, .ref h_this_holds, .ref h_this_heldOne, .ref h_this_trace, .int x_this_traced, .int x_this_own, .int x_this_isParted]), (h_this_pile, ia G 200 (upd g_this_pile v3.toNatClampNeg r25)), (h_this_s, ia G 313 f_this_s)]) C h 1 rfl hi27 dX9_holdsFor_80 rfl (fun H locs h => ?_)
            obtain ⟨t28, et28⟩ : ∃ y : Int32, y = v3 + (1 : Int32) := ⟨_, rfl⟩
            replace hf := lt1_inv et28 hf
            refine lv_iinc (v := t28) (lv' := [(3, .int t28), (5, .int t10), (0, .ref h_this), (1, .int p0), (2, .int p1), (4, .int v4)]) hx hb dX9_holdsFor_81 hl (k := 4) rfl (by rw [et28]; rfl) (by decide) rfl (fun ls hl => ?_)
            refine lv_goto (tgt := 146) hx hb dX9_holdsFor_84 rfl ?_
            obtain ⟨t29, et29⟩ : ∃ y : Int32, y = v4 + (1 : Int32) := ⟨_, rfl⟩
            replace hf := lt1_inv et29 hf
            refine lv_iinc (v := t29) (lv' := [(4, .int t29), (3, .int t28), (5, .int t10), (0, .ref h_this), (1, .int p0), (2, .int p1)]) hx hb dX9_holdsFor_146 hl (k := 5) rfl (by rw [et29]; rfl) (by decide) rfl (fun ls hl => ?_)
            refine lv_goto (tgt := 20) hx hb dX9_holdsFor_149 rfl ?_
            exact hK2 _ _ _ _ (ih t28 t29 (upd g_this_pile v3.toNatClampNeg r25) hf) _ _ _ h (lv_sub hl [3, 4, 5, 1, 0] rfl)
          · replace hf := ifn c24 hf
            refine lv_iload hx hb dX9_holdsFor_64 (lv_at hl 0 rfl) ?_
            refine lv_goto (tgt := 80) hx hb dX9_holdsFor_66 rfl ?_
            replace hf := chkI_inv hf
            obtain ⟨hi30, hf⟩ := hf
            refine r_iast (ws' := [(h_this, ob 9 [.ref h_this_s, .ref h_this_kept, .ref h_this_laid, .int x_this_isKept, .ref h_this_pile, .ref h_this_tape, .int x_this_taped, .ref h_this_letters, .int x_this_at, .int x_this_begun, .int x_this_token, .int x_this_value, .int x_this_opened, .int x_this_steps, .ref h_this_code0, .ref h_this_read, .ref h_this_saved, .ref h_this_plan, .ref h_this_bestPlan, .int x_this_most, .int x_this_many, .int x_this_few, .int x_this_everHome, .ref h_this_offThen, .ref h_this_paidThen, .int x_this_firstFit, .ref h_this_rows, .int x_this_rowMany, .ref h_this_sorts, .ref h_this_sizes, .ref h_this_number, .ref h_this_holds, .ref h_this_heldOne, .ref h_this_trace, .int x_this_traced, .int x_this_own, .int x_this_isParted]), (h_this_pile, ia G 200 (upd g_this_pile v3.toNatClampNeg t10)), (h_this_s, ia G 313 f_this_s)]) C h 1 rfl hi30 dX9_holdsFor_80 rfl (fun H locs h => ?_)
            obtain ⟨t31, et31⟩ : ∃ y : Int32, y = v3 + (1 : Int32) := ⟨_, rfl⟩
            replace hf := lt1_inv et31 hf
            refine lv_iinc (v := t31) (lv' := [(3, .int t31), (5, .int t10), (0, .ref h_this), (1, .int p0), (2, .int p1), (4, .int v4)]) hx hb dX9_holdsFor_81 hl (k := 4) rfl (by rw [et31]; rfl) (by decide) rfl (fun ls hl => ?_)
            refine lv_goto (tgt := 146) hx hb dX9_holdsFor_84 rfl ?_
            obtain ⟨t32, et32⟩ : ∃ y : Int32, y = v4 + (1 : Int32) := ⟨_, rfl⟩
            replace hf := lt1_inv et32 hf
            refine lv_iinc (v := t32) (lv' := [(4, .int t32), (3, .int t31), (5, .int t10), (0, .ref h_this), (1, .int p0), (2, .int p1)]) hx hb dX9_holdsFor_146 hl (k := 5) rfl (by rw [et32]; rfl) (by decide) rfl (fun ls hl => ?_)
            refine lv_goto (tgt := 20) hx hb dX9_holdsFor_149 rfl ?_
            exact hK2 _ _ _ _ (ih t31 t32 (upd g_this_pile v3.toNatClampNeg t10) hf) _ _ _ h (lv_sub hl [3, 4, 5, 1, 0] rfl)
  have B18 : ∀ (v3 : Int32) (s0 : Int32), f_X9_holdsFor_b18 p0 p1 f_this_pile f_this_s v3 s0 = some (r, m_this_pile) → K 18 [.int s0] [(h_this, ob 9 [.ref h_this_s, .ref h_this_kept, .ref h_this_laid, .int x_this_isKept, .ref h_this_pile, .ref h_this_tape, .int x_this_taped, .ref h_this_letters, .int x_this_at, .int x_this_begun, .int x_this_token, .int x_this_value, .int x_this_opened, .int x_this_steps, .ref h_this_code0, .ref h_this_read, .ref h_this_saved, .ref h_this_plan, .ref h_this_bestPlan, .int x_this_most, .int x_this_many, .int x_this_few, .int x_this_everHome, .ref h_this_offThen, .ref h_this_paidThen, .int x_this_firstFit, .ref h_this_rows, .int x_this_rowMany, .ref h_this_sorts, .ref h_this_sizes, .ref h_this_number, .ref h_this_holds, .ref h_this_heldOne, .ref h_this_trace, .int x_this_traced, .int x_this_own, .int x_this_isParted]), (h_this_pile, ia G 200 f_this_pile), (h_this_s, ia G 313 f_this_s)] [(0, .ref h_this), (1, .int p0), (2, .int p1), (3, .int v3)] := by
    intro v3 s0 hf
    unfold f_X9_holdsFor_b18 at hf
    refine hK1 _ _ _ _ (fun H locs ls h hl => ?_)
    refine lv_istore (lv' := [(4, .int s0), (0, .ref h_this), (1, .int p0), (2, .int p1), (3, .int v3)]) hx hb dX9_holdsFor_18 hl (by decide) rfl (fun ls hl => ?_)
    exact hK2 _ _ _ _ (L20 1000 v3 s0 f_this_pile hf) _ _ _ h (lv_sub hl [1, 2, 3, 4, 0] rfl)
  refine lv_iconst (v := (0 : Int32)) hx hb dX9_holdsFor_0 rfl ?_
  refine lv_istore_n (lv' := [(3, .int (0 : Int32)), (0, .ref h_this), (1, .int p0), (2, .int p1)]) hx hb dX9_holdsFor_1 rfl hl (by decide) rfl (fun ls hl => ?_)
  refine lv_iload_n hx hb dX9_holdsFor_2 rfl (lv_at hl 2 rfl) ?_
  refine lv_if_ne (tgt := 10) hx hb dX9_holdsFor_3 rfl (fun c1 => ?_) (fun c1 => ?_)
  · replace hf := ifn c1 hf
    refine lv_aload_n hx hb dX9_holdsFor_10 rfl (lv_at hl 1 rfl) ?_
    refine lv_iload_n hx hb dX9_holdsFor_11 rfl (lv_at hl 2 rfl) ?_
    refine lv_iconst (v := (1 : Int32)) hx hb dX9_holdsFor_12 rfl ?_
    refine lv_isub hx hb dX9_holdsFor_13 ?_
    refine lv_iconst (v := (2 : Int32)) hx hb dX9_holdsFor_14 rfl ?_
    replace hf := bd1_inv hf
    obtain ⟨r2, hc3, hf⟩ := hf
    refine r_ciV0 C h (c_X9_ruleOf hc3) mv_X9_112 rfl 0 rfl [0, 2] rfl rfl hl.1 rfl (Nat.le_of_ble_eq_true rfl) (rok (by decide)) dX9_holdsFor_15 (fun H locs h => ?_)
    exact hK2 _ _ _ _ (B18 (0 : Int32) r2 hf) _ _ _ h (lv_sub hl [1, 2, 3, 0] rfl)
  · replace hf := ifp c1 hf
    refine lv_iconst (v := (0 : Int32)) hx hb dX9_holdsFor_6 rfl ?_
    refine lv_goto (tgt := 18) hx hb dX9_holdsFor_7 rfl ?_
    exact hK2 _ _ _ _ (B18 (0 : Int32) (0 : Int32) hf) _ _ _ h (lv_sub hl [1, 2, 3, 0] rfl)
def f_X9_willOf_L2 (p0 : Int32) (f_this_s : Nat → Int32) : Nat → Int32 → (Nat → Int32) → Option (Int32 × (Nat → Int32))
  | 0, _, _ => none
  | n + 1, v2, g_this_pile => (if (f_this_s 5) ≤ v2 then some ((0 : Int32), g_this_pile) else bd1 (f_X9_get p0 (0 : Int32) f_this_s) (fun r2 => bd1 (f_X9_ruleOf v2 (0 : Int32) f_this_s) (fun r4 => bd1 (f_X9_isUnder r2 r4) (fun r6 => (if r6 = 0 then lt1 (v2 + (1 : Int32)) (fun (t9 : Int32) => (f_X9_willOf_L2 p0 f_this_s n) t9 g_this_pile) else bd2 (f_X9_holdsFor v2 p0 g_this_pile f_this_s) (fun r10 g11 => (if r10 = 0 then lt1 (v2 + (1 : Int32)) (fun (t14 : Int32) => (f_X9_willOf_L2 p0 f_this_s n) t14 g11) else bd1 (f_X9_ruleOf v2 (1 : Int32) f_this_s) (fun r15 => some (r15, g11)))))))))
def f_X9_willOf (p0 : Int32) (f_this_pile : Nat → Int32) (f_this_s : Nat → Int32) : Option (Int32 × (Nat → Int32)) := f_X9_willOf_L2 p0 f_this_s 1000 (0 : Int32) f_this_pile
set_option maxRecDepth 100000 in
set_option maxHeartbeats 4000000 in
theorem c_X9_willOf {l : Launch} {G : Gt} {h_this h_this_s h_this_kept h_this_laid h_this_pile h_this_tape h_this_letters h_this_code0 h_this_read h_this_saved h_this_plan h_this_bestPlan h_this_offThen h_this_paidThen h_this_rows h_this_sorts h_this_sizes h_this_number h_this_holds h_this_heldOne h_this_trace : Nat} {p0 : Int32} {x_this_isKept : Int32} {x_this_taped : Int32} {x_this_at : Int32} {x_this_begun : Int32} {x_this_token : Int32} {x_this_value : Int32} {x_this_opened : Int32} {x_this_steps : Int32} {x_this_most : Int32} {x_this_many : Int32} {x_this_few : Int32} {x_this_everHome : Int32} {x_this_firstFit : Int32} {x_this_rowMany : Int32} {x_this_traced : Int32} {x_this_own : Int32} {x_this_isParted : Int32} {f_this_pile : Nat → Int32} {f_this_s : Nat → Int32} {r : Int32} {m_this_pile : Nat → Int32} (hf : f_X9_willOf p0 f_this_pile f_this_s = some (r, m_this_pile)) : mFi l G yX9_willOf cX9_willOf 3 .int 3 [.ref h_this, .int p0] [(h_this, ob 9 [.ref h_this_s, .ref h_this_kept, .ref h_this_laid, .int x_this_isKept, .ref h_this_pile, .ref h_this_tape, .int x_this_taped, .ref h_this_letters, .int x_this_at, .int x_this_begun, .int x_this_token, .int x_this_value, .int x_this_opened, .int x_this_steps, .ref h_this_code0, .ref h_this_read, .ref h_this_saved, .ref h_this_plan, .ref h_this_bestPlan, .int x_this_most, .int x_this_many, .int x_this_few, .int x_this_everHome, .ref h_this_offThen, .ref h_this_paidThen, .int x_this_firstFit, .ref h_this_rows, .int x_this_rowMany, .ref h_this_sorts, .ref h_this_sizes, .ref h_this_number, .ref h_this_holds, .ref h_this_heldOne, .ref h_this_trace, .int x_this_traced, .int x_this_own, .int x_this_isParted]), (h_this_pile, ia G 200 f_this_pile), (h_this_s, ia G 313 f_this_s)] r [(h_this, ob 9 [.ref h_this_s, .ref h_this_kept, .ref h_this_laid, .int x_this_isKept, .ref h_this_pile, .ref h_this_tape, .int x_this_taped, .ref h_this_letters, .int x_this_at, .int x_this_begun, .int x_this_token, .int x_this_value, .int x_this_opened, .int x_this_steps, .ref h_this_code0, .ref h_this_read, .ref h_this_saved, .ref h_this_plan, .ref h_this_bestPlan, .int x_this_most, .int x_this_many, .int x_this_few, .int x_this_everHome, .ref h_this_offThen, .ref h_this_paidThen, .int x_this_firstFit, .ref h_this_rows, .int x_this_rowMany, .ref h_this_sorts, .ref h_this_sizes, .ref h_this_number, .ref h_this_holds, .ref h_this_heldOne, .ref h_this_trace, .int x_this_traced, .int x_this_own, .int x_this_isParted]), (h_this_pile, ia G 200 m_this_pile), (h_this_s, ia G 313 f_this_s)] := by
  refine mFi.of (by decide +kernel) (Nat.le_of_ble_eq_true rfl) ?_
  intro p e s m below meth c A C hr hlk h ls hl
  obtain ⟨hx, hb, hml, hown, hts⟩ := id C
  replace hl : lv_has ls 3 [(0, .ref h_this), (1, .int p0)] := hl
  unfold f_X9_willOf at hf
  refine with_K G A 3 (fun K hK1 hK2 => ?_)
  have L2 : ∀ (n : Nat) (v2 : Int32) (g_this_pile : Nat → Int32), f_X9_willOf_L2 p0 f_this_s n v2 g_this_pile = some (r, m_this_pile) → K 2 ([] : List Value) [(h_this, ob 9 [.ref h_this_s, .ref h_this_kept, .ref h_this_laid, .int x_this_isKept, .ref h_this_pile, .ref h_this_tape, .int x_this_taped, .ref h_this_letters, .int x_this_at, .int x_this_begun, .int x_this_token, .int x_this_value, .int x_this_opened, .int x_this_steps, .ref h_this_code0, .ref h_this_read, .ref h_this_saved, .ref h_this_plan, .ref h_this_bestPlan, .int x_this_most, .int x_this_many, .int x_this_few, .int x_this_everHome, .ref h_this_offThen, .ref h_this_paidThen, .int x_this_firstFit, .ref h_this_rows, .int x_this_rowMany, .ref h_this_sorts, .ref h_this_sizes, .ref h_this_number, .ref h_this_holds, .ref h_this_heldOne, .ref h_this_trace, .int x_this_traced, .int x_this_own, .int x_this_isParted]), (h_this_pile, ia G 200 g_this_pile), (h_this_s, ia G 313 f_this_s)] [(0, .ref h_this), (1, .int p0), (2, .int v2)] := by
    intro n
    induction n with
    | zero =>
      intro v2 g_this_pile hf
      replace hf : (none : Option _) = some _ := hf
      cases hf
    | succ n ih =>
      intro v2 g_this_pile hf
      rw [f_X9_willOf_L2] at hf
      refine hK1 _ _ _ _ (fun H locs ls h hl => ?_)
      refine lv_iload_n hx hb dX9_willOf_2 rfl (lv_at hl 2 rfl) ?_
      refine lv_aload_n hx hb dX9_willOf_3 rfl (lv_at hl 0 rfl) ?_
      refine r_get C h fk_X9_9 0 rfl rfl dX9_willOf_4 ?_
      refine lv_iconst (v := (5 : Int32)) hx hb dX9_willOf_7 rfl ?_
      refine r_ialdL C h 2 rfl (vlit rfl) 5 rfl dX9_willOf_8 ?_
      refine lv_icmp_ge (tgt := 52) hx hb dX9_willOf_9 rfl (fun c1 => ?_) (fun c1 => ?_)
      · replace hf := ifp c1 hf
        refine lv_iconst (v := (0 : Int32)) hx hb dX9_willOf_52 rfl ?_
        cases hf
        exact r_iret C h hr hlk rfl dX9_willOf_53
      · replace hf := ifn c1 hf
        refine lv_aload_n hx hb dX9_willOf_12 rfl (lv_at hl 0 rfl) ?_
        refine lv_iload_n hx hb dX9_willOf_13 rfl (lv_at hl 1 rfl) ?_
        refine lv_iconst (v := (0 : Int32)) hx hb dX9_willOf_14 rfl ?_
        replace hf := bd1_inv hf
        obtain ⟨r2, hc3, hf⟩ := hf
        refine r_ciV0 C h (c_X9_get hc3) mv_X9_79 rfl 0 rfl [0, 2] rfl rfl hl.1 rfl (Nat.le_of_ble_eq_true rfl) (rok (by decide)) dX9_willOf_15 (fun H locs h => ?_)
        refine lv_aload_n hx hb dX9_willOf_18 rfl (lv_at hl 0 rfl) ?_
        refine lv_iload_n hx hb dX9_willOf_19 rfl (lv_at hl 2 rfl) ?_
        refine lv_iconst (v := (0 : Int32)) hx hb dX9_willOf_20 rfl ?_
        replace hf := bd1_inv hf
        obtain ⟨r4, hc5, hf⟩ := hf
        refine r_ciV0 C h (c_X9_ruleOf hc5) mv_X9_112 rfl 0 rfl [0, 2] rfl rfl hl.1 rfl (Nat.le_of_ble_eq_true rfl) (rok (by decide)) dX9_willOf_21 (fun H locs h => ?_)
        replace hf := bd1_inv hf
        obtain ⟨r6, hc7, hf⟩ := hf
        refine r_ciS0 C h (c_X9_isUnder hc7) ms_X9_121 rfl [] rfl rfl hl.1 rfl (Nat.le_of_ble_eq_true rfl) (rok (by decide)) dX9_willOf_24 (fun H locs h => ?_)
        refine lv_if_eq (tgt := 46) hx hb dX9_willOf_27 rfl (fun c8 => ?_) (fun c8 => ?_)
        · replace hf := ifp c8 hf
          obtain ⟨t9, et9⟩ : ∃ y : Int32, y = v2 + (1 : Int32) := ⟨_, rfl⟩
          replace hf := lt1_inv et9 hf
          refine lv_iinc (v := t9) (lv' := [(2, .int t9), (0, .ref h_this), (1, .int p0)]) hx hb dX9_willOf_46 hl (k := 2) rfl (by rw [et9]; rfl) (by decide) rfl (fun ls hl => ?_)
          refine lv_goto (tgt := 2) hx hb dX9_willOf_49 rfl ?_
          exact hK2 _ _ _ _ (ih t9 g_this_pile hf) _ _ _ h (lv_sub hl [1, 2, 0] rfl)
        · replace hf := ifn c8 hf
          refine lv_aload_n hx hb dX9_willOf_30 rfl (lv_at hl 0 rfl) ?_
          refine lv_iload_n hx hb dX9_willOf_31 rfl (lv_at hl 2 rfl) ?_
          refine lv_iload_n hx hb dX9_willOf_32 rfl (lv_at hl 1 rfl) ?_
          replace hf := bd2_inv hf
          obtain ⟨r10, g11, hc12, hf⟩ := hf
          refine r_ciV (ws' := [(h_this, ob 9 [.ref h_this_s, .ref h_this_kept, .ref h_this_laid, .int x_this_isKept, .ref h_this_pile, .ref h_this_tape, .int x_this_taped, .ref h_this_letters, .int x_this_at, .int x_this_begun, .int x_this_token, .int x_this_value, .int x_this_opened, .int x_this_steps, .ref h_this_code0, .ref h_this_read, .ref h_this_saved, .ref h_this_plan, .ref h_this_bestPlan, .int x_this_most, .int x_this_many, .int x_this_few, .int x_this_everHome, .ref h_this_offThen, .ref h_this_paidThen, .int x_this_firstFit, .ref h_this_rows, .int x_this_rowMany, .ref h_this_sorts, .ref h_this_sizes, .ref h_this_number, .ref h_this_holds, .ref h_this_heldOne, .ref h_this_trace, .int x_this_traced, .int x_this_own, .int x_this_isParted]), (h_this_pile, ia G 200 g11), (h_this_s, ia G 313 f_this_s)]) C h (c_X9_holdsFor hc12) mv_X9_124 rfl 0 rfl [0, 1, 2] rfl rfl rfl rfl rfl hl.1 rfl (Nat.le_of_ble_eq_true rfl) (rok (by decide)) dX9_willOf_33 (fun H locs h => ?_)
          refine lv_if_eq (tgt := 46) hx hb dX9_willOf_36 rfl (fun c13 => ?_) (fun c13 => ?_)
          · replace hf := ifp c13 hf
            obtain ⟨t14, et14⟩ : ∃ y : Int32, y = v2 + (1 : Int32) := ⟨_, rfl⟩
            replace hf := lt1_inv et14 hf
            refine lv_iinc (v := t14) (lv' := [(2, .int t14), (0, .ref h_this), (1, .int p0)]) hx hb dX9_willOf_46 hl (k := 2) rfl (by rw [et14]; rfl) (by decide) rfl (fun ls hl => ?_)
            refine lv_goto (tgt := 2) hx hb dX9_willOf_49 rfl ?_
            exact hK2 _ _ _ _ (ih t14 g11 hf) _ _ _ h (lv_sub hl [1, 2, 0] rfl)
          · replace hf := ifn c13 hf
            refine lv_aload_n hx hb dX9_willOf_39 rfl (lv_at hl 0 rfl) ?_
            refine lv_iload_n hx hb dX9_willOf_40 rfl (lv_at hl 2 rfl) ?_
            refine lv_iconst (v := (1 : Int32)) hx hb dX9_willOf_41 rfl ?_
            replace hf := bd1_inv hf
            obtain ⟨r15, hc16, hf⟩ := hf
            refine r_ciV0 C h (c_X9_ruleOf hc16) mv_X9_112 rfl 0 rfl [0, 2] rfl rfl hl.1 rfl (Nat.le_of_ble_eq_true rfl) (rok (by decide)) dX9_willOf_42 (fun H locs h => ?_)
            cases hf
            exact r_iret C h hr hlk rfl dX9_willOf_45
  refine lv_iconst (v := (0 : Int32)) hx hb dX9_willOf_0 rfl ?_
  refine lv_istore_n (lv' := [(2, .int (0 : Int32)), (0, .ref h_this), (1, .int p0)]) hx hb dX9_willOf_1 rfl hl (by decide) rfl (fun ls hl => ?_)
  exact hK2 _ _ _ _ (L2 1000 (0 : Int32) f_this_pile hf) _ _ _ h (lv_sub hl [1, 2, 0] rfl)
def f_X9_mayEnter (p0 : Int32) (f_this_pile : Nat → Int32) (f_this_s : Nat → Int32) : Option (Int32 × (Nat → Int32)) := bd2 (f_X9_willOf p0 f_this_pile f_this_s) (fun r1 g2 => (if r1 = 0 then bd1 (f_X9_paysOf p0 f_this_s) (fun r5 => (if r5 ≤ 0 then some ((0 : Int32), g2) else some ((1 : Int32), g2))) else some ((0 : Int32), g2)))
set_option maxRecDepth 100000 in
set_option maxHeartbeats 4000000 in
theorem c_X9_mayEnter {l : Launch} {G : Gt} {h_this h_this_s h_this_kept h_this_laid h_this_pile h_this_tape h_this_letters h_this_code0 h_this_read h_this_saved h_this_plan h_this_bestPlan h_this_offThen h_this_paidThen h_this_rows h_this_sorts h_this_sizes h_this_number h_this_holds h_this_heldOne h_this_trace : Nat} {p0 : Int32} {x_this_isKept : Int32} {x_this_taped : Int32} {x_this_at : Int32} {x_this_begun : Int32} {x_this_token : Int32} {x_this_value : Int32} {x_this_opened : Int32} {x_this_steps : Int32} {x_this_most : Int32} {x_this_many : Int32} {x_this_few : Int32} {x_this_everHome : Int32} {x_this_firstFit : Int32} {x_this_rowMany : Int32} {x_this_traced : Int32} {x_this_own : Int32} {x_this_isParted : Int32} {f_this_pile : Nat → Int32} {f_this_s : Nat → Int32} {r : Int32} {m_this_pile : Nat → Int32} (hf : f_X9_mayEnter p0 f_this_pile f_this_s = some (r, m_this_pile)) : mFi l G yX9_mayEnter cX9_mayEnter 2 .boolean 4 [.ref h_this, .int p0] [(h_this, ob 9 [.ref h_this_s, .ref h_this_kept, .ref h_this_laid, .int x_this_isKept, .ref h_this_pile, .ref h_this_tape, .int x_this_taped, .ref h_this_letters, .int x_this_at, .int x_this_begun, .int x_this_token, .int x_this_value, .int x_this_opened, .int x_this_steps, .ref h_this_code0, .ref h_this_read, .ref h_this_saved, .ref h_this_plan, .ref h_this_bestPlan, .int x_this_most, .int x_this_many, .int x_this_few, .int x_this_everHome, .ref h_this_offThen, .ref h_this_paidThen, .int x_this_firstFit, .ref h_this_rows, .int x_this_rowMany, .ref h_this_sorts, .ref h_this_sizes, .ref h_this_number, .ref h_this_holds, .ref h_this_heldOne, .ref h_this_trace, .int x_this_traced, .int x_this_own, .int x_this_isParted]), (h_this_pile, ia G 200 f_this_pile), (h_this_s, ia G 313 f_this_s)] r [(h_this, ob 9 [.ref h_this_s, .ref h_this_kept, .ref h_this_laid, .int x_this_isKept, .ref h_this_pile, .ref h_this_tape, .int x_this_taped, .ref h_this_letters, .int x_this_at, .int x_this_begun, .int x_this_token, .int x_this_value, .int x_this_opened, .int x_this_steps, .ref h_this_code0, .ref h_this_read, .ref h_this_saved, .ref h_this_plan, .ref h_this_bestPlan, .int x_this_most, .int x_this_many, .int x_this_few, .int x_this_everHome, .ref h_this_offThen, .ref h_this_paidThen, .int x_this_firstFit, .ref h_this_rows, .int x_this_rowMany, .ref h_this_sorts, .ref h_this_sizes, .ref h_this_number, .ref h_this_holds, .ref h_this_heldOne, .ref h_this_trace, .int x_this_traced, .int x_this_own, .int x_this_isParted]), (h_this_pile, ia G 200 m_this_pile), (h_this_s, ia G 313 f_this_s)] := by
  refine mFi.of (by decide +kernel) (Nat.le_of_ble_eq_true rfl) ?_
  intro p e s m below meth c A C hr hlk h ls hl
  obtain ⟨hx, hb, hml, hown, hts⟩ := id C
  replace hl : lv_has ls 2 [(0, .ref h_this), (1, .int p0)] := hl
  unfold f_X9_mayEnter at hf
  refine lv_aload_n hx hb dX9_mayEnter_0 rfl (lv_at hl 0 rfl) ?_
  refine lv_iload_n hx hb dX9_mayEnter_1 rfl (lv_at hl 1 rfl) ?_
  replace hf := bd2_inv hf
  obtain ⟨r1, g2, hc3, hf⟩ := hf
  refine r_ciV (ws' := [(h_this, ob 9 [.ref h_this_s, .ref h_this_kept, .ref h_this_laid, .int x_this_isKept, .ref h_this_pile, .ref h_this_tape, .int x_this_taped, .ref h_this_letters, .int x_this_at, .int x_this_begun, .int x_this_token, .int x_this_value, .int x_this_opened, .int x_this_steps, .ref h_this_code0, .ref h_this_read, .ref h_this_saved, .ref h_this_plan, .ref h_this_bestPlan, .int x_this_most, .int x_this_many, .int x_this_few, .int x_this_everHome, .ref h_this_offThen, .ref h_this_paidThen, .int x_this_firstFit, .ref h_this_rows, .int x_this_rowMany, .ref h_this_sorts, .ref h_this_sizes, .ref h_this_number, .ref h_this_holds, .ref h_this_heldOne, .ref h_this_trace, .int x_this_traced, .int x_this_own, .int x_this_isParted]), (h_this_pile, ia G 200 g2), (h_this_s, ia G 313 f_this_s)]) C h (c_X9_willOf hc3) mv_X9_102 rfl 0 rfl [0, 1, 2] rfl rfl rfl rfl rfl hl.1 rfl (Nat.le_of_ble_eq_true rfl) (rok (by decide)) dX9_mayEnter_2 (fun H locs h => ?_)
  refine lv_if_ne (tgt := 20) hx hb dX9_mayEnter_5 rfl (fun c4 => ?_) (fun c4 => ?_)
  · replace hf := ifn c4 hf
    refine lv_iconst (v := (0 : Int32)) hx hb dX9_mayEnter_20 rfl ?_
    cases hf
    exact r_iret C h hr hlk rfl dX9_mayEnter_21
  · replace hf := ifp c4 hf
    refine lv_aload_n hx hb dX9_mayEnter_8 rfl (lv_at hl 0 rfl) ?_
    refine lv_iload_n hx hb dX9_mayEnter_9 rfl (lv_at hl 1 rfl) ?_
    replace hf := bd1_inv hf
    obtain ⟨r5, hc6, hf⟩ := hf
    refine r_ciV0 C h (c_X9_paysOf hc6) mv_X9_105 rfl 0 rfl [0, 2] rfl rfl hl.1 rfl (Nat.le_of_ble_eq_true rfl) (rok (by decide)) dX9_mayEnter_10 (fun H locs h => ?_)
    refine lv_if_le (tgt := 20) hx hb dX9_mayEnter_13 rfl (fun c7 => ?_) (fun c7 => ?_)
    · replace hf := ifp c7 hf
      refine lv_iconst (v := (0 : Int32)) hx hb dX9_mayEnter_20 rfl ?_
      cases hf
      exact r_iret C h hr hlk rfl dX9_mayEnter_21
    · replace hf := ifn c7 hf
      refine lv_iconst (v := (1 : Int32)) hx hb dX9_mayEnter_16 rfl ?_
      refine lv_goto (tgt := 21) hx hb dX9_mayEnter_17 rfl ?_
      cases hf
      exact r_iret C h hr hlk rfl dX9_mayEnter_21
def f_X9_shipOf (p0 : Int32) (p1 : Int32) (f_this_pile : Nat → Int32) (f_this_s : Nat → Int32) : Option (Int32 × (Nat → Int32)) := bd1 (f_X9_isShip p0 f_this_s) (fun r1 => (if r1 = 0 then some ((-1 : Int32), f_this_pile) else bd1 (f_X9_in1 p1 (0 : Int32) (9 : Int32)) (fun r4 => (if r4 = 0 then some ((-1 : Int32), f_this_pile) else (if p1 = (5 : Int32) then bd1 (f_X9_nearsOf p0 f_this_s) (fun r12 => some (r12, f_this_pile)) else (if p1 = (6 : Int32) then bd1 (f_X9_get p0 (2 : Int32) f_this_s) (fun r14 => bd1 (f_X9_reachesWith p0 r14 f_this_s) (fun r16 => some (r16, f_this_pile))) else (if p1 = (7 : Int32) then bd1 (f_X9_paysOf p0 f_this_s) (fun r18 => some (r18, f_this_pile)) else (if p1 = (8 : Int32) then bd2 (f_X9_mayEnter p0 f_this_pile f_this_s) (fun r20 g21 => (if r20 = 0 then some ((0 : Int32), g21) else some ((1 : Int32), g21))) else (if p1 = (9 : Int32) then bd2 (f_X9_willOf p0 f_this_pile f_this_s) (fun r24 g25 => some (r24, g25)) else bd1 (f_X9_get p0 p1 f_this_s) (fun r27 => some (r27, f_this_pile)))))))))))
set_option maxRecDepth 100000 in
set_option maxHeartbeats 4000000 in
theorem c_X9_shipOf {l : Launch} {G : Gt} {h_this h_this_s h_this_kept h_this_laid h_this_pile h_this_tape h_this_letters h_this_code0 h_this_read h_this_saved h_this_plan h_this_bestPlan h_this_offThen h_this_paidThen h_this_rows h_this_sorts h_this_sizes h_this_number h_this_holds h_this_heldOne h_this_trace : Nat} {p0 : Int32} {p1 : Int32} {x_this_isKept : Int32} {x_this_taped : Int32} {x_this_at : Int32} {x_this_begun : Int32} {x_this_token : Int32} {x_this_value : Int32} {x_this_opened : Int32} {x_this_steps : Int32} {x_this_most : Int32} {x_this_many : Int32} {x_this_few : Int32} {x_this_everHome : Int32} {x_this_firstFit : Int32} {x_this_rowMany : Int32} {x_this_traced : Int32} {x_this_own : Int32} {x_this_isParted : Int32} {f_this_pile : Nat → Int32} {f_this_s : Nat → Int32} {r : Int32} {m_this_pile : Nat → Int32} (hf : f_X9_shipOf p0 p1 f_this_pile f_this_s = some (r, m_this_pile)) : mFi l G yX9_shipOf cX9_shipOf 3 .int 5 [.ref h_this, .int p0, .int p1] [(h_this, ob 9 [.ref h_this_s, .ref h_this_kept, .ref h_this_laid, .int x_this_isKept, .ref h_this_pile, .ref h_this_tape, .int x_this_taped, .ref h_this_letters, .int x_this_at, .int x_this_begun, .int x_this_token, .int x_this_value, .int x_this_opened, .int x_this_steps, .ref h_this_code0, .ref h_this_read, .ref h_this_saved, .ref h_this_plan, .ref h_this_bestPlan, .int x_this_most, .int x_this_many, .int x_this_few, .int x_this_everHome, .ref h_this_offThen, .ref h_this_paidThen, .int x_this_firstFit, .ref h_this_rows, .int x_this_rowMany, .ref h_this_sorts, .ref h_this_sizes, .ref h_this_number, .ref h_this_holds, .ref h_this_heldOne, .ref h_this_trace, .int x_this_traced, .int x_this_own, .int x_this_isParted]), (h_this_pile, ia G 200 f_this_pile), (h_this_s, ia G 313 f_this_s)] r [(h_this, ob 9 [.ref h_this_s, .ref h_this_kept, .ref h_this_laid, .int x_this_isKept, .ref h_this_pile, .ref h_this_tape, .int x_this_taped, .ref h_this_letters, .int x_this_at, .int x_this_begun, .int x_this_token, .int x_this_value, .int x_this_opened, .int x_this_steps, .ref h_this_code0, .ref h_this_read, .ref h_this_saved, .ref h_this_plan, .ref h_this_bestPlan, .int x_this_most, .int x_this_many, .int x_this_few, .int x_this_everHome, .ref h_this_offThen, .ref h_this_paidThen, .int x_this_firstFit, .ref h_this_rows, .int x_this_rowMany, .ref h_this_sorts, .ref h_this_sizes, .ref h_this_number, .ref h_this_holds, .ref h_this_heldOne, .ref h_this_trace, .int x_this_traced, .int x_this_own, .int x_this_isParted]), (h_this_pile, ia G 200 m_this_pile), (h_this_s, ia G 313 f_this_s)] := by
  refine mFi.of (by decide +kernel) (Nat.le_of_ble_eq_true rfl) ?_
  intro p e s m below meth c A C hr hlk h ls hl
  obtain ⟨hx, hb, hml, hown, hts⟩ := id C
  replace hl : lv_has ls 3 [(0, .ref h_this), (1, .int p0), (2, .int p1)] := hl
  unfold f_X9_shipOf at hf
  refine lv_aload_n hx hb dX9_shipOf_0 rfl (lv_at hl 0 rfl) ?_
  refine lv_iload_n hx hb dX9_shipOf_1 rfl (lv_at hl 1 rfl) ?_
  replace hf := bd1_inv hf
  obtain ⟨r1, hc2, hf⟩ := hf
  refine r_ciV0 C h (c_X9_isShip hc2) mv_X9_226 rfl 0 rfl [0, 2] rfl rfl hl.1 rfl (Nat.le_of_ble_eq_true rfl) (rok (by decide)) dX9_shipOf_2 (fun H locs h => ?_)
  refine lv_if_eq (tgt := 18) hx hb dX9_shipOf_5 rfl (fun c3 => ?_) (fun c3 => ?_)
  · replace hf := ifp c3 hf
    refine lv_iconst (v := (-1 : Int32)) hx hb dX9_shipOf_18 rfl ?_
    cases hf
    exact r_iret C h hr hlk rfl dX9_shipOf_19
  · replace hf := ifn c3 hf
    refine lv_iload_n hx hb dX9_shipOf_8 rfl (lv_at hl 2 rfl) ?_
    refine lv_iconst (v := (0 : Int32)) hx hb dX9_shipOf_9 rfl ?_
    refine lv_bipush (v := (9 : Int32)) hx hb dX9_shipOf_10 rfl ?_
    replace hf := bd1_inv hf
    obtain ⟨r4, hc5, hf⟩ := hf
    refine r_ciS0 C h (c_X9_in1 hc5) ms_X9_71 rfl [] rfl rfl hl.1 rfl (Nat.le_of_ble_eq_true rfl) (rok (by decide)) dX9_shipOf_12 (fun H locs h => ?_)
    refine lv_if_ne (tgt := 20) hx hb dX9_shipOf_15 rfl (fun c6 => ?_) (fun c6 => ?_)
    · replace hf := ifn c6 hf
      refine lv_iload_n hx hb dX9_shipOf_20 rfl (lv_at hl 2 rfl) ?_
      by_cases c7 : p1 = (5 : Int32)
      · replace hf := ifp c7 hf
        refine r_tab (tgt := 56) C dX9_shipOf_21 (5 : Int32) c7 (by decide) rfl rfl ?_
        refine lv_aload_n hx hb dX9_shipOf_56 rfl (lv_at hl 0 rfl) ?_
        refine lv_iload_n hx hb dX9_shipOf_57 rfl (lv_at hl 1 rfl) ?_
        replace hf := bd1_inv hf
        obtain ⟨r12, hc13, hf⟩ := hf
        refine r_ciV0 C h (c_X9_nearsOf hc13) mv_X9_214 rfl 0 rfl [0, 2] rfl rfl hl.1 rfl (Nat.le_of_ble_eq_true rfl) (rok (by decide)) dX9_shipOf_58 (fun H locs h => ?_)
        cases hf
        exact r_iret C h hr hlk rfl dX9_shipOf_61
      · replace hf := ifn c7 hf
        by_cases c8 : p1 = (6 : Int32)
        · replace hf := ifp c8 hf
          refine r_tab (tgt := 62) C dX9_shipOf_21 (6 : Int32) c8 (by decide) rfl rfl ?_
          refine lv_aload_n hx hb dX9_shipOf_62 rfl (lv_at hl 0 rfl) ?_
          refine lv_iload_n hx hb dX9_shipOf_63 rfl (lv_at hl 1 rfl) ?_
          refine lv_aload_n hx hb dX9_shipOf_64 rfl (lv_at hl 0 rfl) ?_
          refine lv_iload_n hx hb dX9_shipOf_65 rfl (lv_at hl 1 rfl) ?_
          refine lv_iconst (v := (2 : Int32)) hx hb dX9_shipOf_66 rfl ?_
          replace hf := bd1_inv hf
          obtain ⟨r14, hc15, hf⟩ := hf
          refine r_ciV0 C h (c_X9_get hc15) mv_X9_79 rfl 0 rfl [0, 2] rfl rfl hl.1 rfl (Nat.le_of_ble_eq_true rfl) (rok (by decide)) dX9_shipOf_67 (fun H locs h => ?_)
          replace hf := bd1_inv hf
          obtain ⟨r16, hc17, hf⟩ := hf
          refine r_ciV0 C h (c_X9_reachesWith hc17) mv_X9_95 rfl 0 rfl [0, 2] rfl rfl hl.1 rfl (Nat.le_of_ble_eq_true rfl) (rok (by decide)) dX9_shipOf_70 (fun H locs h => ?_)
          cases hf
          exact r_iret C h hr hlk rfl dX9_shipOf_73
        · replace hf := ifn c8 hf
          by_cases c9 : p1 = (7 : Int32)
          · replace hf := ifp c9 hf
            refine r_tab (tgt := 74) C dX9_shipOf_21 (7 : Int32) c9 (by decide) rfl rfl ?_
            refine lv_aload_n hx hb dX9_shipOf_74 rfl (lv_at hl 0 rfl) ?_
            refine lv_iload_n hx hb dX9_shipOf_75 rfl (lv_at hl 1 rfl) ?_
            replace hf := bd1_inv hf
            obtain ⟨r18, hc19, hf⟩ := hf
            refine r_ciV0 C h (c_X9_paysOf hc19) mv_X9_105 rfl 0 rfl [0, 2] rfl rfl hl.1 rfl (Nat.le_of_ble_eq_true rfl) (rok (by decide)) dX9_shipOf_76 (fun H locs h => ?_)
            cases hf
            exact r_iret C h hr hlk rfl dX9_shipOf_79
          · replace hf := ifn c9 hf
            by_cases c10 : p1 = (8 : Int32)
            · replace hf := ifp c10 hf
              refine r_tab (tgt := 80) C dX9_shipOf_21 (8 : Int32) c10 (by decide) rfl rfl ?_
              refine lv_aload_n hx hb dX9_shipOf_80 rfl (lv_at hl 0 rfl) ?_
              refine lv_iload_n hx hb dX9_shipOf_81 rfl (lv_at hl 1 rfl) ?_
              replace hf := bd2_inv hf
              obtain ⟨r20, g21, hc22, hf⟩ := hf
              refine r_ciV (ws' := [(h_this, ob 9 [.ref h_this_s, .ref h_this_kept, .ref h_this_laid, .int x_this_isKept, .ref h_this_pile, .ref h_this_tape, .int x_this_taped, .ref h_this_letters, .int x_this_at, .int x_this_begun, .int x_this_token, .int x_this_value, .int x_this_opened, .int x_this_steps, .ref h_this_code0, .ref h_this_read, .ref h_this_saved, .ref h_this_plan, .ref h_this_bestPlan, .int x_this_most, .int x_this_many, .int x_this_few, .int x_this_everHome, .ref h_this_offThen, .ref h_this_paidThen, .int x_this_firstFit, .ref h_this_rows, .int x_this_rowMany, .ref h_this_sorts, .ref h_this_sizes, .ref h_this_number, .ref h_this_holds, .ref h_this_heldOne, .ref h_this_trace, .int x_this_traced, .int x_this_own, .int x_this_isParted]), (h_this_pile, ia G 200 g21), (h_this_s, ia G 313 f_this_s)]) C h (c_X9_mayEnter hc22) mv_X9_205 rfl 0 rfl [0, 1, 2] rfl rfl rfl rfl rfl hl.1 rfl (Nat.le_of_ble_eq_true rfl) (rok (by decide)) dX9_shipOf_82 (fun H locs h => ?_)
              refine lv_if_eq (tgt := 92) hx hb dX9_shipOf_85 rfl (fun c23 => ?_) (fun c23 => ?_)
              · replace hf := ifp c23 hf
                refine lv_iconst (v := (0 : Int32)) hx hb dX9_shipOf_92 rfl ?_
                cases hf
                exact r_iret C h hr hlk rfl dX9_shipOf_93
              · replace hf := ifn c23 hf
                refine lv_iconst (v := (1 : Int32)) hx hb dX9_shipOf_88 rfl ?_
                refine lv_goto (tgt := 93) hx hb dX9_shipOf_89 rfl ?_
                cases hf
                exact r_iret C h hr hlk rfl dX9_shipOf_93
            · replace hf := ifn c10 hf
              by_cases c11 : p1 = (9 : Int32)
              · replace hf := ifp c11 hf
                refine r_tab (tgt := 94) C dX9_shipOf_21 (9 : Int32) c11 (by decide) rfl rfl ?_
                refine lv_aload_n hx hb dX9_shipOf_94 rfl (lv_at hl 0 rfl) ?_
                refine lv_iload_n hx hb dX9_shipOf_95 rfl (lv_at hl 1 rfl) ?_
                replace hf := bd2_inv hf
                obtain ⟨r24, g25, hc26, hf⟩ := hf
                refine r_ciV (ws' := [(h_this, ob 9 [.ref h_this_s, .ref h_this_kept, .ref h_this_laid, .int x_this_isKept, .ref h_this_pile, .ref h_this_tape, .int x_this_taped, .ref h_this_letters, .int x_this_at, .int x_this_begun, .int x_this_token, .int x_this_value, .int x_this_opened, .int x_this_steps, .ref h_this_code0, .ref h_this_read, .ref h_this_saved, .ref h_this_plan, .ref h_this_bestPlan, .int x_this_most, .int x_this_many, .int x_this_few, .int x_this_everHome, .ref h_this_offThen, .ref h_this_paidThen, .int x_this_firstFit, .ref h_this_rows, .int x_this_rowMany, .ref h_this_sorts, .ref h_this_sizes, .ref h_this_number, .ref h_this_holds, .ref h_this_heldOne, .ref h_this_trace, .int x_this_traced, .int x_this_own, .int x_this_isParted]), (h_this_pile, ia G 200 g25), (h_this_s, ia G 313 f_this_s)]) C h (c_X9_willOf hc26) mv_X9_102 rfl 0 rfl [0, 1, 2] rfl rfl rfl rfl rfl hl.1 rfl (Nat.le_of_ble_eq_true rfl) (rok (by decide)) dX9_shipOf_96 (fun H locs h => ?_)
                cases hf
                exact r_iret C h hr hlk rfl dX9_shipOf_99
              · replace hf := ifn c11 hf
                refine r_tabD (tgt := 100) C dX9_shipOf_21 [(5 : Int32), (6 : Int32), (7 : Int32), (8 : Int32), (9 : Int32)] (by decide) (nel_c c7 (nel_c c8 (nel_c c9 (nel_c c10 (nel_c c11 nel_0))))) rfl ?_
                refine lv_aload_n hx hb dX9_shipOf_100 rfl (lv_at hl 0 rfl) ?_
                refine lv_iload_n hx hb dX9_shipOf_101 rfl (lv_at hl 1 rfl) ?_
                refine lv_iload_n hx hb dX9_shipOf_102 rfl (lv_at hl 2 rfl) ?_
                replace hf := bd1_inv hf
                obtain ⟨r27, hc28, hf⟩ := hf
                refine r_ciV0 C h (c_X9_get hc28) mv_X9_79 rfl 0 rfl [0, 2] rfl rfl hl.1 rfl (Nat.le_of_ble_eq_true rfl) (rok (by decide)) dX9_shipOf_103 (fun H locs h => ?_)
                cases hf
                exact r_iret C h hr hlk rfl dX9_shipOf_106
    · replace hf := ifp c6 hf
      refine lv_iconst (v := (-1 : Int32)) hx hb dX9_shipOf_18 rfl ?_
      cases hf
      exact r_iret C h hr hlk rfl dX9_shipOf_19
def f_X9_becomes (p0 : Int32) (p1 : Int32) (f_this_s : Nat → Int32) : Option (Int32 × (Nat → Int32)) := chkI p0 313 (lt1 (f_this_s p0.toNatClampNeg) (fun (t2 : Int32) => chkI p0 313 (some (t2, upd f_this_s p0.toNatClampNeg p1))))
set_option maxRecDepth 100000 in
set_option maxHeartbeats 4000000 in
theorem c_X9_becomes {l : Launch} {G : Gt} {h_this h_this_s h_this_kept h_this_laid h_this_pile h_this_tape h_this_letters h_this_code0 h_this_read h_this_saved h_this_plan h_this_bestPlan h_this_offThen h_this_paidThen h_this_rows h_this_sorts h_this_sizes h_this_number h_this_holds h_this_heldOne h_this_trace : Nat} {p0 : Int32} {p1 : Int32} {x_this_isKept : Int32} {x_this_taped : Int32} {x_this_at : Int32} {x_this_begun : Int32} {x_this_token : Int32} {x_this_value : Int32} {x_this_opened : Int32} {x_this_steps : Int32} {x_this_most : Int32} {x_this_many : Int32} {x_this_few : Int32} {x_this_everHome : Int32} {x_this_firstFit : Int32} {x_this_rowMany : Int32} {x_this_traced : Int32} {x_this_own : Int32} {x_this_isParted : Int32} {f_this_s : Nat → Int32} {r : Int32} {m_this_s : Nat → Int32} (hf : f_X9_becomes p0 p1 f_this_s = some (r, m_this_s)) : mFi l G yX9_becomes cX9_becomes 4 .int 0 [.ref h_this, .int p0, .int p1] [(h_this, ob 9 [.ref h_this_s, .ref h_this_kept, .ref h_this_laid, .int x_this_isKept, .ref h_this_pile, .ref h_this_tape, .int x_this_taped, .ref h_this_letters, .int x_this_at, .int x_this_begun, .int x_this_token, .int x_this_value, .int x_this_opened, .int x_this_steps, .ref h_this_code0, .ref h_this_read, .ref h_this_saved, .ref h_this_plan, .ref h_this_bestPlan, .int x_this_most, .int x_this_many, .int x_this_few, .int x_this_everHome, .ref h_this_offThen, .ref h_this_paidThen, .int x_this_firstFit, .ref h_this_rows, .int x_this_rowMany, .ref h_this_sorts, .ref h_this_sizes, .ref h_this_number, .ref h_this_holds, .ref h_this_heldOne, .ref h_this_trace, .int x_this_traced, .int x_this_own, .int x_this_isParted]), (h_this_s, ia G 313 f_this_s)] r [(h_this, ob 9 [.ref h_this_s, .ref h_this_kept, .ref h_this_laid, .int x_this_isKept, .ref h_this_pile, .ref h_this_tape, .int x_this_taped, .ref h_this_letters, .int x_this_at, .int x_this_begun, .int x_this_token, .int x_this_value, .int x_this_opened, .int x_this_steps, .ref h_this_code0, .ref h_this_read, .ref h_this_saved, .ref h_this_plan, .ref h_this_bestPlan, .int x_this_most, .int x_this_many, .int x_this_few, .int x_this_everHome, .ref h_this_offThen, .ref h_this_paidThen, .int x_this_firstFit, .ref h_this_rows, .int x_this_rowMany, .ref h_this_sorts, .ref h_this_sizes, .ref h_this_number, .ref h_this_holds, .ref h_this_heldOne, .ref h_this_trace, .int x_this_traced, .int x_this_own, .int x_this_isParted]), (h_this_s, ia G 313 m_this_s)] := by
  refine mFi.of (by decide +kernel) (Nat.le_of_ble_eq_true rfl) ?_
  intro p e s m below meth c A C hr hlk h ls hl
  obtain ⟨hx, hb, hml, hown, hts⟩ := id C
  replace hl : lv_has ls 4 [(0, .ref h_this), (1, .int p0), (2, .int p1)] := hl
  unfold f_X9_becomes at hf
  refine lv_aload_n hx hb dX9_becomes_0 rfl (lv_at hl 0 rfl) ?_
  refine r_get C h fk_X9_9 0 rfl rfl dX9_becomes_1 ?_
  refine lv_iload_n hx hb dX9_becomes_4 rfl (lv_at hl 1 rfl) ?_
  replace hf := chkI_inv hf
  obtain ⟨hi1, hf⟩ := hf
  refine r_iald C h 1 rfl hi1 dX9_becomes_5 ?_
  refine lv_topi (fun t2 et2 => ?_)
  replace hf := lt1_inv et2 hf
  refine lv_istore_n (lv' := [(3, .int t2), (0, .ref h_this), (1, .int p0), (2, .int p1)]) hx hb dX9_becomes_6 rfl hl (by decide) rfl (fun ls hl => ?_)
  refine lv_aload_n hx hb dX9_becomes_7 rfl (lv_at hl 1 rfl) ?_
  refine r_get C h fk_X9_9 0 rfl rfl dX9_becomes_8 ?_
  refine lv_iload_n hx hb dX9_becomes_11 rfl (lv_at hl 2 rfl) ?_
  refine lv_iload_n hx hb dX9_becomes_12 rfl (lv_at hl 3 rfl) ?_
  replace hf := chkI_inv hf
  obtain ⟨hi3, hf⟩ := hf
  refine r_iast (ws' := [(h_this, ob 9 [.ref h_this_s, .ref h_this_kept, .ref h_this_laid, .int x_this_isKept, .ref h_this_pile, .ref h_this_tape, .int x_this_taped, .ref h_this_letters, .int x_this_at, .int x_this_begun, .int x_this_token, .int x_this_value, .int x_this_opened, .int x_this_steps, .ref h_this_code0, .ref h_this_read, .ref h_this_saved, .ref h_this_plan, .ref h_this_bestPlan, .int x_this_most, .int x_this_many, .int x_this_few, .int x_this_everHome, .ref h_this_offThen, .ref h_this_paidThen, .int x_this_firstFit, .ref h_this_rows, .int x_this_rowMany, .ref h_this_sorts, .ref h_this_sizes, .ref h_this_number, .ref h_this_holds, .ref h_this_heldOne, .ref h_this_trace, .int x_this_traced, .int x_this_own, .int x_this_isParted]), (h_this_s, ia G 313 (upd f_this_s p0.toNatClampNeg p1))]) C h 1 rfl hi3 dX9_becomes_13 rfl (fun H locs h => ?_)
  refine lv_iload_n hx hb dX9_becomes_14 rfl (lv_at hl 0 rfl) ?_
  cases hf
  exact r_iret C h hr hlk rfl dX9_becomes_15
def f_X9_change_b30 (p0 : Int32) (p1 : Int32) (p2 : Int32) (f_this_s : Nat → Int32) (s0 : Int32) : Option (Int32 × (Nat → Int32)) := bd1 (f_X9_isShip p0 f_this_s) (fun r4 => (if r4 = 0 then some ((-1 : Int32), f_this_s) else bd1 (f_X9_in1 p1 (1 : Int32) (4 : Int32)) (fun r7 => (if r7 = 0 then some ((-1 : Int32), f_this_s) else bd1 (f_X9_in1 p2 (0 : Int32) s0) (fun r10 => (if r10 = 0 then some ((-1 : Int32), f_this_s) else bd2 (f_X9_becomes (((35 : Int32) + ((5 : Int32) * p0)) + p1) p2 f_this_s) (fun r13 g14 => some (r13, g14))))))))
def f_X9_change (p0 : Int32) (p1 : Int32) (p2 : Int32) (f_this_s : Nat → Int32) : Option (Int32 × (Nat → Int32)) := (if p1 = (1 : Int32) then f_X9_change_b30 p0 p1 p2 f_this_s (99 : Int32) else (if p1 = (3 : Int32) then f_X9_change_b30 p0 p1 p2 f_this_s (5 : Int32) else (if p1 = (4 : Int32) then f_X9_change_b30 p0 p1 p2 f_this_s (1 : Int32) else f_X9_change_b30 p0 p1 p2 f_this_s (9 : Int32))))
set_option maxRecDepth 100000 in
set_option maxHeartbeats 4000000 in
theorem c_X9_change {l : Launch} {G : Gt} {h_this h_this_s h_this_kept h_this_laid h_this_pile h_this_tape h_this_letters h_this_code0 h_this_read h_this_saved h_this_plan h_this_bestPlan h_this_offThen h_this_paidThen h_this_rows h_this_sorts h_this_sizes h_this_number h_this_holds h_this_heldOne h_this_trace : Nat} {p0 : Int32} {p1 : Int32} {p2 : Int32} {x_this_isKept : Int32} {x_this_taped : Int32} {x_this_at : Int32} {x_this_begun : Int32} {x_this_token : Int32} {x_this_value : Int32} {x_this_opened : Int32} {x_this_steps : Int32} {x_this_most : Int32} {x_this_many : Int32} {x_this_few : Int32} {x_this_everHome : Int32} {x_this_firstFit : Int32} {x_this_rowMany : Int32} {x_this_traced : Int32} {x_this_own : Int32} {x_this_isParted : Int32} {f_this_s : Nat → Int32} {r : Int32} {m_this_s : Nat → Int32} (hf : f_X9_change p0 p1 p2 f_this_s = some (r, m_this_s)) : mFi l G yX9_change cX9_change 5 .int 2 [.ref h_this, .int p0, .int p1, .int p2] [(h_this, ob 9 [.ref h_this_s, .ref h_this_kept, .ref h_this_laid, .int x_this_isKept, .ref h_this_pile, .ref h_this_tape, .int x_this_taped, .ref h_this_letters, .int x_this_at, .int x_this_begun, .int x_this_token, .int x_this_value, .int x_this_opened, .int x_this_steps, .ref h_this_code0, .ref h_this_read, .ref h_this_saved, .ref h_this_plan, .ref h_this_bestPlan, .int x_this_most, .int x_this_many, .int x_this_few, .int x_this_everHome, .ref h_this_offThen, .ref h_this_paidThen, .int x_this_firstFit, .ref h_this_rows, .int x_this_rowMany, .ref h_this_sorts, .ref h_this_sizes, .ref h_this_number, .ref h_this_holds, .ref h_this_heldOne, .ref h_this_trace, .int x_this_traced, .int x_this_own, .int x_this_isParted]), (h_this_s, ia G 313 f_this_s)] r [(h_this, ob 9 [.ref h_this_s, .ref h_this_kept, .ref h_this_laid, .int x_this_isKept, .ref h_this_pile, .ref h_this_tape, .int x_this_taped, .ref h_this_letters, .int x_this_at, .int x_this_begun, .int x_this_token, .int x_this_value, .int x_this_opened, .int x_this_steps, .ref h_this_code0, .ref h_this_read, .ref h_this_saved, .ref h_this_plan, .ref h_this_bestPlan, .int x_this_most, .int x_this_many, .int x_this_few, .int x_this_everHome, .ref h_this_offThen, .ref h_this_paidThen, .int x_this_firstFit, .ref h_this_rows, .int x_this_rowMany, .ref h_this_sorts, .ref h_this_sizes, .ref h_this_number, .ref h_this_holds, .ref h_this_heldOne, .ref h_this_trace, .int x_this_traced, .int x_this_own, .int x_this_isParted]), (h_this_s, ia G 313 m_this_s)] := by
  refine mFi.of (by decide +kernel) (Nat.le_of_ble_eq_true rfl) ?_
  intro p e s m below meth c A C hr hlk h ls hl
  obtain ⟨hx, hb, hml, hown, hts⟩ := id C
  replace hl : lv_has ls 5 [(0, .ref h_this), (1, .int p0), (2, .int p1), (3, .int p2)] := hl
  unfold f_X9_change at hf
  refine with_K G A 5 (fun K hK1 hK2 => ?_)
  have B30 : ∀ (s0 : Int32), f_X9_change_b30 p0 p1 p2 f_this_s s0 = some (r, m_this_s) → K 30 [.int s0] [(h_this, ob 9 [.ref h_this_s, .ref h_this_kept, .ref h_this_laid, .int x_this_isKept, .ref h_this_pile, .ref h_this_tape, .int x_this_taped, .ref h_this_letters, .int x_this_at, .int x_this_begun, .int x_this_token, .int x_this_value, .int x_this_opened, .int x_this_steps, .ref h_this_code0, .ref h_this_read, .ref h_this_saved, .ref h_this_plan, .ref h_this_bestPlan, .int x_this_most, .int x_this_many, .int x_this_few, .int x_this_everHome, .ref h_this_offThen, .ref h_this_paidThen, .int x_this_firstFit, .ref h_this_rows, .int x_this_rowMany, .ref h_this_sorts, .ref h_this_sizes, .ref h_this_number, .ref h_this_holds, .ref h_this_heldOne, .ref h_this_trace, .int x_this_traced, .int x_this_own, .int x_this_isParted]), (h_this_s, ia G 313 f_this_s)] [(0, .ref h_this), (1, .int p0), (2, .int p1), (3, .int p2)] := by
    intro s0 hf
    unfold f_X9_change_b30 at hf
    refine hK1 _ _ _ _ (fun H locs ls h hl => ?_)
    refine lv_istore (lv' := [(4, .int s0), (0, .ref h_this), (1, .int p0), (2, .int p1), (3, .int p2)]) hx hb dX9_change_30 hl (by decide) rfl (fun ls hl => ?_)
    refine lv_aload_n hx hb dX9_change_32 rfl (lv_at hl 1 rfl) ?_
    refine lv_iload_n hx hb dX9_change_33 rfl (lv_at hl 2 rfl) ?_
    replace hf := bd1_inv hf
    obtain ⟨r4, hc5, hf⟩ := hf
    refine r_ciV0 C h (c_X9_isShip hc5) mv_X9_226 rfl 0 rfl [0, 1] rfl rfl hl.1 rfl (Nat.le_of_ble_eq_true rfl) (rok (by decide)) dX9_change_34 (fun H locs h => ?_)
    refine lv_if_eq (tgt := 75) hx hb dX9_change_37 rfl (fun c6 => ?_) (fun c6 => ?_)
    · replace hf := ifp c6 hf
      refine lv_iconst (v := (-1 : Int32)) hx hb dX9_change_75 rfl ?_
      cases hf
      exact r_iret C h hr hlk rfl dX9_change_76
    · replace hf := ifn c6 hf
      refine lv_iload_n hx hb dX9_change_40 rfl (lv_at hl 3 rfl) ?_
      refine lv_iconst (v := (1 : Int32)) hx hb dX9_change_41 rfl ?_
      refine lv_iconst (v := (4 : Int32)) hx hb dX9_change_42 rfl ?_
      replace hf := bd1_inv hf
      obtain ⟨r7, hc8, hf⟩ := hf
      refine r_ciS0 C h (c_X9_in1 hc8) ms_X9_71 rfl [] rfl rfl hl.1 rfl (Nat.le_of_ble_eq_true rfl) (rok (by decide)) dX9_change_43 (fun H locs h => ?_)
      refine lv_if_eq (tgt := 75) hx hb dX9_change_46 rfl (fun c9 => ?_) (fun c9 => ?_)
      · replace hf := ifp c9 hf
        refine lv_iconst (v := (-1 : Int32)) hx hb dX9_change_75 rfl ?_
        cases hf
        exact r_iret C h hr hlk rfl dX9_change_76
      · replace hf := ifn c9 hf
        refine lv_iload_n hx hb dX9_change_49 rfl (lv_at hl 4 rfl) ?_
        refine lv_iconst (v := (0 : Int32)) hx hb dX9_change_50 rfl ?_
        refine lv_iload hx hb dX9_change_51 (lv_at hl 0 rfl) ?_
        replace hf := bd1_inv hf
        obtain ⟨r10, hc11, hf⟩ := hf
        refine r_ciS0 C h (c_X9_in1 hc11) ms_X9_71 rfl [] rfl rfl hl.1 rfl (Nat.le_of_ble_eq_true rfl) (rok (by decide)) dX9_change_53 (fun H locs h => ?_)
        refine lv_if_eq (tgt := 75) hx hb dX9_change_56 rfl (fun c12 => ?_) (fun c12 => ?_)
        · replace hf := ifp c12 hf
          refine lv_iconst (v := (-1 : Int32)) hx hb dX9_change_75 rfl ?_
          cases hf
          exact r_iret C h hr hlk rfl dX9_change_76
        · replace hf := ifn c12 hf
          refine lv_aload_n hx hb dX9_change_59 rfl (lv_at hl 1 rfl) ?_
          refine lv_bipush (v := (35 : Int32)) hx hb dX9_change_60 rfl ?_
          refine lv_iconst (v := (5 : Int32)) hx hb dX9_change_62 rfl ?_
          refine lv_iload_n hx hb dX9_change_63 rfl (lv_at hl 2 rfl) ?_
          refine lv_imul hx hb dX9_change_64 ?_
          refine lv_iadd hx hb dX9_change_65 ?_
          refine lv_iload_n hx hb dX9_change_66 rfl (lv_at hl 3 rfl) ?_
          refine lv_iadd hx hb dX9_change_67 ?_
          refine lv_iload_n hx hb dX9_change_68 rfl (lv_at hl 4 rfl) ?_
          replace hf := bd2_inv hf
          obtain ⟨r13, g14, hc15, hf⟩ := hf
          refine r_ciV (ws' := [(h_this, ob 9 [.ref h_this_s, .ref h_this_kept, .ref h_this_laid, .int x_this_isKept, .ref h_this_pile, .ref h_this_tape, .int x_this_taped, .ref h_this_letters, .int x_this_at, .int x_this_begun, .int x_this_token, .int x_this_value, .int x_this_opened, .int x_this_steps, .ref h_this_code0, .ref h_this_read, .ref h_this_saved, .ref h_this_plan, .ref h_this_bestPlan, .int x_this_most, .int x_this_many, .int x_this_few, .int x_this_everHome, .ref h_this_offThen, .ref h_this_paidThen, .int x_this_firstFit, .ref h_this_rows, .int x_this_rowMany, .ref h_this_sorts, .ref h_this_sizes, .ref h_this_number, .ref h_this_holds, .ref h_this_heldOne, .ref h_this_trace, .int x_this_traced, .int x_this_own, .int x_this_isParted]), (h_this_s, ia G 313 g14)]) C h (c_X9_becomes hc15) mv_X9_229 rfl 0 rfl [0, 1] rfl rfl rfl rfl rfl hl.1 rfl (Nat.le_of_ble_eq_true rfl) (rok (by decide)) dX9_change_69 (fun H locs h => ?_)
          refine lv_goto (tgt := 76) hx hb dX9_change_72 rfl ?_
          cases hf
          exact r_iret C h hr hlk rfl dX9_change_76
  refine lv_iload_n hx hb dX9_change_0 rfl (lv_at hl 2 rfl) ?_
  refine lv_iconst (v := (1 : Int32)) hx hb dX9_change_1 rfl ?_
  refine lv_icmp_ne (tgt := 10) hx hb dX9_change_2 rfl (fun c1 => ?_) (fun c1 => ?_)
  · replace hf := ifn c1 hf
    refine lv_iload_n hx hb dX9_change_10 rfl (lv_at hl 2 rfl) ?_
    refine lv_iconst (v := (3 : Int32)) hx hb dX9_change_11 rfl ?_
    refine lv_icmp_ne (tgt := 19) hx hb dX9_change_12 rfl (fun c2 => ?_) (fun c2 => ?_)
    · replace hf := ifn c2 hf
      refine lv_iload_n hx hb dX9_change_19 rfl (lv_at hl 2 rfl) ?_
      refine lv_iconst (v := (4 : Int32)) hx hb dX9_change_20 rfl ?_
      refine lv_icmp_ne (tgt := 28) hx hb dX9_change_21 rfl (fun c3 => ?_) (fun c3 => ?_)
      · replace hf := ifn c3 hf
        refine lv_bipush (v := (9 : Int32)) hx hb dX9_change_28 rfl ?_
        exact hK2 _ _ _ _ (B30 (9 : Int32) hf) _ _ _ h (lv_sub hl [0, 1, 2, 3] rfl)
      · replace hf := ifp c3 hf
        refine lv_iconst (v := (1 : Int32)) hx hb dX9_change_24 rfl ?_
        refine lv_goto (tgt := 30) hx hb dX9_change_25 rfl ?_
        exact hK2 _ _ _ _ (B30 (1 : Int32) hf) _ _ _ h (lv_sub hl [0, 1, 2, 3] rfl)
    · replace hf := ifp c2 hf
      refine lv_iconst (v := (5 : Int32)) hx hb dX9_change_15 rfl ?_
      refine lv_goto (tgt := 30) hx hb dX9_change_16 rfl ?_
      exact hK2 _ _ _ _ (B30 (5 : Int32) hf) _ _ _ h (lv_sub hl [0, 1, 2, 3] rfl)
  · replace hf := ifp c1 hf
    refine lv_bipush (v := (99 : Int32)) hx hb dX9_change_5 rfl ?_
    refine lv_goto (tgt := 30) hx hb dX9_change_7 rfl ?_
    exact hK2 _ _ _ _ (B30 (99 : Int32) hf) _ _ _ h (lv_sub hl [0, 1, 2, 3] rfl)
def f_X9_remake (p0 : Int32) (p1 : Int32) (f_this_s : Nat → Int32) : Option (Int32 × (Nat → Int32)) := bd1 (f_X9_isShip p0 f_this_s) (fun r1 => (if r1 = 0 then some ((-1 : Int32), f_this_s) else bd1 (f_X9_in1 p1 (1 : Int32) (5 : Int32)) (fun r4 => (if r4 = 0 then some ((-1 : Int32), f_this_s) else bd2 (f_X9_becomes ((35 : Int32) + ((5 : Int32) * p0)) p1 f_this_s) (fun r7 g8 => some (r7, g8))))))
set_option maxRecDepth 100000 in
set_option maxHeartbeats 4000000 in
theorem c_X9_remake {l : Launch} {G : Gt} {h_this h_this_s h_this_kept h_this_laid h_this_pile h_this_tape h_this_letters h_this_code0 h_this_read h_this_saved h_this_plan h_this_bestPlan h_this_offThen h_this_paidThen h_this_rows h_this_sorts h_this_sizes h_this_number h_this_holds h_this_heldOne h_this_trace : Nat} {p0 : Int32} {p1 : Int32} {x_this_isKept : Int32} {x_this_taped : Int32} {x_this_at : Int32} {x_this_begun : Int32} {x_this_token : Int32} {x_this_value : Int32} {x_this_opened : Int32} {x_this_steps : Int32} {x_this_most : Int32} {x_this_many : Int32} {x_this_few : Int32} {x_this_everHome : Int32} {x_this_firstFit : Int32} {x_this_rowMany : Int32} {x_this_traced : Int32} {x_this_own : Int32} {x_this_isParted : Int32} {f_this_s : Nat → Int32} {r : Int32} {m_this_s : Nat → Int32} (hf : f_X9_remake p0 p1 f_this_s = some (r, m_this_s)) : mFi l G yX9_remake cX9_remake 3 .int 2 [.ref h_this, .int p0, .int p1] [(h_this, ob 9 [.ref h_this_s, .ref h_this_kept, .ref h_this_laid, .int x_this_isKept, .ref h_this_pile, .ref h_this_tape, .int x_this_taped, .ref h_this_letters, .int x_this_at, .int x_this_begun, .int x_this_token, .int x_this_value, .int x_this_opened, .int x_this_steps, .ref h_this_code0, .ref h_this_read, .ref h_this_saved, .ref h_this_plan, .ref h_this_bestPlan, .int x_this_most, .int x_this_many, .int x_this_few, .int x_this_everHome, .ref h_this_offThen, .ref h_this_paidThen, .int x_this_firstFit, .ref h_this_rows, .int x_this_rowMany, .ref h_this_sorts, .ref h_this_sizes, .ref h_this_number, .ref h_this_holds, .ref h_this_heldOne, .ref h_this_trace, .int x_this_traced, .int x_this_own, .int x_this_isParted]), (h_this_s, ia G 313 f_this_s)] r [(h_this, ob 9 [.ref h_this_s, .ref h_this_kept, .ref h_this_laid, .int x_this_isKept, .ref h_this_pile, .ref h_this_tape, .int x_this_taped, .ref h_this_letters, .int x_this_at, .int x_this_begun, .int x_this_token, .int x_this_value, .int x_this_opened, .int x_this_steps, .ref h_this_code0, .ref h_this_read, .ref h_this_saved, .ref h_this_plan, .ref h_this_bestPlan, .int x_this_most, .int x_this_many, .int x_this_few, .int x_this_everHome, .ref h_this_offThen, .ref h_this_paidThen, .int x_this_firstFit, .ref h_this_rows, .int x_this_rowMany, .ref h_this_sorts, .ref h_this_sizes, .ref h_this_number, .ref h_this_holds, .ref h_this_heldOne, .ref h_this_trace, .int x_this_traced, .int x_this_own, .int x_this_isParted]), (h_this_s, ia G 313 m_this_s)] := by
  refine mFi.of (by decide +kernel) (Nat.le_of_ble_eq_true rfl) ?_
  intro p e s m below meth c A C hr hlk h ls hl
  obtain ⟨hx, hb, hml, hown, hts⟩ := id C
  replace hl : lv_has ls 3 [(0, .ref h_this), (1, .int p0), (2, .int p1)] := hl
  unfold f_X9_remake at hf
  refine lv_aload_n hx hb dX9_remake_0 rfl (lv_at hl 0 rfl) ?_
  refine lv_iload_n hx hb dX9_remake_1 rfl (lv_at hl 1 rfl) ?_
  replace hf := bd1_inv hf
  obtain ⟨r1, hc2, hf⟩ := hf
  refine r_ciV0 C h (c_X9_isShip hc2) mv_X9_226 rfl 0 rfl [0, 1] rfl rfl hl.1 rfl (Nat.le_of_ble_eq_true rfl) (rok (by decide)) dX9_remake_2 (fun H locs h => ?_)
  refine lv_if_eq (tgt := 31) hx hb dX9_remake_5 rfl (fun c3 => ?_) (fun c3 => ?_)
  · replace hf := ifp c3 hf
    refine lv_iconst (v := (-1 : Int32)) hx hb dX9_remake_31 rfl ?_
    cases hf
    exact r_iret C h hr hlk rfl dX9_remake_32
  · replace hf := ifn c3 hf
    refine lv_iload_n hx hb dX9_remake_8 rfl (lv_at hl 2 rfl) ?_
    refine lv_iconst (v := (1 : Int32)) hx hb dX9_remake_9 rfl ?_
    refine lv_iconst (v := (5 : Int32)) hx hb dX9_remake_10 rfl ?_
    replace hf := bd1_inv hf
    obtain ⟨r4, hc5, hf⟩ := hf
    refine r_ciS0 C h (c_X9_in1 hc5) ms_X9_71 rfl [] rfl rfl hl.1 rfl (Nat.le_of_ble_eq_true rfl) (rok (by decide)) dX9_remake_11 (fun H locs h => ?_)
    refine lv_if_eq (tgt := 31) hx hb dX9_remake_14 rfl (fun c6 => ?_) (fun c6 => ?_)
    · replace hf := ifp c6 hf
      refine lv_iconst (v := (-1 : Int32)) hx hb dX9_remake_31 rfl ?_
      cases hf
      exact r_iret C h hr hlk rfl dX9_remake_32
    · replace hf := ifn c6 hf
      refine lv_aload_n hx hb dX9_remake_17 rfl (lv_at hl 0 rfl) ?_
      refine lv_bipush (v := (35 : Int32)) hx hb dX9_remake_18 rfl ?_
      refine lv_iconst (v := (5 : Int32)) hx hb dX9_remake_20 rfl ?_
      refine lv_iload_n hx hb dX9_remake_21 rfl (lv_at hl 1 rfl) ?_
      refine lv_imul hx hb dX9_remake_22 ?_
      refine lv_iadd hx hb dX9_remake_23 ?_
      refine lv_iload_n hx hb dX9_remake_24 rfl (lv_at hl 2 rfl) ?_
      replace hf := bd2_inv hf
      obtain ⟨r7, g8, hc9, hf⟩ := hf
      refine r_ciV (ws' := [(h_this, ob 9 [.ref h_this_s, .ref h_this_kept, .ref h_this_laid, .int x_this_isKept, .ref h_this_pile, .ref h_this_tape, .int x_this_taped, .ref h_this_letters, .int x_this_at, .int x_this_begun, .int x_this_token, .int x_this_value, .int x_this_opened, .int x_this_steps, .ref h_this_code0, .ref h_this_read, .ref h_this_saved, .ref h_this_plan, .ref h_this_bestPlan, .int x_this_most, .int x_this_many, .int x_this_few, .int x_this_everHome, .ref h_this_offThen, .ref h_this_paidThen, .int x_this_firstFit, .ref h_this_rows, .int x_this_rowMany, .ref h_this_sorts, .ref h_this_sizes, .ref h_this_number, .ref h_this_holds, .ref h_this_heldOne, .ref h_this_trace, .int x_this_traced, .int x_this_own, .int x_this_isParted]), (h_this_s, ia G 313 g8)]) C h (c_X9_becomes hc9) mv_X9_229 rfl 0 rfl [0, 1] rfl rfl rfl rfl rfl hl.1 rfl (Nat.le_of_ble_eq_true rfl) (rok (by decide)) dX9_remake_25 (fun H locs h => ?_)
      refine lv_goto (tgt := 32) hx hb dX9_remake_28 rfl ?_
      cases hf
      exact r_iret C h hr hlk rfl dX9_remake_32
def f_X9_light (p0 : Int32) (p1 : Int32) (f_this_s : Nat → Int32) : Option (Int32 × (Nat → Int32)) := bd1 (f_X9_in1 p0 (0 : Int32) (15 : Int32)) (fun r1 => (if r1 = 0 then some ((-1 : Int32), f_this_s) else bd1 (f_X9_in1 p1 (0 : Int32) (15 : Int32)) (fun r4 => (if r4 = 0 then some ((-1 : Int32), f_this_s) else bd2 (f_X9_becomes ((7 : Int32) + p0) p1 f_this_s) (fun r7 g8 => some (r7, g8))))))
set_option maxRecDepth 100000 in
set_option maxHeartbeats 4000000 in
theorem c_X9_light {l : Launch} {G : Gt} {h_this h_this_s h_this_kept h_this_laid h_this_pile h_this_tape h_this_letters h_this_code0 h_this_read h_this_saved h_this_plan h_this_bestPlan h_this_offThen h_this_paidThen h_this_rows h_this_sorts h_this_sizes h_this_number h_this_holds h_this_heldOne h_this_trace : Nat} {p0 : Int32} {p1 : Int32} {x_this_isKept : Int32} {x_this_taped : Int32} {x_this_at : Int32} {x_this_begun : Int32} {x_this_token : Int32} {x_this_value : Int32} {x_this_opened : Int32} {x_this_steps : Int32} {x_this_most : Int32} {x_this_many : Int32} {x_this_few : Int32} {x_this_everHome : Int32} {x_this_firstFit : Int32} {x_this_rowMany : Int32} {x_this_traced : Int32} {x_this_own : Int32} {x_this_isParted : Int32} {f_this_s : Nat → Int32} {r : Int32} {m_this_s : Nat → Int32} (hf : f_X9_light p0 p1 f_this_s = some (r, m_this_s)) : mFi l G yX9_light cX9_light 3 .int 1 [.ref h_this, .int p0, .int p1] [(h_this, ob 9 [.ref h_this_s, .ref h_this_kept, .ref h_this_laid, .int x_this_isKept, .ref h_this_pile, .ref h_this_tape, .int x_this_taped, .ref h_this_letters, .int x_this_at, .int x_this_begun, .int x_this_token, .int x_this_value, .int x_this_opened, .int x_this_steps, .ref h_this_code0, .ref h_this_read, .ref h_this_saved, .ref h_this_plan, .ref h_this_bestPlan, .int x_this_most, .int x_this_many, .int x_this_few, .int x_this_everHome, .ref h_this_offThen, .ref h_this_paidThen, .int x_this_firstFit, .ref h_this_rows, .int x_this_rowMany, .ref h_this_sorts, .ref h_this_sizes, .ref h_this_number, .ref h_this_holds, .ref h_this_heldOne, .ref h_this_trace, .int x_this_traced, .int x_this_own, .int x_this_isParted]), (h_this_s, ia G 313 f_this_s)] r [(h_this, ob 9 [.ref h_this_s, .ref h_this_kept, .ref h_this_laid, .int x_this_isKept, .ref h_this_pile, .ref h_this_tape, .int x_this_taped, .ref h_this_letters, .int x_this_at, .int x_this_begun, .int x_this_token, .int x_this_value, .int x_this_opened, .int x_this_steps, .ref h_this_code0, .ref h_this_read, .ref h_this_saved, .ref h_this_plan, .ref h_this_bestPlan, .int x_this_most, .int x_this_many, .int x_this_few, .int x_this_everHome, .ref h_this_offThen, .ref h_this_paidThen, .int x_this_firstFit, .ref h_this_rows, .int x_this_rowMany, .ref h_this_sorts, .ref h_this_sizes, .ref h_this_number, .ref h_this_holds, .ref h_this_heldOne, .ref h_this_trace, .int x_this_traced, .int x_this_own, .int x_this_isParted]), (h_this_s, ia G 313 m_this_s)] := by
  refine mFi.of (by decide +kernel) (Nat.le_of_ble_eq_true rfl) ?_
  intro p e s m below meth c A C hr hlk h ls hl
  obtain ⟨hx, hb, hml, hown, hts⟩ := id C
  replace hl : lv_has ls 3 [(0, .ref h_this), (1, .int p0), (2, .int p1)] := hl
  unfold f_X9_light at hf
  refine lv_iload_n hx hb dX9_light_0 rfl (lv_at hl 1 rfl) ?_
  refine lv_iconst (v := (0 : Int32)) hx hb dX9_light_1 rfl ?_
  refine lv_bipush (v := (15 : Int32)) hx hb dX9_light_2 rfl ?_
  replace hf := bd1_inv hf
  obtain ⟨r1, hc2, hf⟩ := hf
  refine r_ciS0 C h (c_X9_in1 hc2) ms_X9_71 rfl [] rfl rfl hl.1 rfl (Nat.le_of_ble_eq_true rfl) (rok (by decide)) dX9_light_4 (fun H locs h => ?_)
  refine lv_if_eq (tgt := 32) hx hb dX9_light_7 rfl (fun c3 => ?_) (fun c3 => ?_)
  · replace hf := ifp c3 hf
    refine lv_iconst (v := (-1 : Int32)) hx hb dX9_light_32 rfl ?_
    cases hf
    exact r_iret C h hr hlk rfl dX9_light_33
  · replace hf := ifn c3 hf
    refine lv_iload_n hx hb dX9_light_10 rfl (lv_at hl 2 rfl) ?_
    refine lv_iconst (v := (0 : Int32)) hx hb dX9_light_11 rfl ?_
    refine lv_bipush (v := (15 : Int32)) hx hb dX9_light_12 rfl ?_
    replace hf := bd1_inv hf
    obtain ⟨r4, hc5, hf⟩ := hf
    refine r_ciS0 C h (c_X9_in1 hc5) ms_X9_71 rfl [] rfl rfl hl.1 rfl (Nat.le_of_ble_eq_true rfl) (rok (by decide)) dX9_light_14 (fun H locs h => ?_)
    refine lv_if_eq (tgt := 32) hx hb dX9_light_17 rfl (fun c6 => ?_) (fun c6 => ?_)
    · replace hf := ifp c6 hf
      refine lv_iconst (v := (-1 : Int32)) hx hb dX9_light_32 rfl ?_
      cases hf
      exact r_iret C h hr hlk rfl dX9_light_33
    · replace hf := ifn c6 hf
      refine lv_aload_n hx hb dX9_light_20 rfl (lv_at hl 0 rfl) ?_
      refine lv_bipush (v := (7 : Int32)) hx hb dX9_light_21 rfl ?_
      refine lv_iload_n hx hb dX9_light_23 rfl (lv_at hl 1 rfl) ?_
      refine lv_iadd hx hb dX9_light_24 ?_
      refine lv_iload_n hx hb dX9_light_25 rfl (lv_at hl 2 rfl) ?_
      replace hf := bd2_inv hf
      obtain ⟨r7, g8, hc9, hf⟩ := hf
      refine r_ciV (ws' := [(h_this, ob 9 [.ref h_this_s, .ref h_this_kept, .ref h_this_laid, .int x_this_isKept, .ref h_this_pile, .ref h_this_tape, .int x_this_taped, .ref h_this_letters, .int x_this_at, .int x_this_begun, .int x_this_token, .int x_this_value, .int x_this_opened, .int x_this_steps, .ref h_this_code0, .ref h_this_read, .ref h_this_saved, .ref h_this_plan, .ref h_this_bestPlan, .int x_this_most, .int x_this_many, .int x_this_few, .int x_this_everHome, .ref h_this_offThen, .ref h_this_paidThen, .int x_this_firstFit, .ref h_this_rows, .int x_this_rowMany, .ref h_this_sorts, .ref h_this_sizes, .ref h_this_number, .ref h_this_holds, .ref h_this_heldOne, .ref h_this_trace, .int x_this_traced, .int x_this_own, .int x_this_isParted]), (h_this_s, ia G 313 g8)]) C h (c_X9_becomes hc9) mv_X9_229 rfl 0 rfl [0, 1] rfl rfl rfl rfl rfl hl.1 rfl (Nat.le_of_ble_eq_true rfl) (rok (by decide)) dX9_light_26 (fun H locs h => ?_)
      refine lv_goto (tgt := 33) hx hb dX9_light_29 rfl ?_
      cases hf
      exact r_iret C h hr hlk rfl dX9_light_33
def f_X9_lane (p0 : Int32) (p1 : Int32) (p2 : Int32) (f_this_s : Nat → Int32) : Option (Int32 × (Nat → Int32)) := bd1 (f_X9_isLane p0) (fun r1 => (if r1 = 0 then some ((-1 : Int32), f_this_s) else bd1 (f_X9_in1 p1 (0 : Int32) (1 : Int32)) (fun r4 => (if r4 = 0 then some ((-1 : Int32), f_this_s) else bd1 (f_X9_isDigit p2) (fun r7 => (if r7 = 0 then some ((-1 : Int32), f_this_s) else (if p1 = 0 then bd2 (f_X9_becomes ((23 : Int32) + p0) p2 f_this_s) (fun r14 g15 => some (r14, g15)) else bd2 (f_X9_becomes ((29 : Int32) + p0) p2 f_this_s) (fun r11 g12 => some (r11, g12)))))))))
set_option maxRecDepth 100000 in
set_option maxHeartbeats 4000000 in
theorem c_X9_lane {l : Launch} {G : Gt} {h_this h_this_s h_this_kept h_this_laid h_this_pile h_this_tape h_this_letters h_this_code0 h_this_read h_this_saved h_this_plan h_this_bestPlan h_this_offThen h_this_paidThen h_this_rows h_this_sorts h_this_sizes h_this_number h_this_holds h_this_heldOne h_this_trace : Nat} {p0 : Int32} {p1 : Int32} {p2 : Int32} {x_this_isKept : Int32} {x_this_taped : Int32} {x_this_at : Int32} {x_this_begun : Int32} {x_this_token : Int32} {x_this_value : Int32} {x_this_opened : Int32} {x_this_steps : Int32} {x_this_most : Int32} {x_this_many : Int32} {x_this_few : Int32} {x_this_everHome : Int32} {x_this_firstFit : Int32} {x_this_rowMany : Int32} {x_this_traced : Int32} {x_this_own : Int32} {x_this_isParted : Int32} {f_this_s : Nat → Int32} {r : Int32} {m_this_s : Nat → Int32} (hf : f_X9_lane p0 p1 p2 f_this_s = some (r, m_this_s)) : mFi l G yX9_lane cX9_lane 4 .int 2 [.ref h_this, .int p0, .int p1, .int p2] [(h_this, ob 9 [.ref h_this_s, .ref h_this_kept, .ref h_this_laid, .int x_this_isKept, .ref h_this_pile, .ref h_this_tape, .int x_this_taped, .ref h_this_letters, .int x_this_at, .int x_this_begun, .int x_this_token, .int x_this_value, .int x_this_opened, .int x_this_steps, .ref h_this_code0, .ref h_this_read, .ref h_this_saved, .ref h_this_plan, .ref h_this_bestPlan, .int x_this_most, .int x_this_many, .int x_this_few, .int x_this_everHome, .ref h_this_offThen, .ref h_this_paidThen, .int x_this_firstFit, .ref h_this_rows, .int x_this_rowMany, .ref h_this_sorts, .ref h_this_sizes, .ref h_this_number, .ref h_this_holds, .ref h_this_heldOne, .ref h_this_trace, .int x_this_traced, .int x_this_own, .int x_this_isParted]), (h_this_s, ia G 313 f_this_s)] r [(h_this, ob 9 [.ref h_this_s, .ref h_this_kept, .ref h_this_laid, .int x_this_isKept, .ref h_this_pile, .ref h_this_tape, .int x_this_taped, .ref h_this_letters, .int x_this_at, .int x_this_begun, .int x_this_token, .int x_this_value, .int x_this_opened, .int x_this_steps, .ref h_this_code0, .ref h_this_read, .ref h_this_saved, .ref h_this_plan, .ref h_this_bestPlan, .int x_this_most, .int x_this_many, .int x_this_few, .int x_this_everHome, .ref h_this_offThen, .ref h_this_paidThen, .int x_this_firstFit, .ref h_this_rows, .int x_this_rowMany, .ref h_this_sorts, .ref h_this_sizes, .ref h_this_number, .ref h_this_holds, .ref h_this_heldOne, .ref h_this_trace, .int x_this_traced, .int x_this_own, .int x_this_isParted]), (h_this_s, ia G 313 m_this_s)] := by
  refine mFi.of (by decide +kernel) (Nat.le_of_ble_eq_true rfl) ?_
  intro p e s m below meth c A C hr hlk h ls hl
  obtain ⟨hx, hb, hml, hown, hts⟩ := id C
  replace hl : lv_has ls 4 [(0, .ref h_this), (1, .int p0), (2, .int p1), (3, .int p2)] := hl
  unfold f_X9_lane at hf
  refine lv_iload_n hx hb dX9_lane_0 rfl (lv_at hl 1 rfl) ?_
  replace hf := bd1_inv hf
  obtain ⟨r1, hc2, hf⟩ := hf
  refine r_ciS0 C h (c_X9_isLane hc2) ms_X9_223 rfl [] rfl rfl hl.1 rfl (Nat.le_of_ble_eq_true rfl) (rok (by decide)) dX9_lane_1 (fun H locs h => ?_)
  refine lv_if_eq (tgt := 44) hx hb dX9_lane_4 rfl (fun c3 => ?_) (fun c3 => ?_)
  · replace hf := ifp c3 hf
    refine lv_iconst (v := (-1 : Int32)) hx hb dX9_lane_44 rfl ?_
    cases hf
    exact r_iret C h hr hlk rfl dX9_lane_45
  · replace hf := ifn c3 hf
    refine lv_iload_n hx hb dX9_lane_7 rfl (lv_at hl 2 rfl) ?_
    refine lv_iconst (v := (0 : Int32)) hx hb dX9_lane_8 rfl ?_
    refine lv_iconst (v := (1 : Int32)) hx hb dX9_lane_9 rfl ?_
    replace hf := bd1_inv hf
    obtain ⟨r4, hc5, hf⟩ := hf
    refine r_ciS0 C h (c_X9_in1 hc5) ms_X9_71 rfl [] rfl rfl hl.1 rfl (Nat.le_of_ble_eq_true rfl) (rok (by decide)) dX9_lane_10 (fun H locs h => ?_)
    refine lv_if_eq (tgt := 44) hx hb dX9_lane_13 rfl (fun c6 => ?_) (fun c6 => ?_)
    · replace hf := ifp c6 hf
      refine lv_iconst (v := (-1 : Int32)) hx hb dX9_lane_44 rfl ?_
      cases hf
      exact r_iret C h hr hlk rfl dX9_lane_45
    · replace hf := ifn c6 hf
      refine lv_iload_n hx hb dX9_lane_16 rfl (lv_at hl 3 rfl) ?_
      replace hf := bd1_inv hf
      obtain ⟨r7, hc8, hf⟩ := hf
      refine r_ciS0 C h (c_X9_isDigit hc8) ms_X9_220 rfl [] rfl rfl hl.1 rfl (Nat.le_of_ble_eq_true rfl) (rok (by decide)) dX9_lane_17 (fun H locs h => ?_)
      refine lv_if_eq (tgt := 44) hx hb dX9_lane_20 rfl (fun c9 => ?_) (fun c9 => ?_)
      · replace hf := ifp c9 hf
        refine lv_iconst (v := (-1 : Int32)) hx hb dX9_lane_44 rfl ?_
        cases hf
        exact r_iret C h hr hlk rfl dX9_lane_45
      · replace hf := ifn c9 hf
        refine lv_aload_n hx hb dX9_lane_23 rfl (lv_at hl 0 rfl) ?_
        refine lv_iload_n hx hb dX9_lane_24 rfl (lv_at hl 2 rfl) ?_
        refine lv_if_ne (tgt := 33) hx hb dX9_lane_25 rfl (fun c10 => ?_) (fun c10 => ?_)
        · replace hf := ifn c10 hf
          refine lv_bipush (v := (29 : Int32)) hx hb dX9_lane_33 rfl ?_
          refine lv_iload_n hx hb dX9_lane_35 rfl (lv_at hl 1 rfl) ?_
          refine lv_iadd hx hb dX9_lane_36 ?_
          refine lv_iload_n hx hb dX9_lane_37 rfl (lv_at hl 3 rfl) ?_
          replace hf := bd2_inv hf
          obtain ⟨r11, g12, hc13, hf⟩ := hf
          refine r_ciV (ws' := [(h_this, ob 9 [.ref h_this_s, .ref h_this_kept, .ref h_this_laid, .int x_this_isKept, .ref h_this_pile, .ref h_this_tape, .int x_this_taped, .ref h_this_letters, .int x_this_at, .int x_this_begun, .int x_this_token, .int x_this_value, .int x_this_opened, .int x_this_steps, .ref h_this_code0, .ref h_this_read, .ref h_this_saved, .ref h_this_plan, .ref h_this_bestPlan, .int x_this_most, .int x_this_many, .int x_this_few, .int x_this_everHome, .ref h_this_offThen, .ref h_this_paidThen, .int x_this_firstFit, .ref h_this_rows, .int x_this_rowMany, .ref h_this_sorts, .ref h_this_sizes, .ref h_this_number, .ref h_this_holds, .ref h_this_heldOne, .ref h_this_trace, .int x_this_traced, .int x_this_own, .int x_this_isParted]), (h_this_s, ia G 313 g12)]) C h (c_X9_becomes hc13) mv_X9_229 rfl 0 rfl [0, 1] rfl rfl rfl rfl rfl hl.1 rfl (Nat.le_of_ble_eq_true rfl) (rok (by decide)) dX9_lane_38 (fun H locs h => ?_)
          refine lv_goto (tgt := 45) hx hb dX9_lane_41 rfl ?_
          cases hf
          exact r_iret C h hr hlk rfl dX9_lane_45
        · replace hf := ifp c10 hf
          refine lv_bipush (v := (23 : Int32)) hx hb dX9_lane_28 rfl ?_
          refine lv_goto (tgt := 35) hx hb dX9_lane_30 rfl ?_
          refine lv_iload_n hx hb dX9_lane_35 rfl (lv_at hl 1 rfl) ?_
          refine lv_iadd hx hb dX9_lane_36 ?_
          refine lv_iload_n hx hb dX9_lane_37 rfl (lv_at hl 3 rfl) ?_
          replace hf := bd2_inv hf
          obtain ⟨r14, g15, hc16, hf⟩ := hf
          refine r_ciV (ws' := [(h_this, ob 9 [.ref h_this_s, .ref h_this_kept, .ref h_this_laid, .int x_this_isKept, .ref h_this_pile, .ref h_this_tape, .int x_this_taped, .ref h_this_letters, .int x_this_at, .int x_this_begun, .int x_this_token, .int x_this_value, .int x_this_opened, .int x_this_steps, .ref h_this_code0, .ref h_this_read, .ref h_this_saved, .ref h_this_plan, .ref h_this_bestPlan, .int x_this_most, .int x_this_many, .int x_this_few, .int x_this_everHome, .ref h_this_offThen, .ref h_this_paidThen, .int x_this_firstFit, .ref h_this_rows, .int x_this_rowMany, .ref h_this_sorts, .ref h_this_sizes, .ref h_this_number, .ref h_this_holds, .ref h_this_heldOne, .ref h_this_trace, .int x_this_traced, .int x_this_own, .int x_this_isParted]), (h_this_s, ia G 313 g15)]) C h (c_X9_becomes hc16) mv_X9_229 rfl 0 rfl [0, 1] rfl rfl rfl rfl rfl hl.1 rfl (Nat.le_of_ble_eq_true rfl) (rok (by decide)) dX9_lane_38 (fun H locs h => ?_)
          refine lv_goto (tgt := 45) hx hb dX9_lane_41 rfl ?_
          cases hf
          exact r_iret C h hr hlk rfl dX9_lane_45
def f_X9_laneOf (p0 : Int32) (p1 : Int32) (f_this_s : Nat → Int32) : Option (Int32) := bd1 (f_X9_isLane p0) (fun r1 => (if r1 = 0 then some (-1 : Int32) else bd1 (f_X9_in1 p1 (0 : Int32) (1 : Int32)) (fun r4 => (if r4 = 0 then some (-1 : Int32) else (if p1 = 0 then chkI ((23 : Int32) + p0) 313 (some (f_this_s ((23 : Int32) + p0).toNatClampNeg)) else chkI ((29 : Int32) + p0) 313 (some (f_this_s ((29 : Int32) + p0).toNatClampNeg)))))))
set_option maxRecDepth 100000 in
set_option maxHeartbeats 4000000 in
theorem c_X9_laneOf {l : Launch} {G : Gt} {h_this h_this_s h_this_kept h_this_laid h_this_pile h_this_tape h_this_letters h_this_code0 h_this_read h_this_saved h_this_plan h_this_bestPlan h_this_offThen h_this_paidThen h_this_rows h_this_sorts h_this_sizes h_this_number h_this_holds h_this_heldOne h_this_trace : Nat} {p0 : Int32} {p1 : Int32} {x_this_isKept : Int32} {x_this_taped : Int32} {x_this_at : Int32} {x_this_begun : Int32} {x_this_token : Int32} {x_this_value : Int32} {x_this_opened : Int32} {x_this_steps : Int32} {x_this_most : Int32} {x_this_many : Int32} {x_this_few : Int32} {x_this_everHome : Int32} {x_this_firstFit : Int32} {x_this_rowMany : Int32} {x_this_traced : Int32} {x_this_own : Int32} {x_this_isParted : Int32} {f_this_s : Nat → Int32} {r : Int32} (hf : f_X9_laneOf p0 p1 f_this_s = some r) : mFi l G yX9_laneOf cX9_laneOf 3 .int 2 [.ref h_this, .int p0, .int p1] [(h_this, ob 9 [.ref h_this_s, .ref h_this_kept, .ref h_this_laid, .int x_this_isKept, .ref h_this_pile, .ref h_this_tape, .int x_this_taped, .ref h_this_letters, .int x_this_at, .int x_this_begun, .int x_this_token, .int x_this_value, .int x_this_opened, .int x_this_steps, .ref h_this_code0, .ref h_this_read, .ref h_this_saved, .ref h_this_plan, .ref h_this_bestPlan, .int x_this_most, .int x_this_many, .int x_this_few, .int x_this_everHome, .ref h_this_offThen, .ref h_this_paidThen, .int x_this_firstFit, .ref h_this_rows, .int x_this_rowMany, .ref h_this_sorts, .ref h_this_sizes, .ref h_this_number, .ref h_this_holds, .ref h_this_heldOne, .ref h_this_trace, .int x_this_traced, .int x_this_own, .int x_this_isParted]), (h_this_s, ia G 313 f_this_s)] r [(h_this, ob 9 [.ref h_this_s, .ref h_this_kept, .ref h_this_laid, .int x_this_isKept, .ref h_this_pile, .ref h_this_tape, .int x_this_taped, .ref h_this_letters, .int x_this_at, .int x_this_begun, .int x_this_token, .int x_this_value, .int x_this_opened, .int x_this_steps, .ref h_this_code0, .ref h_this_read, .ref h_this_saved, .ref h_this_plan, .ref h_this_bestPlan, .int x_this_most, .int x_this_many, .int x_this_few, .int x_this_everHome, .ref h_this_offThen, .ref h_this_paidThen, .int x_this_firstFit, .ref h_this_rows, .int x_this_rowMany, .ref h_this_sorts, .ref h_this_sizes, .ref h_this_number, .ref h_this_holds, .ref h_this_heldOne, .ref h_this_trace, .int x_this_traced, .int x_this_own, .int x_this_isParted]), (h_this_s, ia G 313 f_this_s)] := by
  refine mFi.of (by decide +kernel) (Nat.le_of_ble_eq_true rfl) ?_
  intro p e s m below meth c A C hr hlk h ls hl
  obtain ⟨hx, hb, hml, hown, hts⟩ := id C
  replace hl : lv_has ls 3 [(0, .ref h_this), (1, .int p0), (2, .int p1)] := hl
  unfold f_X9_laneOf at hf
  refine lv_iload_n hx hb dX9_laneOf_0 rfl (lv_at hl 1 rfl) ?_
  replace hf := bd1_inv hf
  obtain ⟨r1, hc2, hf⟩ := hf
  refine r_ciS0 C h (c_X9_isLane hc2) ms_X9_223 rfl [] rfl rfl hl.1 rfl (Nat.le_of_ble_eq_true rfl) (rok (by decide)) dX9_laneOf_1 (fun H locs h => ?_)
  refine lv_if_eq (tgt := 37) hx hb dX9_laneOf_4 rfl (fun c3 => ?_) (fun c3 => ?_)
  · replace hf := ifp c3 hf
    refine lv_iconst (v := (-1 : Int32)) hx hb dX9_laneOf_37 rfl ?_
    cases hf
    exact r_iret C h hr hlk rfl dX9_laneOf_38
  · replace hf := ifn c3 hf
    refine lv_iload_n hx hb dX9_laneOf_7 rfl (lv_at hl 2 rfl) ?_
    refine lv_iconst (v := (0 : Int32)) hx hb dX9_laneOf_8 rfl ?_
    refine lv_iconst (v := (1 : Int32)) hx hb dX9_laneOf_9 rfl ?_
    replace hf := bd1_inv hf
    obtain ⟨r4, hc5, hf⟩ := hf
    refine r_ciS0 C h (c_X9_in1 hc5) ms_X9_71 rfl [] rfl rfl hl.1 rfl (Nat.le_of_ble_eq_true rfl) (rok (by decide)) dX9_laneOf_10 (fun H locs h => ?_)
    refine lv_if_eq (tgt := 37) hx hb dX9_laneOf_13 rfl (fun c6 => ?_) (fun c6 => ?_)
    · replace hf := ifp c6 hf
      refine lv_iconst (v := (-1 : Int32)) hx hb dX9_laneOf_37 rfl ?_
      cases hf
      exact r_iret C h hr hlk rfl dX9_laneOf_38
    · replace hf := ifn c6 hf
      refine lv_aload_n hx hb dX9_laneOf_16 rfl (lv_at hl 0 rfl) ?_
      refine r_get C h fk_X9_9 0 rfl rfl dX9_laneOf_17 ?_
      refine lv_iload_n hx hb dX9_laneOf_20 rfl (lv_at hl 2 rfl) ?_
      refine lv_if_ne (tgt := 29) hx hb dX9_laneOf_21 rfl (fun c7 => ?_) (fun c7 => ?_)
      · replace hf := ifn c7 hf
        refine lv_bipush (v := (29 : Int32)) hx hb dX9_laneOf_29 rfl ?_
        refine lv_iload_n hx hb dX9_laneOf_31 rfl (lv_at hl 1 rfl) ?_
        refine lv_iadd hx hb dX9_laneOf_32 ?_
        replace hf := chkI_inv hf
        obtain ⟨hi8, hf⟩ := hf
        refine r_iald C h 1 rfl hi8 dX9_laneOf_33 ?_
        refine lv_goto (tgt := 38) hx hb dX9_laneOf_34 rfl ?_
        cases hf
        exact r_iret C h hr hlk rfl dX9_laneOf_38
      · replace hf := ifp c7 hf
        refine lv_bipush (v := (23 : Int32)) hx hb dX9_laneOf_24 rfl ?_
        refine lv_goto (tgt := 31) hx hb dX9_laneOf_26 rfl ?_
        refine lv_iload_n hx hb dX9_laneOf_31 rfl (lv_at hl 1 rfl) ?_
        refine lv_iadd hx hb dX9_laneOf_32 ?_
        replace hf := chkI_inv hf
        obtain ⟨hi9, hf⟩ := hf
        refine r_iald C h 1 rfl hi9 dX9_laneOf_33 ?_
        refine lv_goto (tgt := 38) hx hb dX9_laneOf_34 rfl ?_
        cases hf
        exact r_iret C h hr hlk rfl dX9_laneOf_38
def f_X9_ends (p0 : Int32) (f_this_s : Nat → Int32) : Option (Int32 × (Nat → Int32)) := bd1 (f_X9_in1 p0 (1 : Int32) (16 : Int32)) (fun r1 => (if r1 = 0 then some ((-1 : Int32), f_this_s) else (if (f_this_s 0) ≤ p0 then bd2 (f_X9_becomes (1 : Int32) p0 f_this_s) (fun r5 g6 => some (r5, g6)) else some ((-4 : Int32), f_this_s))))
set_option maxRecDepth 100000 in
set_option maxHeartbeats 4000000 in
theorem c_X9_ends {l : Launch} {G : Gt} {h_this h_this_s h_this_kept h_this_laid h_this_pile h_this_tape h_this_letters h_this_code0 h_this_read h_this_saved h_this_plan h_this_bestPlan h_this_offThen h_this_paidThen h_this_rows h_this_sorts h_this_sizes h_this_number h_this_holds h_this_heldOne h_this_trace : Nat} {p0 : Int32} {x_this_isKept : Int32} {x_this_taped : Int32} {x_this_at : Int32} {x_this_begun : Int32} {x_this_token : Int32} {x_this_value : Int32} {x_this_opened : Int32} {x_this_steps : Int32} {x_this_most : Int32} {x_this_many : Int32} {x_this_few : Int32} {x_this_everHome : Int32} {x_this_firstFit : Int32} {x_this_rowMany : Int32} {x_this_traced : Int32} {x_this_own : Int32} {x_this_isParted : Int32} {f_this_s : Nat → Int32} {r : Int32} {m_this_s : Nat → Int32} (hf : f_X9_ends p0 f_this_s = some (r, m_this_s)) : mFi l G yX9_ends cX9_ends 2 .int 1 [.ref h_this, .int p0] [(h_this, ob 9 [.ref h_this_s, .ref h_this_kept, .ref h_this_laid, .int x_this_isKept, .ref h_this_pile, .ref h_this_tape, .int x_this_taped, .ref h_this_letters, .int x_this_at, .int x_this_begun, .int x_this_token, .int x_this_value, .int x_this_opened, .int x_this_steps, .ref h_this_code0, .ref h_this_read, .ref h_this_saved, .ref h_this_plan, .ref h_this_bestPlan, .int x_this_most, .int x_this_many, .int x_this_few, .int x_this_everHome, .ref h_this_offThen, .ref h_this_paidThen, .int x_this_firstFit, .ref h_this_rows, .int x_this_rowMany, .ref h_this_sorts, .ref h_this_sizes, .ref h_this_number, .ref h_this_holds, .ref h_this_heldOne, .ref h_this_trace, .int x_this_traced, .int x_this_own, .int x_this_isParted]), (h_this_s, ia G 313 f_this_s)] r [(h_this, ob 9 [.ref h_this_s, .ref h_this_kept, .ref h_this_laid, .int x_this_isKept, .ref h_this_pile, .ref h_this_tape, .int x_this_taped, .ref h_this_letters, .int x_this_at, .int x_this_begun, .int x_this_token, .int x_this_value, .int x_this_opened, .int x_this_steps, .ref h_this_code0, .ref h_this_read, .ref h_this_saved, .ref h_this_plan, .ref h_this_bestPlan, .int x_this_most, .int x_this_many, .int x_this_few, .int x_this_everHome, .ref h_this_offThen, .ref h_this_paidThen, .int x_this_firstFit, .ref h_this_rows, .int x_this_rowMany, .ref h_this_sorts, .ref h_this_sizes, .ref h_this_number, .ref h_this_holds, .ref h_this_heldOne, .ref h_this_trace, .int x_this_traced, .int x_this_own, .int x_this_isParted]), (h_this_s, ia G 313 m_this_s)] := by
  refine mFi.of (by decide +kernel) (Nat.le_of_ble_eq_true rfl) ?_
  intro p e s m below meth c A C hr hlk h ls hl
  obtain ⟨hx, hb, hml, hown, hts⟩ := id C
  replace hl : lv_has ls 2 [(0, .ref h_this), (1, .int p0)] := hl
  unfold f_X9_ends at hf
  refine lv_iload_n hx hb dX9_ends_0 rfl (lv_at hl 1 rfl) ?_
  refine lv_iconst (v := (1 : Int32)) hx hb dX9_ends_1 rfl ?_
  refine lv_bipush (v := (16 : Int32)) hx hb dX9_ends_2 rfl ?_
  replace hf := bd1_inv hf
  obtain ⟨r1, hc2, hf⟩ := hf
  refine r_ciS0 C h (c_X9_in1 hc2) ms_X9_71 rfl [] rfl rfl hl.1 rfl (Nat.le_of_ble_eq_true rfl) (rok (by decide)) dX9_ends_4 (fun H locs h => ?_)
  refine lv_if_ne (tgt := 14) hx hb dX9_ends_7 rfl (fun c3 => ?_) (fun c3 => ?_)
  · replace hf := ifn c3 hf
    refine lv_iload_n hx hb dX9_ends_14 rfl (lv_at hl 1 rfl) ?_
    refine lv_aload_n hx hb dX9_ends_15 rfl (lv_at hl 0 rfl) ?_
    refine r_get C h fk_X9_9 0 rfl rfl dX9_ends_16 ?_
    refine lv_iconst (v := (0 : Int32)) hx hb dX9_ends_19 rfl ?_
    refine r_ialdL C h 1 rfl (vlit rfl) 0 rfl dX9_ends_20 ?_
    refine lv_icmp_ge (tgt := 29) hx hb dX9_ends_21 rfl (fun c4 => ?_) (fun c4 => ?_)
    · replace hf := ifp c4 hf
      refine lv_aload_n hx hb dX9_ends_29 rfl (lv_at hl 0 rfl) ?_
      refine lv_iconst (v := (1 : Int32)) hx hb dX9_ends_30 rfl ?_
      refine lv_iload_n hx hb dX9_ends_31 rfl (lv_at hl 1 rfl) ?_
      replace hf := bd2_inv hf
      obtain ⟨r5, g6, hc7, hf⟩ := hf
      refine r_ciV (ws' := [(h_this, ob 9 [.ref h_this_s, .ref h_this_kept, .ref h_this_laid, .int x_this_isKept, .ref h_this_pile, .ref h_this_tape, .int x_this_taped, .ref h_this_letters, .int x_this_at, .int x_this_begun, .int x_this_token, .int x_this_value, .int x_this_opened, .int x_this_steps, .ref h_this_code0, .ref h_this_read, .ref h_this_saved, .ref h_this_plan, .ref h_this_bestPlan, .int x_this_most, .int x_this_many, .int x_this_few, .int x_this_everHome, .ref h_this_offThen, .ref h_this_paidThen, .int x_this_firstFit, .ref h_this_rows, .int x_this_rowMany, .ref h_this_sorts, .ref h_this_sizes, .ref h_this_number, .ref h_this_holds, .ref h_this_heldOne, .ref h_this_trace, .int x_this_traced, .int x_this_own, .int x_this_isParted]), (h_this_s, ia G 313 g6)]) C h (c_X9_becomes hc7) mv_X9_229 rfl 0 rfl [0, 1] rfl rfl rfl rfl rfl hl.1 rfl (Nat.le_of_ble_eq_true rfl) (rok (by decide)) dX9_ends_32 (fun H locs h => ?_)
      cases hf
      exact r_iret C h hr hlk rfl dX9_ends_35
    · replace hf := ifn c4 hf
      refine lv_bipush (v := (-4 : Int32)) hx hb dX9_ends_24 rfl ?_
      refine lv_goto (tgt := 35) hx hb dX9_ends_26 rfl ?_
      cases hf
      exact r_iret C h hr hlk rfl dX9_ends_35
  · replace hf := ifp c3 hf
    refine lv_iconst (v := (-1 : Int32)) hx hb dX9_ends_10 rfl ?_
    refine lv_goto (tgt := 35) hx hb dX9_ends_11 rfl ?_
    cases hf
    exact r_iret C h hr hlk rfl dX9_ends_35
def f_X9_anew_L9 : Nat → Int32 → (Nat → Int32) → Option (Int32 × (Nat → Int32))
  | 0, _, _ => none
  | n + 1, v1, g_this_s => (if (g_this_s 4) ≤ v1 then bd2 (f_X9_becomes (0 : Int32) (0 : Int32) g_this_s) (fun r2 g3 => some (r2, g3)) else bd1 (f_X9_puts v1 (4 : Int32) (0 : Int32) g_this_s) (fun g5 => lt1 (v1 + (1 : Int32)) (fun (t7 : Int32) => (f_X9_anew_L9 n) t7 g5)))
def f_X9_anew (f_this_s : Nat → Int32) : Option (Int32 × (Nat → Int32)) := f_X9_anew_L9 1000 (0 : Int32) (upd f_this_s 2 (0 : Int32))
set_option maxRecDepth 100000 in
set_option maxHeartbeats 4000000 in
theorem c_X9_anew {l : Launch} {G : Gt} {h_this h_this_s h_this_kept h_this_laid h_this_pile h_this_tape h_this_letters h_this_code0 h_this_read h_this_saved h_this_plan h_this_bestPlan h_this_offThen h_this_paidThen h_this_rows h_this_sorts h_this_sizes h_this_number h_this_holds h_this_heldOne h_this_trace : Nat} {x_this_isKept : Int32} {x_this_taped : Int32} {x_this_at : Int32} {x_this_begun : Int32} {x_this_token : Int32} {x_this_value : Int32} {x_this_opened : Int32} {x_this_steps : Int32} {x_this_most : Int32} {x_this_many : Int32} {x_this_few : Int32} {x_this_everHome : Int32} {x_this_firstFit : Int32} {x_this_rowMany : Int32} {x_this_traced : Int32} {x_this_own : Int32} {x_this_isParted : Int32} {f_this_s : Nat → Int32} {r : Int32} {m_this_s : Nat → Int32} (hf : f_X9_anew f_this_s = some (r, m_this_s)) : mFi l G yX9_anew cX9_anew 2 .int 1 [.ref h_this] [(h_this, ob 9 [.ref h_this_s, .ref h_this_kept, .ref h_this_laid, .int x_this_isKept, .ref h_this_pile, .ref h_this_tape, .int x_this_taped, .ref h_this_letters, .int x_this_at, .int x_this_begun, .int x_this_token, .int x_this_value, .int x_this_opened, .int x_this_steps, .ref h_this_code0, .ref h_this_read, .ref h_this_saved, .ref h_this_plan, .ref h_this_bestPlan, .int x_this_most, .int x_this_many, .int x_this_few, .int x_this_everHome, .ref h_this_offThen, .ref h_this_paidThen, .int x_this_firstFit, .ref h_this_rows, .int x_this_rowMany, .ref h_this_sorts, .ref h_this_sizes, .ref h_this_number, .ref h_this_holds, .ref h_this_heldOne, .ref h_this_trace, .int x_this_traced, .int x_this_own, .int x_this_isParted]), (h_this_s, ia G 313 f_this_s)] r [(h_this, ob 9 [.ref h_this_s, .ref h_this_kept, .ref h_this_laid, .int x_this_isKept, .ref h_this_pile, .ref h_this_tape, .int x_this_taped, .ref h_this_letters, .int x_this_at, .int x_this_begun, .int x_this_token, .int x_this_value, .int x_this_opened, .int x_this_steps, .ref h_this_code0, .ref h_this_read, .ref h_this_saved, .ref h_this_plan, .ref h_this_bestPlan, .int x_this_most, .int x_this_many, .int x_this_few, .int x_this_everHome, .ref h_this_offThen, .ref h_this_paidThen, .int x_this_firstFit, .ref h_this_rows, .int x_this_rowMany, .ref h_this_sorts, .ref h_this_sizes, .ref h_this_number, .ref h_this_holds, .ref h_this_heldOne, .ref h_this_trace, .int x_this_traced, .int x_this_own, .int x_this_isParted]), (h_this_s, ia G 313 m_this_s)] := by
  refine mFi.of (by decide +kernel) (Nat.le_of_ble_eq_true rfl) ?_
  intro p e s m below meth c A C hr hlk h ls hl
  obtain ⟨hx, hb, hml, hown, hts⟩ := id C
  replace hl : lv_has ls 2 [(0, .ref h_this)] := hl
  unfold f_X9_anew at hf
  refine with_K G A 2 (fun K hK1 hK2 => ?_)
  have L9 : ∀ (n : Nat) (v1 : Int32) (g_this_s : Nat → Int32), f_X9_anew_L9 n v1 g_this_s = some (r, m_this_s) → K 9 ([] : List Value) [(h_this, ob 9 [.ref h_this_s, .ref h_this_kept, .ref h_this_laid, .int x_this_isKept, .ref h_this_pile, .ref h_this_tape, .int x_this_taped, .ref h_this_letters, .int x_this_at, .int x_this_begun, .int x_this_token, .int x_this_value, .int x_this_opened, .int x_this_steps, .ref h_this_code0, .ref h_this_read, .ref h_this_saved, .ref h_this_plan, .ref h_this_bestPlan, .int x_this_most, .int x_this_many, .int x_this_few, .int x_this_everHome, .ref h_this_offThen, .ref h_this_paidThen, .int x_this_firstFit, .ref h_this_rows, .int x_this_rowMany, .ref h_this_sorts, .ref h_this_sizes, .ref h_this_number, .ref h_this_holds, .ref h_this_heldOne, .ref h_this_trace, .int x_this_traced, .int x_this_own, .int x_this_isParted]), (h_this_s, ia G 313 g_this_s)] [(0, .ref h_this), (1, .int v1)] := by
    intro n
    induction n with
    | zero =>
      intro v1 g_this_s hf
      replace hf : (none : Option _) = some _ := hf
      cases hf
    | succ n ih =>
      intro v1 g_this_s hf
      rw [f_X9_anew_L9] at hf
      refine hK1 _ _ _ _ (fun H locs ls h hl => ?_)
      refine lv_iload_n hx hb dX9_anew_9 rfl (lv_at hl 1 rfl) ?_
      refine lv_aload_n hx hb dX9_anew_10 rfl (lv_at hl 0 rfl) ?_
      refine r_get C h fk_X9_9 0 rfl rfl dX9_anew_11 ?_
      refine lv_iconst (v := (4 : Int32)) hx hb dX9_anew_14 rfl ?_
      refine r_ialdL C h 1 rfl (vlit rfl) 4 rfl dX9_anew_15 ?_
      refine lv_icmp_ge (tgt := 32) hx hb dX9_anew_16 rfl (fun c1 => ?_) (fun c1 => ?_)
      · replace hf := ifp c1 hf
        refine lv_aload_n hx hb dX9_anew_32 rfl (lv_at hl 0 rfl) ?_
        refine lv_iconst (v := (0 : Int32)) hx hb dX9_anew_33 rfl ?_
        refine lv_iconst (v := (0 : Int32)) hx hb dX9_anew_34 rfl ?_
        replace hf := bd2_inv hf
        obtain ⟨r2, g3, hc4, hf⟩ := hf
        refine r_ciV (ws' := [(h_this, ob 9 [.ref h_this_s, .ref h_this_kept, .ref h_this_laid, .int x_this_isKept, .ref h_this_pile, .ref h_this_tape, .int x_this_taped, .ref h_this_letters, .int x_this_at, .int x_this_begun, .int x_this_token, .int x_this_value, .int x_this_opened, .int x_this_steps, .ref h_this_code0, .ref h_this_read, .ref h_this_saved, .ref h_this_plan, .ref h_this_bestPlan, .int x_this_most, .int x_this_many, .int x_this_few, .int x_this_everHome, .ref h_this_offThen, .ref h_this_paidThen, .int x_this_firstFit, .ref h_this_rows, .int x_this_rowMany, .ref h_this_sorts, .ref h_this_sizes, .ref h_this_number, .ref h_this_holds, .ref h_this_heldOne, .ref h_this_trace, .int x_this_traced, .int x_this_own, .int x_this_isParted]), (h_this_s, ia G 313 g3)]) C h (c_X9_becomes hc4) mv_X9_229 rfl 0 rfl [0, 1] rfl rfl rfl rfl rfl hl.1 rfl (Nat.le_of_ble_eq_true rfl) (rok (by decide)) dX9_anew_35 (fun H locs h => ?_)
        cases hf
        exact r_iret C h hr hlk rfl dX9_anew_38
      · replace hf := ifn c1 hf
        refine lv_aload_n hx hb dX9_anew_19 rfl (lv_at hl 0 rfl) ?_
        refine lv_iload_n hx hb dX9_anew_20 rfl (lv_at hl 1 rfl) ?_
        refine lv_iconst (v := (4 : Int32)) hx hb dX9_anew_21 rfl ?_
        refine lv_iconst (v := (0 : Int32)) hx hb dX9_anew_22 rfl ?_
        replace hf := bd1_inv hf
        obtain ⟨g5, hc6, hf⟩ := hf
        refine r_cvV (ws' := [(h_this, ob 9 [.ref h_this_s, .ref h_this_kept, .ref h_this_laid, .int x_this_isKept, .ref h_this_pile, .ref h_this_tape, .int x_this_taped, .ref h_this_letters, .int x_this_at, .int x_this_begun, .int x_this_token, .int x_this_value, .int x_this_opened, .int x_this_steps, .ref h_this_code0, .ref h_this_read, .ref h_this_saved, .ref h_this_plan, .ref h_this_bestPlan, .int x_this_most, .int x_this_many, .int x_this_few, .int x_this_everHome, .ref h_this_offThen, .ref h_this_paidThen, .int x_this_firstFit, .ref h_this_rows, .int x_this_rowMany, .ref h_this_sorts, .ref h_this_sizes, .ref h_this_number, .ref h_this_holds, .ref h_this_heldOne, .ref h_this_trace, .int x_this_traced, .int x_this_own, .int x_this_isParted]), (h_this_s, ia G 313 g5)]) C h (c_X9_puts hc6) mv_X9_195 rfl 0 rfl [0, 1] rfl rfl rfl rfl rfl hl.1 rfl (Nat.le_of_ble_eq_true rfl) (rok (by decide)) dX9_anew_23 (fun H locs h => ?_)
        obtain ⟨t7, et7⟩ : ∃ y : Int32, y = v1 + (1 : Int32) := ⟨_, rfl⟩
        replace hf := lt1_inv et7 hf
        refine lv_iinc (v := t7) (lv' := [(1, .int t7), (0, .ref h_this)]) hx hb dX9_anew_26 hl (k := 1) rfl (by rw [et7]; rfl) (by decide) rfl (fun ls hl => ?_)
        refine lv_goto (tgt := 9) hx hb dX9_anew_29 rfl ?_
        exact hK2 _ _ _ _ (ih t7 g5 hf) _ _ _ h (lv_sub hl [1, 0] rfl)
  refine lv_aload_n hx hb dX9_anew_0 rfl (lv_at hl 0 rfl) ?_
  refine r_get C h fk_X9_9 0 rfl rfl dX9_anew_1 ?_
  refine lv_iconst (v := (2 : Int32)) hx hb dX9_anew_4 rfl ?_
  refine lv_iconst (v := (0 : Int32)) hx hb dX9_anew_5 rfl ?_
  refine r_iastL (ws' := [(h_this, ob 9 [.ref h_this_s, .ref h_this_kept, .ref h_this_laid, .int x_this_isKept, .ref h_this_pile, .ref h_this_tape, .int x_this_taped, .ref h_this_letters, .int x_this_at, .int x_this_begun, .int x_this_token, .int x_this_value, .int x_this_opened, .int x_this_steps, .ref h_this_code0, .ref h_this_read, .ref h_this_saved, .ref h_this_plan, .ref h_this_bestPlan, .int x_this_most, .int x_this_many, .int x_this_few, .int x_this_everHome, .ref h_this_offThen, .ref h_this_paidThen, .int x_this_firstFit, .ref h_this_rows, .int x_this_rowMany, .ref h_this_sorts, .ref h_this_sizes, .ref h_this_number, .ref h_this_holds, .ref h_this_heldOne, .ref h_this_trace, .int x_this_traced, .int x_this_own, .int x_this_isParted]), (h_this_s, ia G 313 (upd f_this_s 2 (0 : Int32)))]) C h 1 rfl (vlit rfl) 2 rfl dX9_anew_6 rfl (fun H locs h => ?_)
  refine lv_iconst (v := (0 : Int32)) hx hb dX9_anew_7 rfl ?_
  refine lv_istore_n (lv' := [(1, .int (0 : Int32)), (0, .ref h_this)]) hx hb dX9_anew_8 rfl hl (by decide) rfl (fun ls hl => ?_)
  exact hK2 _ _ _ _ (L9 1000 (0 : Int32) (upd f_this_s 2 (0 : Int32)) hf) _ _ _ h (lv_sub hl [1, 0] rfl)
def f_X9_isOver (f_this_s : Nat → Int32) : Option (Int32) := (if (f_this_s 0) < (f_this_s 1) then some (0 : Int32) else some (1 : Int32))
set_option maxRecDepth 100000 in
set_option maxHeartbeats 4000000 in
theorem c_X9_isOver {l : Launch} {G : Gt} {h_this h_this_s h_this_kept h_this_laid h_this_pile h_this_tape h_this_letters h_this_code0 h_this_read h_this_saved h_this_plan h_this_bestPlan h_this_offThen h_this_paidThen h_this_rows h_this_sorts h_this_sizes h_this_number h_this_holds h_this_heldOne h_this_trace : Nat} {x_this_isKept : Int32} {x_this_taped : Int32} {x_this_at : Int32} {x_this_begun : Int32} {x_this_token : Int32} {x_this_value : Int32} {x_this_opened : Int32} {x_this_steps : Int32} {x_this_most : Int32} {x_this_many : Int32} {x_this_few : Int32} {x_this_everHome : Int32} {x_this_firstFit : Int32} {x_this_rowMany : Int32} {x_this_traced : Int32} {x_this_own : Int32} {x_this_isParted : Int32} {f_this_s : Nat → Int32} {r : Int32} (hf : f_X9_isOver f_this_s = some r) : mFi l G yX9_isOver cX9_isOver 1 .boolean 0 [.ref h_this] [(h_this, ob 9 [.ref h_this_s, .ref h_this_kept, .ref h_this_laid, .int x_this_isKept, .ref h_this_pile, .ref h_this_tape, .int x_this_taped, .ref h_this_letters, .int x_this_at, .int x_this_begun, .int x_this_token, .int x_this_value, .int x_this_opened, .int x_this_steps, .ref h_this_code0, .ref h_this_read, .ref h_this_saved, .ref h_this_plan, .ref h_this_bestPlan, .int x_this_most, .int x_this_many, .int x_this_few, .int x_this_everHome, .ref h_this_offThen, .ref h_this_paidThen, .int x_this_firstFit, .ref h_this_rows, .int x_this_rowMany, .ref h_this_sorts, .ref h_this_sizes, .ref h_this_number, .ref h_this_holds, .ref h_this_heldOne, .ref h_this_trace, .int x_this_traced, .int x_this_own, .int x_this_isParted]), (h_this_s, ia G 313 f_this_s)] r [(h_this, ob 9 [.ref h_this_s, .ref h_this_kept, .ref h_this_laid, .int x_this_isKept, .ref h_this_pile, .ref h_this_tape, .int x_this_taped, .ref h_this_letters, .int x_this_at, .int x_this_begun, .int x_this_token, .int x_this_value, .int x_this_opened, .int x_this_steps, .ref h_this_code0, .ref h_this_read, .ref h_this_saved, .ref h_this_plan, .ref h_this_bestPlan, .int x_this_most, .int x_this_many, .int x_this_few, .int x_this_everHome, .ref h_this_offThen, .ref h_this_paidThen, .int x_this_firstFit, .ref h_this_rows, .int x_this_rowMany, .ref h_this_sorts, .ref h_this_sizes, .ref h_this_number, .ref h_this_holds, .ref h_this_heldOne, .ref h_this_trace, .int x_this_traced, .int x_this_own, .int x_this_isParted]), (h_this_s, ia G 313 f_this_s)] := by
  refine mFi.of (by decide +kernel) (Nat.le_of_ble_eq_true rfl) ?_
  intro p e s m below meth c A C hr hlk h ls hl
  obtain ⟨hx, hb, hml, hown, hts⟩ := id C
  replace hl : lv_has ls 1 [(0, .ref h_this)] := hl
  unfold f_X9_isOver at hf
  refine lv_aload_n hx hb dX9_isOver_0 rfl (lv_at hl 0 rfl) ?_
  refine r_get C h fk_X9_9 0 rfl rfl dX9_isOver_1 ?_
  refine lv_iconst (v := (0 : Int32)) hx hb dX9_isOver_4 rfl ?_
  refine r_ialdL C h 1 rfl (vlit rfl) 0 rfl dX9_isOver_5 ?_
  refine lv_aload_n hx hb dX9_isOver_6 rfl (lv_at hl 0 rfl) ?_
  refine r_get C h fk_X9_9 0 rfl rfl dX9_isOver_7 ?_
  refine lv_iconst (v := (1 : Int32)) hx hb dX9_isOver_10 rfl ?_
  refine r_ialdL C h 1 rfl (vlit rfl) 1 rfl dX9_isOver_11 ?_
  refine lv_icmp_lt (tgt := 19) hx hb dX9_isOver_12 rfl (fun c1 => ?_) (fun c1 => ?_)
  · replace hf := ifp c1 hf
    refine lv_iconst (v := (0 : Int32)) hx hb dX9_isOver_19 rfl ?_
    cases hf
    exact r_iret C h hr hlk rfl dX9_isOver_20
  · replace hf := ifn c1 hf
    refine lv_iconst (v := (1 : Int32)) hx hb dX9_isOver_15 rfl ?_
    refine lv_goto (tgt := 20) hx hb dX9_isOver_16 rfl ?_
    cases hf
    exact r_iret C h hr hlk rfl dX9_isOver_20
def f_X9_those_L4 (p0 : Int32) (f_this_s : Nat → Int32) : Nat → Int32 → Int32 → Option (Int32)
  | 0, _, _ => none
  | n + 1, v2, v3 => (if (f_this_s 4) ≤ v3 then some v2 else bd1 (f_X9_get v3 p0 f_this_s) (fun r2 => (if r2 ≤ 0 then lt1 (v2 ||| (0 : Int32)) (fun (t5 : Int32) => lt1 (v3 + (1 : Int32)) (fun (t6 : Int32) => (f_X9_those_L4 p0 f_this_s n) t5 t6)) else lt1 (v2 ||| ((1 : Int32) <<< (v3 &&& 31))) (fun (t7 : Int32) => lt1 (v3 + (1 : Int32)) (fun (t8 : Int32) => (f_X9_those_L4 p0 f_this_s n) t7 t8)))))
def f_X9_those (p0 : Int32) (f_this_s : Nat → Int32) : Option (Int32) := f_X9_those_L4 p0 f_this_s 1000 (0 : Int32) (0 : Int32)
set_option maxRecDepth 100000 in
set_option maxHeartbeats 4000000 in
theorem c_X9_those {l : Launch} {G : Gt} {h_this h_this_s h_this_kept h_this_laid h_this_pile h_this_tape h_this_letters h_this_code0 h_this_read h_this_saved h_this_plan h_this_bestPlan h_this_offThen h_this_paidThen h_this_rows h_this_sorts h_this_sizes h_this_number h_this_holds h_this_heldOne h_this_trace : Nat} {p0 : Int32} {x_this_isKept : Int32} {x_this_taped : Int32} {x_this_at : Int32} {x_this_begun : Int32} {x_this_token : Int32} {x_this_value : Int32} {x_this_opened : Int32} {x_this_steps : Int32} {x_this_most : Int32} {x_this_many : Int32} {x_this_few : Int32} {x_this_everHome : Int32} {x_this_firstFit : Int32} {x_this_rowMany : Int32} {x_this_traced : Int32} {x_this_own : Int32} {x_this_isParted : Int32} {f_this_s : Nat → Int32} {r : Int32} (hf : f_X9_those p0 f_this_s = some r) : mFi l G yX9_those cX9_those 4 .int 1 [.ref h_this, .int p0] [(h_this, ob 9 [.ref h_this_s, .ref h_this_kept, .ref h_this_laid, .int x_this_isKept, .ref h_this_pile, .ref h_this_tape, .int x_this_taped, .ref h_this_letters, .int x_this_at, .int x_this_begun, .int x_this_token, .int x_this_value, .int x_this_opened, .int x_this_steps, .ref h_this_code0, .ref h_this_read, .ref h_this_saved, .ref h_this_plan, .ref h_this_bestPlan, .int x_this_most, .int x_this_many, .int x_this_few, .int x_this_everHome, .ref h_this_offThen, .ref h_this_paidThen, .int x_this_firstFit, .ref h_this_rows, .int x_this_rowMany, .ref h_this_sorts, .ref h_this_sizes, .ref h_this_number, .ref h_this_holds, .ref h_this_heldOne, .ref h_this_trace, .int x_this_traced, .int x_this_own, .int x_this_isParted]), (h_this_s, ia G 313 f_this_s)] r [(h_this, ob 9 [.ref h_this_s, .ref h_this_kept, .ref h_this_laid, .int x_this_isKept, .ref h_this_pile, .ref h_this_tape, .int x_this_taped, .ref h_this_letters, .int x_this_at, .int x_this_begun, .int x_this_token, .int x_this_value, .int x_this_opened, .int x_this_steps, .ref h_this_code0, .ref h_this_read, .ref h_this_saved, .ref h_this_plan, .ref h_this_bestPlan, .int x_this_most, .int x_this_many, .int x_this_few, .int x_this_everHome, .ref h_this_offThen, .ref h_this_paidThen, .int x_this_firstFit, .ref h_this_rows, .int x_this_rowMany, .ref h_this_sorts, .ref h_this_sizes, .ref h_this_number, .ref h_this_holds, .ref h_this_heldOne, .ref h_this_trace, .int x_this_traced, .int x_this_own, .int x_this_isParted]), (h_this_s, ia G 313 f_this_s)] := by
  refine mFi.of (by decide +kernel) (Nat.le_of_ble_eq_true rfl) ?_
  intro p e s m below meth c A C hr hlk h ls hl
  obtain ⟨hx, hb, hml, hown, hts⟩ := id C
  replace hl : lv_has ls 4 [(0, .ref h_this), (1, .int p0)] := hl
  unfold f_X9_those at hf
  refine with_K G A 4 (fun K hK1 hK2 => ?_)
  have L4 : ∀ (n : Nat) (v2 : Int32) (v3 : Int32), f_X9_those_L4 p0 f_this_s n v2 v3 = some r → K 4 ([] : List Value) [(h_this, ob 9 [.ref h_this_s, .ref h_this_kept, .ref h_this_laid, .int x_this_isKept, .ref h_this_pile, .ref h_this_tape, .int x_this_taped, .ref h_this_letters, .int x_this_at, .int x_this_begun, .int x_this_token, .int x_this_value, .int x_this_opened, .int x_this_steps, .ref h_this_code0, .ref h_this_read, .ref h_this_saved, .ref h_this_plan, .ref h_this_bestPlan, .int x_this_most, .int x_this_many, .int x_this_few, .int x_this_everHome, .ref h_this_offThen, .ref h_this_paidThen, .int x_this_firstFit, .ref h_this_rows, .int x_this_rowMany, .ref h_this_sorts, .ref h_this_sizes, .ref h_this_number, .ref h_this_holds, .ref h_this_heldOne, .ref h_this_trace, .int x_this_traced, .int x_this_own, .int x_this_isParted]), (h_this_s, ia G 313 f_this_s)] [(0, .ref h_this), (1, .int p0), (2, .int v2), (3, .int v3)] := by
    intro n
    induction n with
    | zero =>
      intro v2 v3 hf
      replace hf : (none : Option _) = some _ := hf
      cases hf
    | succ n ih =>
      intro v2 v3 hf
      rw [f_X9_those_L4] at hf
      refine hK1 _ _ _ _ (fun H locs ls h hl => ?_)
      refine lv_iload_n hx hb dX9_those_4 rfl (lv_at hl 3 rfl) ?_
      refine lv_aload_n hx hb dX9_those_5 rfl (lv_at hl 0 rfl) ?_
      refine r_get C h fk_X9_9 0 rfl rfl dX9_those_6 ?_
      refine lv_iconst (v := (4 : Int32)) hx hb dX9_those_9 rfl ?_
      refine r_ialdL C h 1 rfl (vlit rfl) 4 rfl dX9_those_10 ?_
      refine lv_icmp_ge (tgt := 39) hx hb dX9_those_11 rfl (fun c1 => ?_) (fun c1 => ?_)
      · replace hf := ifp c1 hf
        refine lv_iload_n hx hb dX9_those_39 rfl (lv_at hl 2 rfl) ?_
        cases hf
        exact r_iret C h hr hlk rfl dX9_those_40
      · replace hf := ifn c1 hf
        refine lv_iload_n hx hb dX9_those_14 rfl (lv_at hl 2 rfl) ?_
        refine lv_aload_n hx hb dX9_those_15 rfl (lv_at hl 0 rfl) ?_
        refine lv_iload_n hx hb dX9_those_16 rfl (lv_at hl 3 rfl) ?_
        refine lv_iload_n hx hb dX9_those_17 rfl (lv_at hl 1 rfl) ?_
        replace hf := bd1_inv hf
        obtain ⟨r2, hc3, hf⟩ := hf
        refine r_ciV0 C h (c_X9_get hc3) mv_X9_79 rfl 0 rfl [0, 1] rfl rfl hl.1 rfl (Nat.le_of_ble_eq_true rfl) (rok (by decide)) dX9_those_18 (fun H locs h => ?_)
        refine lv_if_le (tgt := 30) hx hb dX9_those_21 rfl (fun c4 => ?_) (fun c4 => ?_)
        · replace hf := ifp c4 hf
          refine lv_iconst (v := (0 : Int32)) hx hb dX9_those_30 rfl ?_
          refine lv_ior hx hb dX9_those_31 ?_
          refine lv_topi (fun t5 et5 => ?_)
          replace hf := lt1_inv et5 hf
          refine lv_istore_n (lv' := [(2, .int t5), (0, .ref h_this), (1, .int p0), (3, .int v3)]) hx hb dX9_those_32 rfl hl (by decide) rfl (fun ls hl => ?_)
          obtain ⟨t6, et6⟩ : ∃ y : Int32, y = v3 + (1 : Int32) := ⟨_, rfl⟩
          replace hf := lt1_inv et6 hf
          refine lv_iinc (v := t6) (lv' := [(3, .int t6), (2, .int t5), (0, .ref h_this), (1, .int p0)]) hx hb dX9_those_33 hl (k := 3) rfl (by rw [et6]; rfl) (by decide) rfl (fun ls hl => ?_)
          refine lv_goto (tgt := 4) hx hb dX9_those_36 rfl ?_
          exact hK2 _ _ _ _ (ih t5 t6 hf) _ _ _ h (lv_sub hl [2, 3, 1, 0] rfl)
        · replace hf := ifn c4 hf
          refine lv_iconst (v := (1 : Int32)) hx hb dX9_those_24 rfl ?_
          refine lv_iload_n hx hb dX9_those_25 rfl (lv_at hl 3 rfl) ?_
          refine lv_ishl hx hb dX9_those_26 ?_
          refine lv_goto (tgt := 31) hx hb dX9_those_27 rfl ?_
          refine lv_ior hx hb dX9_those_31 ?_
          refine lv_topi (fun t7 et7 => ?_)
          replace hf := lt1_inv et7 hf
          refine lv_istore_n (lv' := [(2, .int t7), (0, .ref h_this), (1, .int p0), (3, .int v3)]) hx hb dX9_those_32 rfl hl (by decide) rfl (fun ls hl => ?_)
          obtain ⟨t8, et8⟩ : ∃ y : Int32, y = v3 + (1 : Int32) := ⟨_, rfl⟩
          replace hf := lt1_inv et8 hf
          refine lv_iinc (v := t8) (lv' := [(3, .int t8), (2, .int t7), (0, .ref h_this), (1, .int p0)]) hx hb dX9_those_33 hl (k := 3) rfl (by rw [et8]; rfl) (by decide) rfl (fun ls hl => ?_)
          refine lv_goto (tgt := 4) hx hb dX9_those_36 rfl ?_
          exact hK2 _ _ _ _ (ih t7 t8 hf) _ _ _ h (lv_sub hl [2, 3, 1, 0] rfl)
  refine lv_iconst (v := (0 : Int32)) hx hb dX9_those_0 rfl ?_
  refine lv_istore_n (lv' := [(2, .int (0 : Int32)), (0, .ref h_this), (1, .int p0)]) hx hb dX9_those_1 rfl hl (by decide) rfl (fun ls hl => ?_)
  refine lv_iconst (v := (0 : Int32)) hx hb dX9_those_2 rfl ?_
  refine lv_istore_n (lv' := [(3, .int (0 : Int32)), (2, .int (0 : Int32)), (0, .ref h_this), (1, .int p0)]) hx hb dX9_those_3 rfl hl (by decide) rfl (fun ls hl => ?_)
  exact hK2 _ _ _ _ (L4 1000 (0 : Int32) (0 : Int32) hf) _ _ _ h (lv_sub hl [2, 3, 1, 0] rfl)
def f_X9_isOnRock (p0 : Int32) (f_this_s : Nat → Int32) : Option (Int32) := bd1 (f_X9_get p0 (4 : Int32) f_this_s) (fun r1 => (if r1 = 0 then bd1 (f_X9_get p0 (1 : Int32) f_this_s) (fun r4 => (if r4 = 0 then some (1 : Int32) else some (0 : Int32))) else some (0 : Int32)))
set_option maxRecDepth 100000 in
set_option maxHeartbeats 4000000 in
theorem c_X9_isOnRock {l : Launch} {G : Gt} {h_this h_this_s h_this_kept h_this_laid h_this_pile h_this_tape h_this_letters h_this_code0 h_this_read h_this_saved h_this_plan h_this_bestPlan h_this_offThen h_this_paidThen h_this_rows h_this_sorts h_this_sizes h_this_number h_this_holds h_this_heldOne h_this_trace : Nat} {p0 : Int32} {x_this_isKept : Int32} {x_this_taped : Int32} {x_this_at : Int32} {x_this_begun : Int32} {x_this_token : Int32} {x_this_value : Int32} {x_this_opened : Int32} {x_this_steps : Int32} {x_this_most : Int32} {x_this_many : Int32} {x_this_few : Int32} {x_this_everHome : Int32} {x_this_firstFit : Int32} {x_this_rowMany : Int32} {x_this_traced : Int32} {x_this_own : Int32} {x_this_isParted : Int32} {f_this_s : Nat → Int32} {r : Int32} (hf : f_X9_isOnRock p0 f_this_s = some r) : mFi l G yX9_isOnRock cX9_isOnRock 2 .boolean 1 [.ref h_this, .int p0] [(h_this, ob 9 [.ref h_this_s, .ref h_this_kept, .ref h_this_laid, .int x_this_isKept, .ref h_this_pile, .ref h_this_tape, .int x_this_taped, .ref h_this_letters, .int x_this_at, .int x_this_begun, .int x_this_token, .int x_this_value, .int x_this_opened, .int x_this_steps, .ref h_this_code0, .ref h_this_read, .ref h_this_saved, .ref h_this_plan, .ref h_this_bestPlan, .int x_this_most, .int x_this_many, .int x_this_few, .int x_this_everHome, .ref h_this_offThen, .ref h_this_paidThen, .int x_this_firstFit, .ref h_this_rows, .int x_this_rowMany, .ref h_this_sorts, .ref h_this_sizes, .ref h_this_number, .ref h_this_holds, .ref h_this_heldOne, .ref h_this_trace, .int x_this_traced, .int x_this_own, .int x_this_isParted]), (h_this_s, ia G 313 f_this_s)] r [(h_this, ob 9 [.ref h_this_s, .ref h_this_kept, .ref h_this_laid, .int x_this_isKept, .ref h_this_pile, .ref h_this_tape, .int x_this_taped, .ref h_this_letters, .int x_this_at, .int x_this_begun, .int x_this_token, .int x_this_value, .int x_this_opened, .int x_this_steps, .ref h_this_code0, .ref h_this_read, .ref h_this_saved, .ref h_this_plan, .ref h_this_bestPlan, .int x_this_most, .int x_this_many, .int x_this_few, .int x_this_everHome, .ref h_this_offThen, .ref h_this_paidThen, .int x_this_firstFit, .ref h_this_rows, .int x_this_rowMany, .ref h_this_sorts, .ref h_this_sizes, .ref h_this_number, .ref h_this_holds, .ref h_this_heldOne, .ref h_this_trace, .int x_this_traced, .int x_this_own, .int x_this_isParted]), (h_this_s, ia G 313 f_this_s)] := by
  refine mFi.of (by decide +kernel) (Nat.le_of_ble_eq_true rfl) ?_
  intro p e s m below meth c A C hr hlk h ls hl
  obtain ⟨hx, hb, hml, hown, hts⟩ := id C
  replace hl : lv_has ls 2 [(0, .ref h_this), (1, .int p0)] := hl
  unfold f_X9_isOnRock at hf
  refine lv_aload_n hx hb dX9_isOnRock_0 rfl (lv_at hl 0 rfl) ?_
  refine lv_iload_n hx hb dX9_isOnRock_1 rfl (lv_at hl 1 rfl) ?_
  refine lv_iconst (v := (4 : Int32)) hx hb dX9_isOnRock_2 rfl ?_
  replace hf := bd1_inv hf
  obtain ⟨r1, hc2, hf⟩ := hf
  refine r_ciV0 C h (c_X9_get hc2) mv_X9_79 rfl 0 rfl [0, 1] rfl rfl hl.1 rfl (Nat.le_of_ble_eq_true rfl) (rok (by decide)) dX9_isOnRock_3 (fun H locs h => ?_)
  refine lv_if_ne (tgt := 22) hx hb dX9_isOnRock_6 rfl (fun c3 => ?_) (fun c3 => ?_)
  · replace hf := ifn c3 hf
    refine lv_iconst (v := (0 : Int32)) hx hb dX9_isOnRock_22 rfl ?_
    cases hf
    exact r_iret C h hr hlk rfl dX9_isOnRock_23
  · replace hf := ifp c3 hf
    refine lv_aload_n hx hb dX9_isOnRock_9 rfl (lv_at hl 0 rfl) ?_
    refine lv_iload_n hx hb dX9_isOnRock_10 rfl (lv_at hl 1 rfl) ?_
    refine lv_iconst (v := (1 : Int32)) hx hb dX9_isOnRock_11 rfl ?_
    replace hf := bd1_inv hf
    obtain ⟨r4, hc5, hf⟩ := hf
    refine r_ciV0 C h (c_X9_get hc5) mv_X9_79 rfl 0 rfl [0, 1] rfl rfl hl.1 rfl (Nat.le_of_ble_eq_true rfl) (rok (by decide)) dX9_isOnRock_12 (fun H locs h => ?_)
    refine lv_if_ne (tgt := 22) hx hb dX9_isOnRock_15 rfl (fun c6 => ?_) (fun c6 => ?_)
    · replace hf := ifn c6 hf
      refine lv_iconst (v := (0 : Int32)) hx hb dX9_isOnRock_22 rfl ?_
      cases hf
      exact r_iret C h hr hlk rfl dX9_isOnRock_23
    · replace hf := ifp c6 hf
      refine lv_iconst (v := (1 : Int32)) hx hb dX9_isOnRock_18 rfl ?_
      refine lv_goto (tgt := 23) hx hb dX9_isOnRock_19 rfl ?_
      cases hf
      exact r_iret C h hr hlk rfl dX9_isOnRock_23
def f_X9_onRock_L4 (f_this_s : Nat → Int32) : Nat → Int32 → Int32 → Option (Int32)
  | 0, _, _ => none
  | n + 1, v1, v2 => (if (f_this_s 4) ≤ v2 then some v1 else bd1 (f_X9_isOnRock v2 f_this_s) (fun r2 => (if r2 = 0 then lt1 (v1 + (0 : Int32)) (fun (t5 : Int32) => lt1 (v2 + (1 : Int32)) (fun (t6 : Int32) => (f_X9_onRock_L4 f_this_s n) t5 t6)) else lt1 (v1 + (1 : Int32)) (fun (t7 : Int32) => lt1 (v2 + (1 : Int32)) (fun (t8 : Int32) => (f_X9_onRock_L4 f_this_s n) t7 t8)))))
def f_X9_onRock (f_this_s : Nat → Int32) : Option (Int32) := f_X9_onRock_L4 f_this_s 1000 (0 : Int32) (0 : Int32)
set_option maxRecDepth 100000 in
set_option maxHeartbeats 4000000 in
theorem c_X9_onRock {l : Launch} {G : Gt} {h_this h_this_s h_this_kept h_this_laid h_this_pile h_this_tape h_this_letters h_this_code0 h_this_read h_this_saved h_this_plan h_this_bestPlan h_this_offThen h_this_paidThen h_this_rows h_this_sorts h_this_sizes h_this_number h_this_holds h_this_heldOne h_this_trace : Nat} {x_this_isKept : Int32} {x_this_taped : Int32} {x_this_at : Int32} {x_this_begun : Int32} {x_this_token : Int32} {x_this_value : Int32} {x_this_opened : Int32} {x_this_steps : Int32} {x_this_most : Int32} {x_this_many : Int32} {x_this_few : Int32} {x_this_everHome : Int32} {x_this_firstFit : Int32} {x_this_rowMany : Int32} {x_this_traced : Int32} {x_this_own : Int32} {x_this_isParted : Int32} {f_this_s : Nat → Int32} {r : Int32} (hf : f_X9_onRock f_this_s = some r) : mFi l G yX9_onRock cX9_onRock 3 .int 2 [.ref h_this] [(h_this, ob 9 [.ref h_this_s, .ref h_this_kept, .ref h_this_laid, .int x_this_isKept, .ref h_this_pile, .ref h_this_tape, .int x_this_taped, .ref h_this_letters, .int x_this_at, .int x_this_begun, .int x_this_token, .int x_this_value, .int x_this_opened, .int x_this_steps, .ref h_this_code0, .ref h_this_read, .ref h_this_saved, .ref h_this_plan, .ref h_this_bestPlan, .int x_this_most, .int x_this_many, .int x_this_few, .int x_this_everHome, .ref h_this_offThen, .ref h_this_paidThen, .int x_this_firstFit, .ref h_this_rows, .int x_this_rowMany, .ref h_this_sorts, .ref h_this_sizes, .ref h_this_number, .ref h_this_holds, .ref h_this_heldOne, .ref h_this_trace, .int x_this_traced, .int x_this_own, .int x_this_isParted]), (h_this_s, ia G 313 f_this_s)] r [(h_this, ob 9 [.ref h_this_s, .ref h_this_kept, .ref h_this_laid, .int x_this_isKept, .ref h_this_pile, .ref h_this_tape, .int x_this_taped, .ref h_this_letters, .int x_this_at, .int x_this_begun, .int x_this_token, .int x_this_value, .int x_this_opened, .int x_this_steps, .ref h_this_code0, .ref h_this_read, .ref h_this_saved, .ref h_this_plan, .ref h_this_bestPlan, .int x_this_most, .int x_this_many, .int x_this_few, .int x_this_everHome, .ref h_this_offThen, .ref h_this_paidThen, .int x_this_firstFit, .ref h_this_rows, .int x_this_rowMany, .ref h_this_sorts, .ref h_this_sizes, .ref h_this_number, .ref h_this_holds, .ref h_this_heldOne, .ref h_this_trace, .int x_this_traced, .int x_this_own, .int x_this_isParted]), (h_this_s, ia G 313 f_this_s)] := by
  refine mFi.of (by decide +kernel) (Nat.le_of_ble_eq_true rfl) ?_
  intro p e s m below meth c A C hr hlk h ls hl
  obtain ⟨hx, hb, hml, hown, hts⟩ := id C
  replace hl : lv_has ls 3 [(0, .ref h_this)] := hl
  unfold f_X9_onRock at hf
  refine with_K G A 3 (fun K hK1 hK2 => ?_)
  have L4 : ∀ (n : Nat) (v1 : Int32) (v2 : Int32), f_X9_onRock_L4 f_this_s n v1 v2 = some r → K 4 ([] : List Value) [(h_this, ob 9 [.ref h_this_s, .ref h_this_kept, .ref h_this_laid, .int x_this_isKept, .ref h_this_pile, .ref h_this_tape, .int x_this_taped, .ref h_this_letters, .int x_this_at, .int x_this_begun, .int x_this_token, .int x_this_value, .int x_this_opened, .int x_this_steps, .ref h_this_code0, .ref h_this_read, .ref h_this_saved, .ref h_this_plan, .ref h_this_bestPlan, .int x_this_most, .int x_this_many, .int x_this_few, .int x_this_everHome, .ref h_this_offThen, .ref h_this_paidThen, .int x_this_firstFit, .ref h_this_rows, .int x_this_rowMany, .ref h_this_sorts, .ref h_this_sizes, .ref h_this_number, .ref h_this_holds, .ref h_this_heldOne, .ref h_this_trace, .int x_this_traced, .int x_this_own, .int x_this_isParted]), (h_this_s, ia G 313 f_this_s)] [(0, .ref h_this), (1, .int v1), (2, .int v2)] := by
    intro n
    induction n with
    | zero =>
      intro v1 v2 hf
      replace hf : (none : Option _) = some _ := hf
      cases hf
    | succ n ih =>
      intro v1 v2 hf
      rw [f_X9_onRock_L4] at hf
      refine hK1 _ _ _ _ (fun H locs ls h hl => ?_)
      refine lv_iload_n hx hb dX9_onRock_4 rfl (lv_at hl 2 rfl) ?_
      refine lv_aload_n hx hb dX9_onRock_5 rfl (lv_at hl 0 rfl) ?_
      refine r_get C h fk_X9_9 0 rfl rfl dX9_onRock_6 ?_
      refine lv_iconst (v := (4 : Int32)) hx hb dX9_onRock_9 rfl ?_
      refine r_ialdL C h 1 rfl (vlit rfl) 4 rfl dX9_onRock_10 ?_
      refine lv_icmp_ge (tgt := 36) hx hb dX9_onRock_11 rfl (fun c1 => ?_) (fun c1 => ?_)
      · replace hf := ifp c1 hf
        refine lv_iload_n hx hb dX9_onRock_36 rfl (lv_at hl 1 rfl) ?_
        cases hf
        exact r_iret C h hr hlk rfl dX9_onRock_37
      · replace hf := ifn c1 hf
        refine lv_iload_n hx hb dX9_onRock_14 rfl (lv_at hl 1 rfl) ?_
        refine lv_aload_n hx hb dX9_onRock_15 rfl (lv_at hl 0 rfl) ?_
        refine lv_iload_n hx hb dX9_onRock_16 rfl (lv_at hl 2 rfl) ?_
        replace hf := bd1_inv hf
        obtain ⟨r2, hc3, hf⟩ := hf
        refine r_ciV0 C h (c_X9_isOnRock hc3) mv_X9_108 rfl 0 rfl [0, 1] rfl rfl hl.1 rfl (Nat.le_of_ble_eq_true rfl) (rok (by decide)) dX9_onRock_17 (fun H locs h => ?_)
        refine lv_if_eq (tgt := 27) hx hb dX9_onRock_20 rfl (fun c4 => ?_) (fun c4 => ?_)
        · replace hf := ifp c4 hf
          refine lv_iconst (v := (0 : Int32)) hx hb dX9_onRock_27 rfl ?_
          refine lv_iadd hx hb dX9_onRock_28 ?_
          refine lv_topi (fun t5 et5 => ?_)
          replace hf := lt1_inv et5 hf
          refine lv_istore_n (lv' := [(1, .int t5), (0, .ref h_this), (2, .int v2)]) hx hb dX9_onRock_29 rfl hl (by decide) rfl (fun ls hl => ?_)
          obtain ⟨t6, et6⟩ : ∃ y : Int32, y = v2 + (1 : Int32) := ⟨_, rfl⟩
          replace hf := lt1_inv et6 hf
          refine lv_iinc (v := t6) (lv' := [(2, .int t6), (1, .int t5), (0, .ref h_this)]) hx hb dX9_onRock_30 hl (k := 2) rfl (by rw [et6]; rfl) (by decide) rfl (fun ls hl => ?_)
          refine lv_goto (tgt := 4) hx hb dX9_onRock_33 rfl ?_
          exact hK2 _ _ _ _ (ih t5 t6 hf) _ _ _ h (lv_sub hl [2, 1, 0] rfl)
        · replace hf := ifn c4 hf
          refine lv_iconst (v := (1 : Int32)) hx hb dX9_onRock_23 rfl ?_
          refine lv_goto (tgt := 28) hx hb dX9_onRock_24 rfl ?_
          refine lv_iadd hx hb dX9_onRock_28 ?_
          refine lv_topi (fun t7 et7 => ?_)
          replace hf := lt1_inv et7 hf
          refine lv_istore_n (lv' := [(1, .int t7), (0, .ref h_this), (2, .int v2)]) hx hb dX9_onRock_29 rfl hl (by decide) rfl (fun ls hl => ?_)
          obtain ⟨t8, et8⟩ : ∃ y : Int32, y = v2 + (1 : Int32) := ⟨_, rfl⟩
          replace hf := lt1_inv et8 hf
          refine lv_iinc (v := t8) (lv' := [(2, .int t8), (1, .int t7), (0, .ref h_this)]) hx hb dX9_onRock_30 hl (k := 2) rfl (by rw [et8]; rfl) (by decide) rfl (fun ls hl => ?_)
          refine lv_goto (tgt := 4) hx hb dX9_onRock_33 rfl ?_
          exact hK2 _ _ _ _ (ih t7 t8 hf) _ _ _ h (lv_sub hl [2, 1, 0] rfl)
  refine lv_iconst (v := (0 : Int32)) hx hb dX9_onRock_0 rfl ?_
  refine lv_istore_n (lv' := [(1, .int (0 : Int32)), (0, .ref h_this)]) hx hb dX9_onRock_1 rfl hl (by decide) rfl (fun ls hl => ?_)
  refine lv_iconst (v := (0 : Int32)) hx hb dX9_onRock_2 rfl ?_
  refine lv_istore_n (lv' := [(2, .int (0 : Int32)), (1, .int (0 : Int32)), (0, .ref h_this)]) hx hb dX9_onRock_3 rfl hl (by decide) rfl (fun ls hl => ?_)
  exact hK2 _ _ _ _ (L4 1000 (0 : Int32) (0 : Int32) hf) _ _ _ h (lv_sub hl [2, 1, 0] rfl)
def f_X9_state (p0 : Int32) (f_this_s : Nat → Int32) : Option (Int32) := (if p0 = (0 : Int32) then some (f_this_s 0) else (if p0 = (1 : Int32) then some (f_this_s 1) else (if p0 = (2 : Int32) then some (f_this_s 2) else (if p0 = (3 : Int32) then bd1 (f_X9_isOver f_this_s) (fun r8 => (if r8 = 0 then some (0 : Int32) else some (1 : Int32))) else (if p0 = (4 : Int32) then bd1 (f_X9_those (4 : Int32) f_this_s) (fun r11 => some r11) else (if p0 = (5 : Int32) then bd1 (f_X9_lightNow f_this_s) (fun r13 => some r13) else (if p0 = (6 : Int32) then bd1 (f_X9_onRock f_this_s) (fun r15 => some r15) else some (-1 : Int32))))))))
set_option maxRecDepth 100000 in
set_option maxHeartbeats 4000000 in
theorem c_X9_state {l : Launch} {G : Gt} {h_this h_this_s h_this_kept h_this_laid h_this_pile h_this_tape h_this_letters h_this_code0 h_this_read h_this_saved h_this_plan h_this_bestPlan h_this_offThen h_this_paidThen h_this_rows h_this_sorts h_this_sizes h_this_number h_this_holds h_this_heldOne h_this_trace : Nat} {p0 : Int32} {x_this_isKept : Int32} {x_this_taped : Int32} {x_this_at : Int32} {x_this_begun : Int32} {x_this_token : Int32} {x_this_value : Int32} {x_this_opened : Int32} {x_this_steps : Int32} {x_this_most : Int32} {x_this_many : Int32} {x_this_few : Int32} {x_this_everHome : Int32} {x_this_firstFit : Int32} {x_this_rowMany : Int32} {x_this_traced : Int32} {x_this_own : Int32} {x_this_isParted : Int32} {f_this_s : Nat → Int32} {r : Int32} (hf : f_X9_state p0 f_this_s = some r) : mFi l G yX9_state cX9_state 2 .int 3 [.ref h_this, .int p0] [(h_this, ob 9 [.ref h_this_s, .ref h_this_kept, .ref h_this_laid, .int x_this_isKept, .ref h_this_pile, .ref h_this_tape, .int x_this_taped, .ref h_this_letters, .int x_this_at, .int x_this_begun, .int x_this_token, .int x_this_value, .int x_this_opened, .int x_this_steps, .ref h_this_code0, .ref h_this_read, .ref h_this_saved, .ref h_this_plan, .ref h_this_bestPlan, .int x_this_most, .int x_this_many, .int x_this_few, .int x_this_everHome, .ref h_this_offThen, .ref h_this_paidThen, .int x_this_firstFit, .ref h_this_rows, .int x_this_rowMany, .ref h_this_sorts, .ref h_this_sizes, .ref h_this_number, .ref h_this_holds, .ref h_this_heldOne, .ref h_this_trace, .int x_this_traced, .int x_this_own, .int x_this_isParted]), (h_this_s, ia G 313 f_this_s)] r [(h_this, ob 9 [.ref h_this_s, .ref h_this_kept, .ref h_this_laid, .int x_this_isKept, .ref h_this_pile, .ref h_this_tape, .int x_this_taped, .ref h_this_letters, .int x_this_at, .int x_this_begun, .int x_this_token, .int x_this_value, .int x_this_opened, .int x_this_steps, .ref h_this_code0, .ref h_this_read, .ref h_this_saved, .ref h_this_plan, .ref h_this_bestPlan, .int x_this_most, .int x_this_many, .int x_this_few, .int x_this_everHome, .ref h_this_offThen, .ref h_this_paidThen, .int x_this_firstFit, .ref h_this_rows, .int x_this_rowMany, .ref h_this_sorts, .ref h_this_sizes, .ref h_this_number, .ref h_this_holds, .ref h_this_heldOne, .ref h_this_trace, .int x_this_traced, .int x_this_own, .int x_this_isParted]), (h_this_s, ia G 313 f_this_s)] := by
  refine mFi.of (by decide +kernel) (Nat.le_of_ble_eq_true rfl) ?_
  intro p e s m below meth c A C hr hlk h ls hl
  obtain ⟨hx, hb, hml, hown, hts⟩ := id C
  replace hl : lv_has ls 2 [(0, .ref h_this), (1, .int p0)] := hl
  unfold f_X9_state at hf
  refine lv_iload_n hx hb dX9_state_0 rfl (lv_at hl 1 rfl) ?_
  by_cases c1 : p0 = (0 : Int32)
  · replace hf := ifp c1 hf
    refine r_tab (tgt := 44) C dX9_state_1 (0 : Int32) c1 (by decide) rfl rfl ?_
    refine lv_aload_n hx hb dX9_state_44 rfl (lv_at hl 0 rfl) ?_
    refine r_get C h fk_X9_9 0 rfl rfl dX9_state_45 ?_
    refine lv_iconst (v := (0 : Int32)) hx hb dX9_state_48 rfl ?_
    refine r_ialdL C h 1 rfl (vlit rfl) 0 rfl dX9_state_49 ?_
    cases hf
    exact r_iret C h hr hlk rfl dX9_state_50
  · replace hf := ifn c1 hf
    by_cases c2 : p0 = (1 : Int32)
    · replace hf := ifp c2 hf
      refine r_tab (tgt := 51) C dX9_state_1 (1 : Int32) c2 (by decide) rfl rfl ?_
      refine lv_aload_n hx hb dX9_state_51 rfl (lv_at hl 0 rfl) ?_
      refine r_get C h fk_X9_9 0 rfl rfl dX9_state_52 ?_
      refine lv_iconst (v := (1 : Int32)) hx hb dX9_state_55 rfl ?_
      refine r_ialdL C h 1 rfl (vlit rfl) 1 rfl dX9_state_56 ?_
      cases hf
      exact r_iret C h hr hlk rfl dX9_state_57
    · replace hf := ifn c2 hf
      by_cases c3 : p0 = (2 : Int32)
      · replace hf := ifp c3 hf
        refine r_tab (tgt := 58) C dX9_state_1 (2 : Int32) c3 (by decide) rfl rfl ?_
        refine lv_aload_n hx hb dX9_state_58 rfl (lv_at hl 0 rfl) ?_
        refine r_get C h fk_X9_9 0 rfl rfl dX9_state_59 ?_
        refine lv_iconst (v := (2 : Int32)) hx hb dX9_state_62 rfl ?_
        refine r_ialdL C h 1 rfl (vlit rfl) 2 rfl dX9_state_63 ?_
        cases hf
        exact r_iret C h hr hlk rfl dX9_state_64
      · replace hf := ifn c3 hf
        by_cases c4 : p0 = (3 : Int32)
        · replace hf := ifp c4 hf
          refine r_tab (tgt := 65) C dX9_state_1 (3 : Int32) c4 (by decide) rfl rfl ?_
          refine lv_aload_n hx hb dX9_state_65 rfl (lv_at hl 0 rfl) ?_
          replace hf := bd1_inv hf
          obtain ⟨r8, hc9, hf⟩ := hf
          refine r_ciV0 C h (c_X9_isOver hc9) mv_X9_232 rfl 0 rfl [0, 1] rfl rfl hl.1 rfl (Nat.le_of_ble_eq_true rfl) (rok (by decide)) dX9_state_66 (fun H locs h => ?_)
          refine lv_if_eq (tgt := 76) hx hb dX9_state_69 rfl (fun c10 => ?_) (fun c10 => ?_)
          · replace hf := ifp c10 hf
            refine lv_iconst (v := (0 : Int32)) hx hb dX9_state_76 rfl ?_
            cases hf
            exact r_iret C h hr hlk rfl dX9_state_77
          · replace hf := ifn c10 hf
            refine lv_iconst (v := (1 : Int32)) hx hb dX9_state_72 rfl ?_
            refine lv_goto (tgt := 77) hx hb dX9_state_73 rfl ?_
            cases hf
            exact r_iret C h hr hlk rfl dX9_state_77
        · replace hf := ifn c4 hf
          by_cases c5 : p0 = (4 : Int32)
          · replace hf := ifp c5 hf
            refine r_tab (tgt := 78) C dX9_state_1 (4 : Int32) c5 (by decide) rfl rfl ?_
            refine lv_aload_n hx hb dX9_state_78 rfl (lv_at hl 0 rfl) ?_
            refine lv_iconst (v := (4 : Int32)) hx hb dX9_state_79 rfl ?_
            replace hf := bd1_inv hf
            obtain ⟨r11, hc12, hf⟩ := hf
            refine r_ciV0 C h (c_X9_those hc12) mv_X9_235 rfl 0 rfl [0, 1] rfl rfl hl.1 rfl (Nat.le_of_ble_eq_true rfl) (rok (by decide)) dX9_state_80 (fun H locs h => ?_)
            cases hf
            exact r_iret C h hr hlk rfl dX9_state_83
          · replace hf := ifn c5 hf
            by_cases c6 : p0 = (5 : Int32)
            · replace hf := ifp c6 hf
              refine r_tab (tgt := 84) C dX9_state_1 (5 : Int32) c6 (by decide) rfl rfl ?_
              refine lv_aload_n hx hb dX9_state_84 rfl (lv_at hl 0 rfl) ?_
              replace hf := bd1_inv hf
              obtain ⟨r13, hc14, hf⟩ := hf
              refine r_ciV0 C h (c_X9_lightNow hc14) mv_X9_83 rfl 0 rfl [0, 1] rfl rfl hl.1 rfl (Nat.le_of_ble_eq_true rfl) (rok (by decide)) dX9_state_85 (fun H locs h => ?_)
              cases hf
              exact r_iret C h hr hlk rfl dX9_state_88
            · replace hf := ifn c6 hf
              by_cases c7 : p0 = (6 : Int32)
              · replace hf := ifp c7 hf
                refine r_tab (tgt := 89) C dX9_state_1 (6 : Int32) c7 (by decide) rfl rfl ?_
                refine lv_aload_n hx hb dX9_state_89 rfl (lv_at hl 0 rfl) ?_
                replace hf := bd1_inv hf
                obtain ⟨r15, hc16, hf⟩ := hf
                refine r_ciV0 C h (c_X9_onRock hc16) mv_X9_217 rfl 0 rfl [0, 1] rfl rfl hl.1 rfl (Nat.le_of_ble_eq_true rfl) (rok (by decide)) dX9_state_90 (fun H locs h => ?_)
                cases hf
                exact r_iret C h hr hlk rfl dX9_state_93
              · replace hf := ifn c7 hf
                refine r_tabD (tgt := 94) C dX9_state_1 [(0 : Int32), (1 : Int32), (2 : Int32), (3 : Int32), (4 : Int32), (5 : Int32), (6 : Int32)] (by decide) (nel_c c1 (nel_c c2 (nel_c c3 (nel_c c4 (nel_c c5 (nel_c c6 (nel_c c7 nel_0))))))) rfl ?_
                refine lv_iconst (v := (-1 : Int32)) hx hb dX9_state_94 rfl ?_
                cases hf
                exact r_iret C h hr hlk rfl dX9_state_95
def f_X9_feed_L30 (p0 : Int64) (p1 : Int32) : Nat → Int32 → Int32 → (Nat → Int32) → Option (Int32 × Int32 × (Nat → Int32))
  | 0, _, _, _ => none
  | n + 1, v4, y_this_taped, g_this_tape => (if p1 ≤ v4 then some (y_this_taped, y_this_taped, g_this_tape) else lt1 (((p0 >>> (((8 : Int32) * v4).toInt64 &&& 63)) &&& (255 : Int64)).toInt32) (fun (t6 : Int32) => chkI y_this_taped 200 (lt1 (y_this_taped + (1 : Int32)) (fun (t8 : Int32) => lt1 (v4 + (1 : Int32)) (fun (t9 : Int32) => (f_X9_feed_L30 p0 p1 n) t9 t8 (upd g_this_tape y_this_taped.toNatClampNeg t6))))))
def f_X9_feed (p0 : Int64) (p1 : Int32) (x_this_taped : Int32) (f_this_tape : Nat → Int32) : Option (Int32 × Int32 × (Nat → Int32)) := bd1 (f_X9_in1 p1 (1 : Int32) (8 : Int32)) (fun r1 => (if r1 = 0 then some ((-1 : Int32), x_this_taped, f_this_tape) else (if (x_this_taped + p1) ≤ (200 : Int32) then f_X9_feed_L30 p0 p1 1000 (0 : Int32) x_this_taped f_this_tape else some ((-2 : Int32), x_this_taped, f_this_tape))))
set_option maxRecDepth 100000 in
set_option maxHeartbeats 4000000 in
theorem c_X9_feed {l : Launch} {G : Gt} {h_this h_this_s h_this_kept h_this_laid h_this_pile h_this_tape h_this_letters h_this_code0 h_this_read h_this_saved h_this_plan h_this_bestPlan h_this_offThen h_this_paidThen h_this_rows h_this_sorts h_this_sizes h_this_number h_this_holds h_this_heldOne h_this_trace : Nat} {p0 : Int64} {p1 : Int32} {x_this_isKept : Int32} {x_this_taped : Int32} {x_this_at : Int32} {x_this_begun : Int32} {x_this_token : Int32} {x_this_value : Int32} {x_this_opened : Int32} {x_this_steps : Int32} {x_this_most : Int32} {x_this_many : Int32} {x_this_few : Int32} {x_this_everHome : Int32} {x_this_firstFit : Int32} {x_this_rowMany : Int32} {x_this_traced : Int32} {x_this_own : Int32} {x_this_isParted : Int32} {f_this_tape : Nat → Int32} {r : Int32} {m_this_taped : Int32} {m_this_tape : Nat → Int32} (hf : f_X9_feed p0 p1 x_this_taped f_this_tape = some (r, m_this_taped, m_this_tape)) : mFi l G yX9_feed cX9_feed 5 .int 1 [.ref h_this, .long p0, .int p1] [(h_this, ob 9 [.ref h_this_s, .ref h_this_kept, .ref h_this_laid, .int x_this_isKept, .ref h_this_pile, .ref h_this_tape, .int x_this_taped, .ref h_this_letters, .int x_this_at, .int x_this_begun, .int x_this_token, .int x_this_value, .int x_this_opened, .int x_this_steps, .ref h_this_code0, .ref h_this_read, .ref h_this_saved, .ref h_this_plan, .ref h_this_bestPlan, .int x_this_most, .int x_this_many, .int x_this_few, .int x_this_everHome, .ref h_this_offThen, .ref h_this_paidThen, .int x_this_firstFit, .ref h_this_rows, .int x_this_rowMany, .ref h_this_sorts, .ref h_this_sizes, .ref h_this_number, .ref h_this_holds, .ref h_this_heldOne, .ref h_this_trace, .int x_this_traced, .int x_this_own, .int x_this_isParted]), (h_this_tape, ia G 200 f_this_tape)] r [(h_this, ob 9 [.ref h_this_s, .ref h_this_kept, .ref h_this_laid, .int x_this_isKept, .ref h_this_pile, .ref h_this_tape, .int m_this_taped, .ref h_this_letters, .int x_this_at, .int x_this_begun, .int x_this_token, .int x_this_value, .int x_this_opened, .int x_this_steps, .ref h_this_code0, .ref h_this_read, .ref h_this_saved, .ref h_this_plan, .ref h_this_bestPlan, .int x_this_most, .int x_this_many, .int x_this_few, .int x_this_everHome, .ref h_this_offThen, .ref h_this_paidThen, .int x_this_firstFit, .ref h_this_rows, .int x_this_rowMany, .ref h_this_sorts, .ref h_this_sizes, .ref h_this_number, .ref h_this_holds, .ref h_this_heldOne, .ref h_this_trace, .int x_this_traced, .int x_this_own, .int x_this_isParted]), (h_this_tape, ia G 200 m_this_tape)] := by
  refine mFi.of (by decide +kernel) (Nat.le_of_ble_eq_true rfl) ?_
  intro p e s m below meth c A C hr hlk h ls hl
  obtain ⟨hx, hb, hml, hown, hts⟩ := id C
  replace hl : lv_has ls 5 [(0, .ref h_this), (1, .long p0), (3, .int p1)] := hl
  unfold f_X9_feed at hf
  refine with_K G A 5 (fun K hK1 hK2 => ?_)
  have L30 : ∀ (n : Nat) (v4 : Int32) (y_this_taped : Int32) (g_this_tape : Nat → Int32), f_X9_feed_L30 p0 p1 n v4 y_this_taped g_this_tape = some (r, m_this_taped, m_this_tape) → K 30 ([] : List Value) [(h_this, ob 9 [.ref h_this_s, .ref h_this_kept, .ref h_this_laid, .int x_this_isKept, .ref h_this_pile, .ref h_this_tape, .int y_this_taped, .ref h_this_letters, .int x_this_at, .int x_this_begun, .int x_this_token, .int x_this_value, .int x_this_opened, .int x_this_steps, .ref h_this_code0, .ref h_this_read, .ref h_this_saved, .ref h_this_plan, .ref h_this_bestPlan, .int x_this_most, .int x_this_many, .int x_this_few, .int x_this_everHome, .ref h_this_offThen, .ref h_this_paidThen, .int x_this_firstFit, .ref h_this_rows, .int x_this_rowMany, .ref h_this_sorts, .ref h_this_sizes, .ref h_this_number, .ref h_this_holds, .ref h_this_heldOne, .ref h_this_trace, .int x_this_traced, .int x_this_own, .int x_this_isParted]), (h_this_tape, ia G 200 g_this_tape)] [(0, .ref h_this), (1, .long p0), (3, .int p1), (4, .int v4)] := by
    intro n
    induction n with
    | zero =>
      intro v4 y_this_taped g_this_tape hf
      replace hf : (none : Option _) = some _ := hf
      cases hf
    | succ n ih =>
      intro v4 y_this_taped g_this_tape hf
      rw [f_X9_feed_L30] at hf
      refine hK1 _ _ _ _ (fun H locs ls h hl => ?_)
      refine lv_iload hx hb dX9_feed_30 (lv_at hl 3 rfl) ?_
      refine lv_iload_n hx hb dX9_feed_32 rfl (lv_at hl 2 rfl) ?_
      refine lv_icmp_ge (tgt := 73) hx hb dX9_feed_33 rfl (fun c5 => ?_) (fun c5 => ?_)
      · replace hf := ifp c5 hf
        refine lv_aload_n hx hb dX9_feed_73 rfl (lv_at hl 0 rfl) ?_
        refine r_get C h fk_X9_127 0 rfl rfl dX9_feed_74 ?_
        cases hf
        exact r_iret C h hr hlk rfl dX9_feed_77
      · replace hf := ifn c5 hf
        refine lv_aload_n hx hb dX9_feed_36 rfl (lv_at hl 0 rfl) ?_
        refine r_get C h fk_X9_22 0 rfl rfl dX9_feed_37 ?_
        refine lv_aload_n hx hb dX9_feed_40 rfl (lv_at hl 0 rfl) ?_
        refine r_get C h fk_X9_127 0 rfl rfl dX9_feed_41 ?_
        refine lv_lload_n hx hb dX9_feed_44 rfl (lv_at hl 1 rfl) ?_
        refine lv_bipush (v := (8 : Int32)) hx hb dX9_feed_45 rfl ?_
        refine lv_iload hx hb dX9_feed_47 (lv_at hl 3 rfl) ?_
        refine lv_imul hx hb dX9_feed_49 ?_
        refine lv_lshr hx hb dX9_feed_50 rfl ?_
        refine lv_ldc2 hx hb hown (hts _ cw_X9_190) dX9_feed_51 ?_
        refine lv_land hx hb dX9_feed_54 ?_
        refine lv_l2i hx hb dX9_feed_55 rfl ?_
        refine lv_topi (fun t6 et6 => ?_)
        replace hf := lt1_inv et6 hf
        replace hf := chkI_inv hf
        obtain ⟨hi7, hf⟩ := hf
        refine r_iast (ws' := [(h_this, ob 9 [.ref h_this_s, .ref h_this_kept, .ref h_this_laid, .int x_this_isKept, .ref h_this_pile, .ref h_this_tape, .int y_this_taped, .ref h_this_letters, .int x_this_at, .int x_this_begun, .int x_this_token, .int x_this_value, .int x_this_opened, .int x_this_steps, .ref h_this_code0, .ref h_this_read, .ref h_this_saved, .ref h_this_plan, .ref h_this_bestPlan, .int x_this_most, .int x_this_many, .int x_this_few, .int x_this_everHome, .ref h_this_offThen, .ref h_this_paidThen, .int x_this_firstFit, .ref h_this_rows, .int x_this_rowMany, .ref h_this_sorts, .ref h_this_sizes, .ref h_this_number, .ref h_this_holds, .ref h_this_heldOne, .ref h_this_trace, .int x_this_traced, .int x_this_own, .int x_this_isParted]), (h_this_tape, ia G 200 (upd g_this_tape y_this_taped.toNatClampNeg t6))]) C h 1 rfl hi7 dX9_feed_56 rfl (fun H locs h => ?_)
        refine lv_aload_n hx hb dX9_feed_57 rfl (lv_at hl 0 rfl) ?_
        refine lv_dup hx hb dX9_feed_58 rfl ?_
        refine r_get C h fk_X9_127 0 rfl rfl dX9_feed_59 ?_
        refine lv_iconst (v := (1 : Int32)) hx hb dX9_feed_62 rfl ?_
        refine lv_iadd hx hb dX9_feed_63 ?_
        refine lv_topi (fun t8 et8 => ?_)
        replace hf := lt1_inv et8 hf
        refine r_put (ws' := [(h_this, ob 9 [.ref h_this_s, .ref h_this_kept, .ref h_this_laid, .int x_this_isKept, .ref h_this_pile, .ref h_this_tape, .int t8, .ref h_this_letters, .int x_this_at, .int x_this_begun, .int x_this_token, .int x_this_value, .int x_this_opened, .int x_this_steps, .ref h_this_code0, .ref h_this_read, .ref h_this_saved, .ref h_this_plan, .ref h_this_bestPlan, .int x_this_most, .int x_this_many, .int x_this_few, .int x_this_everHome, .ref h_this_offThen, .ref h_this_paidThen, .int x_this_firstFit, .ref h_this_rows, .int x_this_rowMany, .ref h_this_sorts, .ref h_this_sizes, .ref h_this_number, .ref h_this_holds, .ref h_this_heldOne, .ref h_this_trace, .int x_this_traced, .int x_this_own, .int x_this_isParted]), (h_this_tape, ia G 200 (upd g_this_tape y_this_taped.toNatClampNeg t6))]) C h fw_X9_127 0 rfl rfl rfl (Nat.le_of_ble_eq_true rfl) dX9_feed_64 rfl (fun H locs h => ?_)
        obtain ⟨t9, et9⟩ : ∃ y : Int32, y = v4 + (1 : Int32) := ⟨_, rfl⟩
        replace hf := lt1_inv et9 hf
        refine lv_iinc (v := t9) (lv' := [(4, .int t9), (0, .ref h_this), (1, .long p0), (3, .int p1)]) hx hb dX9_feed_67 hl (k := 3) rfl (by rw [et9]; rfl) (by decide) rfl (fun ls hl => ?_)
        refine lv_goto (tgt := 30) hx hb dX9_feed_70 rfl ?_
        exact hK2 _ _ _ _ (ih t9 t8 (upd g_this_tape y_this_taped.toNatClampNeg t6) hf) _ _ _ h (lv_sub hl [1, 2, 3, 0] rfl)
  refine lv_iload_n hx hb dX9_feed_0 rfl (lv_at hl 2 rfl) ?_
  refine lv_iconst (v := (1 : Int32)) hx hb dX9_feed_1 rfl ?_
  refine lv_bipush (v := (8 : Int32)) hx hb dX9_feed_2 rfl ?_
  replace hf := bd1_inv hf
  obtain ⟨r1, hc2, hf⟩ := hf
  refine r_ciS0 C h (c_X9_in1 hc2) ms_X9_71 rfl [] rfl rfl hl.1 rfl (Nat.le_of_ble_eq_true rfl) (rok (by decide)) dX9_feed_4 (fun H locs h => ?_)
  refine lv_if_ne (tgt := 12) hx hb dX9_feed_7 rfl (fun c3 => ?_) (fun c3 => ?_)
  · replace hf := ifn c3 hf
    refine lv_aload_n hx hb dX9_feed_12 rfl (lv_at hl 0 rfl) ?_
    refine r_get C h fk_X9_127 0 rfl rfl dX9_feed_13 ?_
    refine lv_iload_n hx hb dX9_feed_16 rfl (lv_at hl 2 rfl) ?_
    refine lv_iadd hx hb dX9_feed_17 ?_
    refine lv_sipush (v := (200 : Int32)) hx hb dX9_feed_18 rfl ?_
    refine lv_icmp_le (tgt := 27) hx hb dX9_feed_21 rfl (fun c4 => ?_) (fun c4 => ?_)
    · replace hf := ifp c4 hf
      refine lv_iconst (v := (0 : Int32)) hx hb dX9_feed_27 rfl ?_
      refine lv_istore (lv' := [(4, .int (0 : Int32)), (0, .ref h_this), (1, .long p0), (3, .int p1)]) hx hb dX9_feed_28 hl (by decide) rfl (fun ls hl => ?_)
      exact hK2 _ _ _ _ (L30 1000 (0 : Int32) x_this_taped f_this_tape hf) _ _ _ h (lv_sub hl [1, 2, 3, 0] rfl)
    · replace hf := ifn c4 hf
      refine lv_bipush (v := (-2 : Int32)) hx hb dX9_feed_24 rfl ?_
      cases hf
      exact r_iret C h hr hlk rfl dX9_feed_26
  · replace hf := ifp c3 hf
    refine lv_iconst (v := (-1 : Int32)) hx hb dX9_feed_10 rfl ?_
    cases hf
    exact r_iret C h hr hlk rfl dX9_feed_11
def f_X9_byteAt (p0 : Int32) (x_this_taped : Int32) (f_this_tape : Nat → Int32) : Option (Int32) := (if x_this_taped ≤ p0 then some (-1 : Int32) else chkI p0 200 (some (f_this_tape p0.toNatClampNeg)))
set_option maxRecDepth 100000 in
set_option maxHeartbeats 4000000 in
theorem c_X9_byteAt {l : Launch} {G : Gt} {h_this h_this_s h_this_kept h_this_laid h_this_pile h_this_tape h_this_letters h_this_code0 h_this_read h_this_saved h_this_plan h_this_bestPlan h_this_offThen h_this_paidThen h_this_rows h_this_sorts h_this_sizes h_this_number h_this_holds h_this_heldOne h_this_trace : Nat} {p0 : Int32} {x_this_isKept : Int32} {x_this_taped : Int32} {x_this_at : Int32} {x_this_begun : Int32} {x_this_token : Int32} {x_this_value : Int32} {x_this_opened : Int32} {x_this_steps : Int32} {x_this_most : Int32} {x_this_many : Int32} {x_this_few : Int32} {x_this_everHome : Int32} {x_this_firstFit : Int32} {x_this_rowMany : Int32} {x_this_traced : Int32} {x_this_own : Int32} {x_this_isParted : Int32} {f_this_tape : Nat → Int32} {r : Int32} (hf : f_X9_byteAt p0 x_this_taped f_this_tape = some r) : mFi l G yX9_byteAt cX9_byteAt 2 .int 0 [.ref h_this, .int p0] [(h_this, ob 9 [.ref h_this_s, .ref h_this_kept, .ref h_this_laid, .int x_this_isKept, .ref h_this_pile, .ref h_this_tape, .int x_this_taped, .ref h_this_letters, .int x_this_at, .int x_this_begun, .int x_this_token, .int x_this_value, .int x_this_opened, .int x_this_steps, .ref h_this_code0, .ref h_this_read, .ref h_this_saved, .ref h_this_plan, .ref h_this_bestPlan, .int x_this_most, .int x_this_many, .int x_this_few, .int x_this_everHome, .ref h_this_offThen, .ref h_this_paidThen, .int x_this_firstFit, .ref h_this_rows, .int x_this_rowMany, .ref h_this_sorts, .ref h_this_sizes, .ref h_this_number, .ref h_this_holds, .ref h_this_heldOne, .ref h_this_trace, .int x_this_traced, .int x_this_own, .int x_this_isParted]), (h_this_tape, ia G 200 f_this_tape)] r [(h_this, ob 9 [.ref h_this_s, .ref h_this_kept, .ref h_this_laid, .int x_this_isKept, .ref h_this_pile, .ref h_this_tape, .int x_this_taped, .ref h_this_letters, .int x_this_at, .int x_this_begun, .int x_this_token, .int x_this_value, .int x_this_opened, .int x_this_steps, .ref h_this_code0, .ref h_this_read, .ref h_this_saved, .ref h_this_plan, .ref h_this_bestPlan, .int x_this_most, .int x_this_many, .int x_this_few, .int x_this_everHome, .ref h_this_offThen, .ref h_this_paidThen, .int x_this_firstFit, .ref h_this_rows, .int x_this_rowMany, .ref h_this_sorts, .ref h_this_sizes, .ref h_this_number, .ref h_this_holds, .ref h_this_heldOne, .ref h_this_trace, .int x_this_traced, .int x_this_own, .int x_this_isParted]), (h_this_tape, ia G 200 f_this_tape)] := by
  refine mFi.of (by decide +kernel) (Nat.le_of_ble_eq_true rfl) ?_
  intro p e s m below meth c A C hr hlk h ls hl
  obtain ⟨hx, hb, hml, hown, hts⟩ := id C
  replace hl : lv_has ls 2 [(0, .ref h_this), (1, .int p0)] := hl
  unfold f_X9_byteAt at hf
  refine lv_iload_n hx hb dX9_byteAt_0 rfl (lv_at hl 1 rfl) ?_
  refine lv_aload_n hx hb dX9_byteAt_1 rfl (lv_at hl 0 rfl) ?_
  refine r_get C h fk_X9_127 0 rfl rfl dX9_byteAt_2 ?_
  refine lv_icmp_ge (tgt := 17) hx hb dX9_byteAt_5 rfl (fun c1 => ?_) (fun c1 => ?_)
  · replace hf := ifp c1 hf
    refine lv_iconst (v := (-1 : Int32)) hx hb dX9_byteAt_17 rfl ?_
    cases hf
    exact r_iret C h hr hlk rfl dX9_byteAt_18
  · replace hf := ifn c1 hf
    refine lv_aload_n hx hb dX9_byteAt_8 rfl (lv_at hl 0 rfl) ?_
    refine r_get C h fk_X9_22 0 rfl rfl dX9_byteAt_9 ?_
    refine lv_iload_n hx hb dX9_byteAt_12 rfl (lv_at hl 1 rfl) ?_
    replace hf := chkI_inv hf
    obtain ⟨hi2, hf⟩ := hf
    refine r_iald C h 1 rfl hi2 dX9_byteAt_13 ?_
    refine lv_goto (tgt := 18) hx hb dX9_byteAt_14 rfl ?_
    cases hf
    exact r_iret C h hr hlk rfl dX9_byteAt_18
def f_X9_isNameOf_b71 (rec22 : Int32 → Int32 → Option (Int32)) (v3 : Int32) (s0 : Int32) (s1 : Int32) : Option (Int32) := (if s0 = s1 then lt1 (v3 + (1 : Int32)) (fun (t10 : Int32) => rec22 (1 : Int32) t10) else lt1 (v3 + (1 : Int32)) (fun (t9 : Int32) => rec22 (0 : Int32) t9))
def f_X9_isNameOf_L22 (p0 : Int32) (x_this_taped : Int32) (x_this_at : Int32) (x_this_begun : Int32) (f_this_letters : Nat → Int32) (f_this_tape : Nat → Int32) : Nat → Int32 → Int32 → Option (Int32)
  | 0, _, _ => none
  | n + 1, v2, v3 => (if (8 : Int32) ≤ v3 then chkB v2 (some v2) else (if v2 = 0 then chkB v2 (some v2) else chkI (((8 : Int32) * p0) + v3) 144 ((if x_this_at ≤ (x_this_begun + v3) then f_X9_isNameOf_b71 (f_X9_isNameOf_L22 p0 x_this_taped x_this_at x_this_begun f_this_letters f_this_tape n) v3 (f_this_letters (((8 : Int32) * p0) + v3).toNatClampNeg) (32 : Int32) else bd1 (f_X9_byteAt (x_this_begun + v3) x_this_taped f_this_tape) (fun r11 => f_X9_isNameOf_b71 (f_X9_isNameOf_L22 p0 x_this_taped x_this_at x_this_begun f_this_letters f_this_tape n) v3 (f_this_letters (((8 : Int32) * p0) + v3).toNatClampNeg) r11)))))
def f_X9_isNameOf_b19 (p0 : Int32) (x_this_taped : Int32) (x_this_at : Int32) (x_this_begun : Int32) (f_this_letters : Nat → Int32) (f_this_tape : Nat → Int32) (s0 : Int32) : Option (Int32) := f_X9_isNameOf_L22 p0 x_this_taped x_this_at x_this_begun f_this_letters f_this_tape 1000 s0 (0 : Int32)
def f_X9_isNameOf (p0 : Int32) (x_this_taped : Int32) (x_this_at : Int32) (x_this_begun : Int32) (f_this_letters : Nat → Int32) (f_this_tape : Nat → Int32) : Option (Int32) := (if (8 : Int32) < (x_this_at - x_this_begun) then f_X9_isNameOf_b19 p0 x_this_taped x_this_at x_this_begun f_this_letters f_this_tape (0 : Int32) else f_X9_isNameOf_b19 p0 x_this_taped x_this_at x_this_begun f_this_letters f_this_tape (1 : Int32))
set_option maxRecDepth 100000 in
set_option maxHeartbeats 4000000 in
theorem c_X9_isNameOf {l : Launch} {G : Gt} {h_this h_this_s h_this_kept h_this_laid h_this_pile h_this_tape h_this_letters h_this_code0 h_this_read h_this_saved h_this_plan h_this_bestPlan h_this_offThen h_this_paidThen h_this_rows h_this_sorts h_this_sizes h_this_number h_this_holds h_this_heldOne h_this_trace : Nat} {p0 : Int32} {x_this_isKept : Int32} {x_this_taped : Int32} {x_this_at : Int32} {x_this_begun : Int32} {x_this_token : Int32} {x_this_value : Int32} {x_this_opened : Int32} {x_this_steps : Int32} {x_this_most : Int32} {x_this_many : Int32} {x_this_few : Int32} {x_this_everHome : Int32} {x_this_firstFit : Int32} {x_this_rowMany : Int32} {x_this_traced : Int32} {x_this_own : Int32} {x_this_isParted : Int32} {f_this_letters : Nat → Int32} {f_this_tape : Nat → Int32} {r : Int32} (hf : f_X9_isNameOf p0 x_this_taped x_this_at x_this_begun f_this_letters f_this_tape = some r) : mFi l G yX9_isNameOf cX9_isNameOf 4 .boolean 1 [.ref h_this, .int p0] [(h_this, ob 9 [.ref h_this_s, .ref h_this_kept, .ref h_this_laid, .int x_this_isKept, .ref h_this_pile, .ref h_this_tape, .int x_this_taped, .ref h_this_letters, .int x_this_at, .int x_this_begun, .int x_this_token, .int x_this_value, .int x_this_opened, .int x_this_steps, .ref h_this_code0, .ref h_this_read, .ref h_this_saved, .ref h_this_plan, .ref h_this_bestPlan, .int x_this_most, .int x_this_many, .int x_this_few, .int x_this_everHome, .ref h_this_offThen, .ref h_this_paidThen, .int x_this_firstFit, .ref h_this_rows, .int x_this_rowMany, .ref h_this_sorts, .ref h_this_sizes, .ref h_this_number, .ref h_this_holds, .ref h_this_heldOne, .ref h_this_trace, .int x_this_traced, .int x_this_own, .int x_this_isParted]), (h_this_letters, ca G 144 f_this_letters), (h_this_tape, ia G 200 f_this_tape)] r [(h_this, ob 9 [.ref h_this_s, .ref h_this_kept, .ref h_this_laid, .int x_this_isKept, .ref h_this_pile, .ref h_this_tape, .int x_this_taped, .ref h_this_letters, .int x_this_at, .int x_this_begun, .int x_this_token, .int x_this_value, .int x_this_opened, .int x_this_steps, .ref h_this_code0, .ref h_this_read, .ref h_this_saved, .ref h_this_plan, .ref h_this_bestPlan, .int x_this_most, .int x_this_many, .int x_this_few, .int x_this_everHome, .ref h_this_offThen, .ref h_this_paidThen, .int x_this_firstFit, .ref h_this_rows, .int x_this_rowMany, .ref h_this_sorts, .ref h_this_sizes, .ref h_this_number, .ref h_this_holds, .ref h_this_heldOne, .ref h_this_trace, .int x_this_traced, .int x_this_own, .int x_this_isParted]), (h_this_letters, ca G 144 f_this_letters), (h_this_tape, ia G 200 f_this_tape)] := by
  refine mFi.of (by decide +kernel) (Nat.le_of_ble_eq_true rfl) ?_
  intro p e s m below meth c A C hr hlk h ls hl
  obtain ⟨hx, hb, hml, hown, hts⟩ := id C
  replace hl : lv_has ls 4 [(0, .ref h_this), (1, .int p0)] := hl
  unfold f_X9_isNameOf at hf
  refine with_K G A 4 (fun K hK1 hK2 => ?_)
  have B71 : ∀ (rec22 : Int32 → Int32 → Option (Int32)) (hrec22 : ∀ (v2 : Int32) (v3 : Int32), rec22 v2 v3 = some r → K 22 ([] : List Value) [(h_this, ob 9 [.ref h_this_s, .ref h_this_kept, .ref h_this_laid, .int x_this_isKept, .ref h_this_pile, .ref h_this_tape, .int x_this_taped, .ref h_this_letters, .int x_this_at, .int x_this_begun, .int x_this_token, .int x_this_value, .int x_this_opened, .int x_this_steps, .ref h_this_code0, .ref h_this_read, .ref h_this_saved, .ref h_this_plan, .ref h_this_bestPlan, .int x_this_most, .int x_this_many, .int x_this_few, .int x_this_everHome, .ref h_this_offThen, .ref h_this_paidThen, .int x_this_firstFit, .ref h_this_rows, .int x_this_rowMany, .ref h_this_sorts, .ref h_this_sizes, .ref h_this_number, .ref h_this_holds, .ref h_this_heldOne, .ref h_this_trace, .int x_this_traced, .int x_this_own, .int x_this_isParted]), (h_this_letters, ca G 144 f_this_letters), (h_this_tape, ia G 200 f_this_tape)] [(0, .ref h_this), (1, .int p0), (2, .int v2), (3, .int v3)]) (v3 : Int32) (s0 : Int32) (s1 : Int32), f_X9_isNameOf_b71 rec22 v3 s0 s1 = some r → K 71 [.int s1, .int s0] [(h_this, ob 9 [.ref h_this_s, .ref h_this_kept, .ref h_this_laid, .int x_this_isKept, .ref h_this_pile, .ref h_this_tape, .int x_this_taped, .ref h_this_letters, .int x_this_at, .int x_this_begun, .int x_this_token, .int x_this_value, .int x_this_opened, .int x_this_steps, .ref h_this_code0, .ref h_this_read, .ref h_this_saved, .ref h_this_plan, .ref h_this_bestPlan, .int x_this_most, .int x_this_many, .int x_this_few, .int x_this_everHome, .ref h_this_offThen, .ref h_this_paidThen, .int x_this_firstFit, .ref h_this_rows, .int x_this_rowMany, .ref h_this_sorts, .ref h_this_sizes, .ref h_this_number, .ref h_this_holds, .ref h_this_heldOne, .ref h_this_trace, .int x_this_traced, .int x_this_own, .int x_this_isParted]), (h_this_letters, ca G 144 f_this_letters), (h_this_tape, ia G 200 f_this_tape)] [(0, .ref h_this), (1, .int p0), (3, .int v3)] := by
    intro rec22 hrec22 v3 s0 s1 hf
    unfold f_X9_isNameOf_b71 at hf
    refine hK1 _ _ _ _ (fun H locs ls h hl => ?_)
    refine lv_icmp_ne (tgt := 78) hx hb dX9_isNameOf_71 rfl (fun c8 => ?_) (fun c8 => ?_)
    · replace hf := ifn c8 hf
      refine lv_iconst (v := (0 : Int32)) hx hb dX9_isNameOf_78 rfl ?_
      refine lv_istore_n (lv' := [(2, .int (0 : Int32)), (0, .ref h_this), (1, .int p0), (3, .int v3)]) hx hb dX9_isNameOf_79 rfl hl (by decide) rfl (fun ls hl => ?_)
      obtain ⟨t9, et9⟩ : ∃ y : Int32, y = v3 + (1 : Int32) := ⟨_, rfl⟩
      replace hf := lt1_inv et9 hf
      refine lv_iinc (v := t9) (lv' := [(3, .int t9), (2, .int (0 : Int32)), (0, .ref h_this), (1, .int p0)]) hx hb dX9_isNameOf_80 hl (k := 3) rfl (by rw [et9]; rfl) (by decide) rfl (fun ls hl => ?_)
      refine lv_goto (tgt := 22) hx hb dX9_isNameOf_83 rfl ?_
      exact hK2 _ _ _ _ (hrec22 (0 : Int32) t9 hf) _ _ _ h (lv_sub hl [2, 3, 1, 0] rfl)
    · replace hf := ifp c8 hf
      refine lv_iconst (v := (1 : Int32)) hx hb dX9_isNameOf_74 rfl ?_
      refine lv_goto (tgt := 79) hx hb dX9_isNameOf_75 rfl ?_
      refine lv_istore_n (lv' := [(2, .int (1 : Int32)), (0, .ref h_this), (1, .int p0), (3, .int v3)]) hx hb dX9_isNameOf_79 rfl hl (by decide) rfl (fun ls hl => ?_)
      obtain ⟨t10, et10⟩ : ∃ y : Int32, y = v3 + (1 : Int32) := ⟨_, rfl⟩
      replace hf := lt1_inv et10 hf
      refine lv_iinc (v := t10) (lv' := [(3, .int t10), (2, .int (1 : Int32)), (0, .ref h_this), (1, .int p0)]) hx hb dX9_isNameOf_80 hl (k := 3) rfl (by rw [et10]; rfl) (by decide) rfl (fun ls hl => ?_)
      refine lv_goto (tgt := 22) hx hb dX9_isNameOf_83 rfl ?_
      exact hK2 _ _ _ _ (hrec22 (1 : Int32) t10 hf) _ _ _ h (lv_sub hl [2, 3, 1, 0] rfl)
  have L22 : ∀ (n : Nat) (v2 : Int32) (v3 : Int32), f_X9_isNameOf_L22 p0 x_this_taped x_this_at x_this_begun f_this_letters f_this_tape n v2 v3 = some r → K 22 ([] : List Value) [(h_this, ob 9 [.ref h_this_s, .ref h_this_kept, .ref h_this_laid, .int x_this_isKept, .ref h_this_pile, .ref h_this_tape, .int x_this_taped, .ref h_this_letters, .int x_this_at, .int x_this_begun, .int x_this_token, .int x_this_value, .int x_this_opened, .int x_this_steps, .ref h_this_code0, .ref h_this_read, .ref h_this_saved, .ref h_this_plan, .ref h_this_bestPlan, .int x_this_most, .int x_this_many, .int x_this_few, .int x_this_everHome, .ref h_this_offThen, .ref h_this_paidThen, .int x_this_firstFit, .ref h_this_rows, .int x_this_rowMany, .ref h_this_sorts, .ref h_this_sizes, .ref h_this_number, .ref h_this_holds, .ref h_this_heldOne, .ref h_this_trace, .int x_this_traced, .int x_this_own, .int x_this_isParted]), (h_this_letters, ca G 144 f_this_letters), (h_this_tape, ia G 200 f_this_tape)] [(0, .ref h_this), (1, .int p0), (2, .int v2), (3, .int v3)] := by
    intro n
    induction n with
    | zero =>
      intro v2 v3 hf
      replace hf : (none : Option _) = some _ := hf
      cases hf
    | succ n ih =>
      intro v2 v3 hf
      rw [f_X9_isNameOf_L22] at hf
      refine hK1 _ _ _ _ (fun H locs ls h hl => ?_)
      refine lv_iload_n hx hb dX9_isNameOf_22 rfl (lv_at hl 3 rfl) ?_
      refine lv_bipush (v := (8 : Int32)) hx hb dX9_isNameOf_23 rfl ?_
      refine lv_icmp_ge (tgt := 86) hx hb dX9_isNameOf_25 rfl (fun c2 => ?_) (fun c2 => ?_)
      · replace hf := ifp c2 hf
        refine lv_iload_n hx hb dX9_isNameOf_86 rfl (lv_at hl 2 rfl) ?_
        replace hf := chkB_inv hf
        obtain ⟨hb3, hf⟩ := hf
        cases hf
        exact r_iret C h hr hlk hb3 dX9_isNameOf_87
      · replace hf := ifn c2 hf
        refine lv_iload_n hx hb dX9_isNameOf_28 rfl (lv_at hl 2 rfl) ?_
        refine lv_if_eq (tgt := 86) hx hb dX9_isNameOf_29 rfl (fun c4 => ?_) (fun c4 => ?_)
        · replace hf := ifp c4 hf
          refine lv_iload_n hx hb dX9_isNameOf_86 rfl (lv_at hl 2 rfl) ?_
          replace hf := chkB_inv hf
          obtain ⟨hb5, hf⟩ := hf
          cases hf
          exact r_iret C h hr hlk hb5 dX9_isNameOf_87
        · replace hf := ifn c4 hf
          refine lv_aload_n hx hb dX9_isNameOf_32 rfl (lv_at hl 0 rfl) ?_
          refine r_get C h fk_X9_25 0 rfl rfl dX9_isNameOf_33 ?_
          refine lv_bipush (v := (8 : Int32)) hx hb dX9_isNameOf_36 rfl ?_
          refine lv_iload_n hx hb dX9_isNameOf_38 rfl (lv_at hl 1 rfl) ?_
          refine lv_imul hx hb dX9_isNameOf_39 ?_
          refine lv_iload_n hx hb dX9_isNameOf_40 rfl (lv_at hl 3 rfl) ?_
          refine lv_iadd hx hb dX9_isNameOf_41 ?_
          replace hf := chkI_inv hf
          obtain ⟨hi6, hf⟩ := hf
          refine r_cald C h 1 rfl hi6 dX9_isNameOf_42 ?_
          refine lv_aload_n hx hb dX9_isNameOf_43 rfl (lv_at hl 0 rfl) ?_
          refine r_get C h fk_X9_134 0 rfl rfl dX9_isNameOf_44 ?_
          refine lv_iload_n hx hb dX9_isNameOf_47 rfl (lv_at hl 3 rfl) ?_
          refine lv_iadd hx hb dX9_isNameOf_48 ?_
          refine lv_aload_n hx hb dX9_isNameOf_49 rfl (lv_at hl 0 rfl) ?_
          refine r_get C h fk_X9_131 0 rfl rfl dX9_isNameOf_50 ?_
          refine lv_icmp_ge (tgt := 69) hx hb dX9_isNameOf_53 rfl (fun c7 => ?_) (fun c7 => ?_)
          · replace hf := ifp c7 hf
            refine lv_bipush (v := (32 : Int32)) hx hb dX9_isNameOf_69 rfl ?_
            exact hK2 _ _ _ _ (B71 _ ih v3 (f_this_letters (((8 : Int32) * p0) + v3).toNatClampNeg) (32 : Int32) hf) _ _ _ h (lv_sub hl [0, 1, 3] rfl)
          · replace hf := ifn c7 hf
            refine lv_aload_n hx hb dX9_isNameOf_56 rfl (lv_at hl 0 rfl) ?_
            refine lv_aload_n hx hb dX9_isNameOf_57 rfl (lv_at hl 0 rfl) ?_
            refine r_get C h fk_X9_134 0 rfl rfl dX9_isNameOf_58 ?_
            refine lv_iload_n hx hb dX9_isNameOf_61 rfl (lv_at hl 3 rfl) ?_
            refine lv_iadd hx hb dX9_isNameOf_62 ?_
            replace hf := bd1_inv hf
            obtain ⟨r11, hc12, hf⟩ := hf
            refine r_ciV0 C h (c_X9_byteAt hc12) mv_X9_137 rfl 0 rfl [0, 2] rfl rfl hl.1 rfl (Nat.le_of_ble_eq_true rfl) (rok (by decide)) dX9_isNameOf_63 (fun H locs h => ?_)
            refine lv_goto (tgt := 71) hx hb dX9_isNameOf_66 rfl ?_
            exact hK2 _ _ _ _ (B71 _ ih v3 (f_this_letters (((8 : Int32) * p0) + v3).toNatClampNeg) r11 hf) _ _ _ h (lv_sub hl [0, 1, 3] rfl)
  have B19 : ∀ (s0 : Int32), f_X9_isNameOf_b19 p0 x_this_taped x_this_at x_this_begun f_this_letters f_this_tape s0 = some r → K 19 [.int s0] [(h_this, ob 9 [.ref h_this_s, .ref h_this_kept, .ref h_this_laid, .int x_this_isKept, .ref h_this_pile, .ref h_this_tape, .int x_this_taped, .ref h_this_letters, .int x_this_at, .int x_this_begun, .int x_this_token, .int x_this_value, .int x_this_opened, .int x_this_steps, .ref h_this_code0, .ref h_this_read, .ref h_this_saved, .ref h_this_plan, .ref h_this_bestPlan, .int x_this_most, .int x_this_many, .int x_this_few, .int x_this_everHome, .ref h_this_offThen, .ref h_this_paidThen, .int x_this_firstFit, .ref h_this_rows, .int x_this_rowMany, .ref h_this_sorts, .ref h_this_sizes, .ref h_this_number, .ref h_this_holds, .ref h_this_heldOne, .ref h_this_trace, .int x_this_traced, .int x_this_own, .int x_this_isParted]), (h_this_letters, ca G 144 f_this_letters), (h_this_tape, ia G 200 f_this_tape)] [(0, .ref h_this), (1, .int p0)] := by
    intro s0 hf
    unfold f_X9_isNameOf_b19 at hf
    refine hK1 _ _ _ _ (fun H locs ls h hl => ?_)
    refine lv_istore_n (lv' := [(2, .int s0), (0, .ref h_this), (1, .int p0)]) hx hb dX9_isNameOf_19 rfl hl (by decide) rfl (fun ls hl => ?_)
    refine lv_iconst (v := (0 : Int32)) hx hb dX9_isNameOf_20 rfl ?_
    refine lv_istore_n (lv' := [(3, .int (0 : Int32)), (2, .int s0), (0, .ref h_this), (1, .int p0)]) hx hb dX9_isNameOf_21 rfl hl (by decide) rfl (fun ls hl => ?_)
    exact hK2 _ _ _ _ (L22 1000 s0 (0 : Int32) hf) _ _ _ h (lv_sub hl [2, 3, 1, 0] rfl)
  refine lv_aload_n hx hb dX9_isNameOf_0 rfl (lv_at hl 0 rfl) ?_
  refine r_get C h fk_X9_131 0 rfl rfl dX9_isNameOf_1 ?_
  refine lv_aload_n hx hb dX9_isNameOf_4 rfl (lv_at hl 0 rfl) ?_
  refine r_get C h fk_X9_134 0 rfl rfl dX9_isNameOf_5 ?_
  refine lv_isub hx hb dX9_isNameOf_8 ?_
  refine lv_bipush (v := (8 : Int32)) hx hb dX9_isNameOf_9 rfl ?_
  refine lv_icmp_gt (tgt := 18) hx hb dX9_isNameOf_11 rfl (fun c1 => ?_) (fun c1 => ?_)
  · replace hf := ifp c1 hf
    refine lv_iconst (v := (0 : Int32)) hx hb dX9_isNameOf_18 rfl ?_
    exact hK2 _ _ _ _ (B19 (0 : Int32) hf) _ _ _ h (lv_sub hl [0, 1] rfl)
  · replace hf := ifn c1 hf
    refine lv_iconst (v := (1 : Int32)) hx hb dX9_isNameOf_14 rfl ?_
    refine lv_goto (tgt := 19) hx hb dX9_isNameOf_15 rfl ?_
    exact hK2 _ _ _ _ (B19 (1 : Int32) hf) _ _ _ h (lv_sub hl [0, 1] rfl)
def f_X9_readsName_L39 (x_this_taped : Int32) (x_this_begun : Int32) (f_this_letters : Nat → Int32) (f_this_tape : Nat → Int32) : Nat → Int32 → Int32 → Int32 → Option (Int32 × Int32)
  | 0, _, _, _ => none
  | n + 1, v1, y_this_at, y_this_token => (if (18 : Int32) ≤ v1 then some (y_this_at, y_this_token) else bd1 (f_X9_isNameOf v1 x_this_taped y_this_at x_this_begun f_this_letters f_this_tape) (fun r7 => (if r7 = 0 then lt1 (v1 + (1 : Int32)) (fun (t10 : Int32) => (f_X9_readsName_L39 x_this_taped x_this_begun f_this_letters f_this_tape n) t10 y_this_at y_this_token) else lt1 (v1 + (1 : Int32)) (fun (t11 : Int32) => (f_X9_readsName_L39 x_this_taped x_this_begun f_this_letters f_this_tape n) t11 y_this_at v1))))
def f_X9_readsName_b31 (x_this_taped : Int32) (x_this_begun : Int32) (f_this_letters : Nat → Int32) (f_this_tape : Nat → Int32) (y_this_at : Int32) : Option (Int32 × Int32) := f_X9_readsName_L39 x_this_taped x_this_begun f_this_letters f_this_tape 1000 (0 : Int32) y_this_at (101 : Int32)
def f_X9_readsName_L0 (x_this_taped : Int32) (x_this_begun : Int32) (f_this_letters : Nat → Int32) (f_this_tape : Nat → Int32) : Nat → Int32 → Option (Int32 × Int32)
  | 0, _ => none
  | n + 1, y_this_at => bd1 (f_X9_byteAt y_this_at x_this_taped f_this_tape) (fun r1 => bd1 (f_X9_in1 r1 (97 : Int32) (122 : Int32)) (fun r3 => (if r3 = 0 then f_X9_readsName_b31 x_this_taped x_this_begun f_this_letters f_this_tape y_this_at else lt1 (y_this_at + (1 : Int32)) (fun (t12 : Int32) => (f_X9_readsName_L0 x_this_taped x_this_begun f_this_letters f_this_tape n) t12))))
def f_X9_readsName (x_this_taped : Int32) (x_this_at : Int32) (x_this_begun : Int32) (f_this_letters : Nat → Int32) (f_this_tape : Nat → Int32) : Option (Int32 × Int32) := f_X9_readsName_L0 x_this_taped x_this_begun f_this_letters f_this_tape 1000 x_this_at
set_option maxRecDepth 100000 in
set_option maxHeartbeats 4000000 in
theorem c_X9_readsName {l : Launch} {G : Gt} {h_this h_this_s h_this_kept h_this_laid h_this_pile h_this_tape h_this_letters h_this_code0 h_this_read h_this_saved h_this_plan h_this_bestPlan h_this_offThen h_this_paidThen h_this_rows h_this_sorts h_this_sizes h_this_number h_this_holds h_this_heldOne h_this_trace : Nat} {x_this_isKept : Int32} {x_this_taped : Int32} {x_this_at : Int32} {x_this_begun : Int32} {x_this_token : Int32} {x_this_value : Int32} {x_this_opened : Int32} {x_this_steps : Int32} {x_this_most : Int32} {x_this_many : Int32} {x_this_few : Int32} {x_this_everHome : Int32} {x_this_firstFit : Int32} {x_this_rowMany : Int32} {x_this_traced : Int32} {x_this_own : Int32} {x_this_isParted : Int32} {f_this_letters : Nat → Int32} {f_this_tape : Nat → Int32} {m_this_at : Int32} {m_this_token : Int32} (hf : f_X9_readsName x_this_taped x_this_at x_this_begun f_this_letters f_this_tape = some (m_this_at, m_this_token)) : mFv l G yX9_readsName cX9_readsName 2 2 [.ref h_this] [(h_this, ob 9 [.ref h_this_s, .ref h_this_kept, .ref h_this_laid, .int x_this_isKept, .ref h_this_pile, .ref h_this_tape, .int x_this_taped, .ref h_this_letters, .int x_this_at, .int x_this_begun, .int x_this_token, .int x_this_value, .int x_this_opened, .int x_this_steps, .ref h_this_code0, .ref h_this_read, .ref h_this_saved, .ref h_this_plan, .ref h_this_bestPlan, .int x_this_most, .int x_this_many, .int x_this_few, .int x_this_everHome, .ref h_this_offThen, .ref h_this_paidThen, .int x_this_firstFit, .ref h_this_rows, .int x_this_rowMany, .ref h_this_sorts, .ref h_this_sizes, .ref h_this_number, .ref h_this_holds, .ref h_this_heldOne, .ref h_this_trace, .int x_this_traced, .int x_this_own, .int x_this_isParted]), (h_this_letters, ca G 144 f_this_letters), (h_this_tape, ia G 200 f_this_tape)] [(h_this, ob 9 [.ref h_this_s, .ref h_this_kept, .ref h_this_laid, .int x_this_isKept, .ref h_this_pile, .ref h_this_tape, .int x_this_taped, .ref h_this_letters, .int m_this_at, .int x_this_begun, .int m_this_token, .int x_this_value, .int x_this_opened, .int x_this_steps, .ref h_this_code0, .ref h_this_read, .ref h_this_saved, .ref h_this_plan, .ref h_this_bestPlan, .int x_this_most, .int x_this_many, .int x_this_few, .int x_this_everHome, .ref h_this_offThen, .ref h_this_paidThen, .int x_this_firstFit, .ref h_this_rows, .int x_this_rowMany, .ref h_this_sorts, .ref h_this_sizes, .ref h_this_number, .ref h_this_holds, .ref h_this_heldOne, .ref h_this_trace, .int x_this_traced, .int x_this_own, .int x_this_isParted]), (h_this_letters, ca G 144 f_this_letters), (h_this_tape, ia G 200 f_this_tape)] := by
  refine mFv.of (by decide +kernel) (Nat.le_of_ble_eq_true rfl) ?_
  intro p e s m below meth c A C hr hlk h ls hl
  obtain ⟨hx, hb, hml, hown, hts⟩ := id C
  replace hl : lv_has ls 2 [(0, .ref h_this)] := hl
  unfold f_X9_readsName at hf
  refine with_K G A 2 (fun K hK1 hK2 => ?_)
  have L39 : ∀ (n : Nat) (v1 : Int32) (y_this_at : Int32) (y_this_token : Int32), f_X9_readsName_L39 x_this_taped x_this_begun f_this_letters f_this_tape n v1 y_this_at y_this_token = some (m_this_at, m_this_token) → K 39 ([] : List Value) [(h_this, ob 9 [.ref h_this_s, .ref h_this_kept, .ref h_this_laid, .int x_this_isKept, .ref h_this_pile, .ref h_this_tape, .int x_this_taped, .ref h_this_letters, .int y_this_at, .int x_this_begun, .int y_this_token, .int x_this_value, .int x_this_opened, .int x_this_steps, .ref h_this_code0, .ref h_this_read, .ref h_this_saved, .ref h_this_plan, .ref h_this_bestPlan, .int x_this_most, .int x_this_many, .int x_this_few, .int x_this_everHome, .ref h_this_offThen, .ref h_this_paidThen, .int x_this_firstFit, .ref h_this_rows, .int x_this_rowMany, .ref h_this_sorts, .ref h_this_sizes, .ref h_this_number, .ref h_this_holds, .ref h_this_heldOne, .ref h_this_trace, .int x_this_traced, .int x_this_own, .int x_this_isParted]), (h_this_letters, ca G 144 f_this_letters), (h_this_tape, ia G 200 f_this_tape)] [(0, .ref h_this), (1, .int v1)] := by
    intro n
    induction n with
    | zero =>
      intro v1 y_this_at y_this_token hf
      replace hf : (none : Option _) = some _ := hf
      cases hf
    | succ n ih =>
      intro v1 y_this_at y_this_token hf
      rw [f_X9_readsName_L39] at hf
      refine hK1 _ _ _ _ (fun H locs ls h hl => ?_)
      refine lv_iload_n hx hb dX9_readsName_39 rfl (lv_at hl 1 rfl) ?_
      refine lv_bipush (v := (18 : Int32)) hx hb dX9_readsName_40 rfl ?_
      refine lv_icmp_ge (tgt := 71) hx hb dX9_readsName_42 rfl (fun c6 => ?_) (fun c6 => ?_)
      · replace hf := ifp c6 hf
        cases hf
        exact r_vret C h hr hlk dX9_readsName_71
      · replace hf := ifn c6 hf
        refine lv_aload_n hx hb dX9_readsName_45 rfl (lv_at hl 0 rfl) ?_
        refine lv_aload_n hx hb dX9_readsName_46 rfl (lv_at hl 0 rfl) ?_
        refine lv_iload_n hx hb dX9_readsName_47 rfl (lv_at hl 1 rfl) ?_
        replace hf := bd1_inv hf
        obtain ⟨r7, hc8, hf⟩ := hf
        refine r_ciV0 C h (c_X9_isNameOf hc8) mv_X9_143 rfl 0 rfl [0, 1, 2] rfl rfl hl.1 rfl (Nat.le_of_ble_eq_true rfl) (rok (by decide)) dX9_readsName_48 (fun H locs h => ?_)
        refine lv_if_eq (tgt := 58) hx hb dX9_readsName_51 rfl (fun c9 => ?_) (fun c9 => ?_)
        · replace hf := ifp c9 hf
          refine lv_aload_n hx hb dX9_readsName_58 rfl (lv_at hl 0 rfl) ?_
          refine r_get C h fk_X9_140 0 rfl rfl dX9_readsName_59 ?_
          refine r_put (ws' := [(h_this, ob 9 [.ref h_this_s, .ref h_this_kept, .ref h_this_laid, .int x_this_isKept, .ref h_this_pile, .ref h_this_tape, .int x_this_taped, .ref h_this_letters, .int y_this_at, .int x_this_begun, .int y_this_token, .int x_this_value, .int x_this_opened, .int x_this_steps, .ref h_this_code0, .ref h_this_read, .ref h_this_saved, .ref h_this_plan, .ref h_this_bestPlan, .int x_this_most, .int x_this_many, .int x_this_few, .int x_this_everHome, .ref h_this_offThen, .ref h_this_paidThen, .int x_this_firstFit, .ref h_this_rows, .int x_this_rowMany, .ref h_this_sorts, .ref h_this_sizes, .ref h_this_number, .ref h_this_holds, .ref h_this_heldOne, .ref h_this_trace, .int x_this_traced, .int x_this_own, .int x_this_isParted]), (h_this_letters, ca G 144 f_this_letters), (h_this_tape, ia G 200 f_this_tape)]) C h fw_X9_140 0 rfl rfl rfl (Nat.le_of_ble_eq_true rfl) dX9_readsName_62 rfl (fun H locs h => ?_)
          obtain ⟨t10, et10⟩ : ∃ y : Int32, y = v1 + (1 : Int32) := ⟨_, rfl⟩
          replace hf := lt1_inv et10 hf
          refine lv_iinc (v := t10) (lv' := [(1, .int t10), (0, .ref h_this)]) hx hb dX9_readsName_65 hl (k := 1) rfl (by rw [et10]; rfl) (by decide) rfl (fun ls hl => ?_)
          refine lv_goto (tgt := 39) hx hb dX9_readsName_68 rfl ?_
          exact hK2 _ _ _ _ (ih t10 y_this_at y_this_token hf) _ _ _ h (lv_sub hl [1, 0] rfl)
        · replace hf := ifn c9 hf
          refine lv_iload_n hx hb dX9_readsName_54 rfl (lv_at hl 1 rfl) ?_
          refine lv_goto (tgt := 62) hx hb dX9_readsName_55 rfl ?_
          refine r_put (ws' := [(h_this, ob 9 [.ref h_this_s, .ref h_this_kept, .ref h_this_laid, .int x_this_isKept, .ref h_this_pile, .ref h_this_tape, .int x_this_taped, .ref h_this_letters, .int y_this_at, .int x_this_begun, .int v1, .int x_this_value, .int x_this_opened, .int x_this_steps, .ref h_this_code0, .ref h_this_read, .ref h_this_saved, .ref h_this_plan, .ref h_this_bestPlan, .int x_this_most, .int x_this_many, .int x_this_few, .int x_this_everHome, .ref h_this_offThen, .ref h_this_paidThen, .int x_this_firstFit, .ref h_this_rows, .int x_this_rowMany, .ref h_this_sorts, .ref h_this_sizes, .ref h_this_number, .ref h_this_holds, .ref h_this_heldOne, .ref h_this_trace, .int x_this_traced, .int x_this_own, .int x_this_isParted]), (h_this_letters, ca G 144 f_this_letters), (h_this_tape, ia G 200 f_this_tape)]) C h fw_X9_140 0 rfl rfl rfl (Nat.le_of_ble_eq_true rfl) dX9_readsName_62 rfl (fun H locs h => ?_)
          obtain ⟨t11, et11⟩ : ∃ y : Int32, y = v1 + (1 : Int32) := ⟨_, rfl⟩
          replace hf := lt1_inv et11 hf
          refine lv_iinc (v := t11) (lv' := [(1, .int t11), (0, .ref h_this)]) hx hb dX9_readsName_65 hl (k := 1) rfl (by rw [et11]; rfl) (by decide) rfl (fun ls hl => ?_)
          refine lv_goto (tgt := 39) hx hb dX9_readsName_68 rfl ?_
          exact hK2 _ _ _ _ (ih t11 y_this_at v1 hf) _ _ _ h (lv_sub hl [1, 0] rfl)
  have B31 : ∀ (y_this_at : Int32), f_X9_readsName_b31 x_this_taped x_this_begun f_this_letters f_this_tape y_this_at = some (m_this_at, m_this_token) → K 31 ([] : List Value) [(h_this, ob 9 [.ref h_this_s, .ref h_this_kept, .ref h_this_laid, .int x_this_isKept, .ref h_this_pile, .ref h_this_tape, .int x_this_taped, .ref h_this_letters, .int y_this_at, .int x_this_begun, .int x_this_token, .int x_this_value, .int x_this_opened, .int x_this_steps, .ref h_this_code0, .ref h_this_read, .ref h_this_saved, .ref h_this_plan, .ref h_this_bestPlan, .int x_this_most, .int x_this_many, .int x_this_few, .int x_this_everHome, .ref h_this_offThen, .ref h_this_paidThen, .int x_this_firstFit, .ref h_this_rows, .int x_this_rowMany, .ref h_this_sorts, .ref h_this_sizes, .ref h_this_number, .ref h_this_holds, .ref h_this_heldOne, .ref h_this_trace, .int x_this_traced, .int x_this_own, .int x_this_isParted]), (h_this_letters, ca G 144 f_this_letters), (h_this_tape, ia G 200 f_this_tape)] [(0, .ref h_this)] := by
    intro y_this_at hf
    unfold f_X9_readsName_b31 at hf
    refine hK1 _ _ _ _ (fun H locs ls h hl => ?_)
    refine lv_aload_n hx hb dX9_readsName_31 rfl (lv_at hl 0 rfl) ?_
    refine lv_bipush (v := (101 : Int32)) hx hb dX9_readsName_32 rfl ?_
    refine r_put (ws' := [(h_this, ob 9 [.ref h_this_s, .ref h_this_kept, .ref h_this_laid, .int x_this_isKept, .ref h_this_pile, .ref h_this_tape, .int x_this_taped, .ref h_this_letters, .int y_this_at, .int x_this_begun, .int (101 : Int32), .int x_this_value, .int x_this_opened, .int x_this_steps, .ref h_this_code0, .ref h_this_read, .ref h_this_saved, .ref h_this_plan, .ref h_this_bestPlan, .int x_this_most, .int x_this_many, .int x_this_few, .int x_this_everHome, .ref h_this_offThen, .ref h_this_paidThen, .int x_this_firstFit, .ref h_this_rows, .int x_this_rowMany, .ref h_this_sorts, .ref h_this_sizes, .ref h_this_number, .ref h_this_holds, .ref h_this_heldOne, .ref h_this_trace, .int x_this_traced, .int x_this_own, .int x_this_isParted]), (h_this_letters, ca G 144 f_this_letters), (h_this_tape, ia G 200 f_this_tape)]) C h fw_X9_140 0 rfl rfl rfl (Nat.le_of_ble_eq_true rfl) dX9_readsName_34 rfl (fun H locs h => ?_)
    refine lv_iconst (v := (0 : Int32)) hx hb dX9_readsName_37 rfl ?_
    refine lv_istore_n (lv' := [(1, .int (0 : Int32)), (0, .ref h_this)]) hx hb dX9_readsName_38 rfl hl (by decide) rfl (fun ls hl => ?_)
    exact hK2 _ _ _ _ (L39 1000 (0 : Int32) y_this_at (101 : Int32) hf) _ _ _ h (lv_sub hl [1, 0] rfl)
  have L0 : ∀ (n : Nat) (y_this_at : Int32), f_X9_readsName_L0 x_this_taped x_this_begun f_this_letters f_this_tape n y_this_at = some (m_this_at, m_this_token) → K 0 ([] : List Value) [(h_this, ob 9 [.ref h_this_s, .ref h_this_kept, .ref h_this_laid, .int x_this_isKept, .ref h_this_pile, .ref h_this_tape, .int x_this_taped, .ref h_this_letters, .int y_this_at, .int x_this_begun, .int x_this_token, .int x_this_value, .int x_this_opened, .int x_this_steps, .ref h_this_code0, .ref h_this_read, .ref h_this_saved, .ref h_this_plan, .ref h_this_bestPlan, .int x_this_most, .int x_this_many, .int x_this_few, .int x_this_everHome, .ref h_this_offThen, .ref h_this_paidThen, .int x_this_firstFit, .ref h_this_rows, .int x_this_rowMany, .ref h_this_sorts, .ref h_this_sizes, .ref h_this_number, .ref h_this_holds, .ref h_this_heldOne, .ref h_this_trace, .int x_this_traced, .int x_this_own, .int x_this_isParted]), (h_this_letters, ca G 144 f_this_letters), (h_this_tape, ia G 200 f_this_tape)] [(0, .ref h_this)] := by
    intro n
    induction n with
    | zero =>
      intro y_this_at hf
      replace hf : (none : Option _) = some _ := hf
      cases hf
    | succ n ih =>
      intro y_this_at hf
      rw [f_X9_readsName_L0] at hf
      refine hK1 _ _ _ _ (fun H locs ls h hl => ?_)
      refine lv_aload_n hx hb dX9_readsName_0 rfl (lv_at hl 0 rfl) ?_
      refine lv_aload_n hx hb dX9_readsName_1 rfl (lv_at hl 0 rfl) ?_
      refine r_get C h fk_X9_131 0 rfl rfl dX9_readsName_2 ?_
      replace hf := bd1_inv hf
      obtain ⟨r1, hc2, hf⟩ := hf
      refine r_ciV0 C h (c_X9_byteAt hc2) mv_X9_137 rfl 0 rfl [0, 2] rfl rfl hl.1 rfl (Nat.le_of_ble_eq_true rfl) (rok (by decide)) dX9_readsName_5 (fun H locs h => ?_)
      refine lv_bipush (v := (97 : Int32)) hx hb dX9_readsName_8 rfl ?_
      refine lv_bipush (v := (122 : Int32)) hx hb dX9_readsName_10 rfl ?_
      replace hf := bd1_inv hf
      obtain ⟨r3, hc4, hf⟩ := hf
      refine r_ciS0 C h (c_X9_in1 hc4) ms_X9_71 rfl [] rfl rfl hl.1 rfl (Nat.le_of_ble_eq_true rfl) (rok (by decide)) dX9_readsName_12 (fun H locs h => ?_)
      refine lv_if_eq (tgt := 31) hx hb dX9_readsName_15 rfl (fun c5 => ?_) (fun c5 => ?_)
      · replace hf := ifp c5 hf
        exact hK2 _ _ _ _ (B31 y_this_at hf) _ _ _ h (lv_sub hl [0] rfl)
      · replace hf := ifn c5 hf
        refine lv_aload_n hx hb dX9_readsName_18 rfl (lv_at hl 0 rfl) ?_
        refine lv_dup hx hb dX9_readsName_19 rfl ?_
        refine r_get C h fk_X9_131 0 rfl rfl dX9_readsName_20 ?_
        refine lv_iconst (v := (1 : Int32)) hx hb dX9_readsName_23 rfl ?_
        refine lv_iadd hx hb dX9_readsName_24 ?_
        refine lv_topi (fun t12 et12 => ?_)
        replace hf := lt1_inv et12 hf
        refine r_put (ws' := [(h_this, ob 9 [.ref h_this_s, .ref h_this_kept, .ref h_this_laid, .int x_this_isKept, .ref h_this_pile, .ref h_this_tape, .int x_this_taped, .ref h_this_letters, .int t12, .int x_this_begun, .int x_this_token, .int x_this_value, .int x_this_opened, .int x_this_steps, .ref h_this_code0, .ref h_this_read, .ref h_this_saved, .ref h_this_plan, .ref h_this_bestPlan, .int x_this_most, .int x_this_many, .int x_this_few, .int x_this_everHome, .ref h_this_offThen, .ref h_this_paidThen, .int x_this_firstFit, .ref h_this_rows, .int x_this_rowMany, .ref h_this_sorts, .ref h_this_sizes, .ref h_this_number, .ref h_this_holds, .ref h_this_heldOne, .ref h_this_trace, .int x_this_traced, .int x_this_own, .int x_this_isParted]), (h_this_letters, ca G 144 f_this_letters), (h_this_tape, ia G 200 f_this_tape)]) C h fw_X9_131 0 rfl rfl rfl (Nat.le_of_ble_eq_true rfl) dX9_readsName_25 rfl (fun H locs h => ?_)
        refine lv_goto (tgt := 0) hx hb dX9_readsName_28 rfl ?_
        exact hK2 _ _ _ _ (ih t12 hf) _ _ _ h (lv_sub hl [0] rfl)
  exact hK2 _ _ _ _ (L0 1000 x_this_at hf) _ _ _ h (lv_sub hl [0] rfl)
