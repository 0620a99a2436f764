set_option maxRecDepth 100000 in
set_option maxHeartbeats 4000000 in
theorem c_X9_restOne {l : Launch} {G : Gt} {h_this h_this_s h_this_kept h_this_laid h_this_pile h_this_tape h_this_letters h_this_code0 h_this_read h_this_saved h_this_plan h_this_bestPlan h_this_offThen h_this_paidThen h_this_rows h_this_sorts h_this_sizes h_this_number h_this_holds h_this_heldOne h_this_trace : Nat} {x_this_isKept : Int32} {x_this_taped : Int32} {x_this_at : Int32} {x_this_begun : Int32} {x_this_token : Int32} {x_this_value : Int32} {x_this_opened : Int32} {x_this_steps : Int32} {x_this_most : Int32} {x_this_many : Int32} {x_this_few : Int32} {x_this_everHome : Int32} {x_this_firstFit : Int32} {x_this_rowMany : Int32} {x_this_traced : Int32} {x_this_own : Int32} {x_this_isParted : Int32} {f_this_pile : Nat → Int32} {f_this_s : Nat → Int32} {r : Int32} {m_this_pile : Nat → Int32} (hf : f_X9_restOne f_this_pile f_this_s = some (r, m_this_pile)) : mFi l G yX9_restOne cX9_restOne 2 .int 5 [.ref h_this] [(h_this, ob 9 [.ref h_this_s, .ref h_this_kept, .ref h_this_laid, .int x_this_isKept, .ref h_this_pile, .ref h_this_tape, .int x_this_taped, .ref h_this_letters, .int x_this_at, .int x_this_begun, .int x_this_token, .int x_this_value, .int x_this_opened, .int x_this_steps, .ref h_this_code0, .ref h_this_read, .ref h_this_saved, .ref h_this_plan, .ref h_this_bestPlan, .int x_this_most, .int x_this_many, .int x_this_few, .int x_this_everHome, .ref h_this_offThen, .ref h_this_paidThen, .int x_this_firstFit, .ref h_this_rows, .int x_this_rowMany, .ref h_this_sorts, .ref h_this_sizes, .ref h_this_number, .ref h_this_holds, .ref h_this_heldOne, .ref h_this_trace, .int x_this_traced, .int x_this_own, .int x_this_isParted]), (h_this_pile, ia G 200 f_this_pile), (h_this_s, ia G 313 f_this_s)] r [(h_this, ob 9 [.ref h_this_s, .ref h_this_kept, .ref h_this_laid, .int x_this_isKept, .ref h_this_pile, .ref h_this_tape, .int x_this_taped, .ref h_this_letters, .int x_this_at, .int x_this_begun, .int x_this_token, .int x_this_value, .int x_this_opened, .int x_this_steps, .ref h_this_code0, .ref h_this_read, .ref h_this_saved, .ref h_this_plan, .ref h_this_bestPlan, .int x_this_most, .int x_this_many, .int x_this_few, .int x_this_everHome, .ref h_this_offThen, .ref h_this_paidThen, .int x_this_firstFit, .ref h_this_rows, .int x_this_rowMany, .ref h_this_sorts, .ref h_this_sizes, .ref h_this_number, .ref h_this_holds, .ref h_this_heldOne, .ref h_this_trace, .int x_this_traced, .int x_this_own, .int x_this_isParted]), (h_this_pile, ia G 200 m_this_pile), (h_this_s, ia G 313 f_this_s)] := by
  refine mFi.of (by decide +kernel) (Nat.le_of_ble_eq_true rfl) ?_
  intro p e s m below meth c A C hr hlk h ls hl
  obtain ⟨hx, hb, hml, hown, hts⟩ := id C
  replace hl : lv_has ls 2 [(0, .ref h_this)] := hl
  unfold f_X9_restOne at hf
  refine with_K G A 2 (fun K hK1 hK2 => ?_)
  have L2 : ∀ (n : Nat) (v1 : Int32) (g_this_pile : Nat → Int32), f_X9_restOne_L2 f_this_s n v1 g_this_pile = some (r, m_this_pile) → K 2 ([] : List Value) [(h_this, ob 9 [.ref h_this_s, .ref h_this_kept, .ref h_this_laid, .int x_this_isKept, .ref h_this_pile, .ref h_this_tape, .int x_this_taped, .ref h_this_letters, .int x_this_at, .int x_this_begun, .int x_this_token, .int x_this_value, .int x_this_opened, .int x_this_steps, .ref h_this_code0, .ref h_this_read, .ref h_this_saved, .ref h_this_plan, .ref h_this_bestPlan, .int x_this_most, .int x_this_many, .int x_this_few, .int x_this_everHome, .ref h_this_offThen, .ref h_this_paidThen, .int x_this_firstFit, .ref h_this_rows, .int x_this_rowMany, .ref h_this_sorts, .ref h_this_sizes, .ref h_this_number, .ref h_this_holds, .ref h_this_heldOne, .ref h_this_trace, .int x_this_traced, .int x_this_own, .int x_this_isParted]), (h_this_pile, ia G 200 g_this_pile), (h_this_s, ia G 313 f_this_s)] [(0, .ref h_this), (1, .int v1)] := by
    intro n
    induction n with
    | zero =>
      intro v1 g_this_pile hf
      replace hf : (none : Option _) = some _ := hf
      cases hf
    | succ n ih =>
      intro v1 g_this_pile hf
      rw [f_X9_restOne_L2] at hf
      refine hK1 _ _ _ _ (fun H locs ls h hl => ?_)
      refine lv_iload_n hx hb dX9_restOne_2 rfl (lv_at hl 1 rfl) ?_
      refine lv_aload_n hx hb dX9_restOne_3 rfl (lv_at hl 0 rfl) ?_
      refine r_get C h fk_X9_9 0 rfl rfl dX9_restOne_4 ?_
      refine lv_iconst (v := (4 : Int32)) hx hb dX9_restOne_7 rfl ?_
      refine r_ialdL C h 2 rfl (vlit rfl) 4 rfl dX9_restOne_8 ?_
      refine lv_icmp_ge (tgt := 28) hx hb dX9_restOne_9 rfl (fun c1 => ?_) (fun c1 => ?_)
      · replace hf := ifp c1 hf
        refine lv_iconst (v := (-1 : Int32)) hx hb dX9_restOne_28 rfl ?_
        cases hf
        exact r_iret C h hr hlk rfl dX9_restOne_29
      · replace hf := ifn c1 hf
        refine lv_aload_n hx hb dX9_restOne_12 rfl (lv_at hl 0 rfl) ?_
        refine lv_iload_n hx hb dX9_restOne_13 rfl (lv_at hl 1 rfl) ?_
        replace hf := bd2_inv hf
        obtain ⟨r2, g3, hc4, hf⟩ := hf
        refine r_ciV (ws' := [(h_this, ob 9 [.ref h_this_s, .ref h_this_kept, .ref h_this_laid, .int x_this_isKept, .ref h_this_pile, .ref h_this_tape, .int x_this_taped, .ref h_this_letters, .int x_this_at, .int x_this_begun, .int x_this_token, .int x_this_value, .int x_this_opened, .int x_this_steps, .ref h_this_code0, .ref h_this_read, .ref h_this_saved, .ref h_this_plan, .ref h_this_bestPlan, .int x_this_most, .int x_this_many, .int x_this_few, .int x_this_everHome, .ref h_this_offThen, .ref h_this_paidThen, .int x_this_firstFit, .ref h_this_rows, .int x_this_rowMany, .ref h_this_sorts, .ref h_this_sizes, .ref h_this_number, .ref h_this_holds, .ref h_this_heldOne, .ref h_this_trace, .int x_this_traced, .int x_this_own, .int x_this_isParted]), (h_this_pile, ia G 200 g3), (h_this_s, ia G 313 f_this_s)]) C h (c_X9_mayEnter hc4) mv_X9_205 rfl 0 rfl [0, 1, 2] rfl rfl [1] [(h_this_pile, ia G 200 g3)] rfl rfl (by decide +kernel) rfl hl.1 rfl (Nat.le_of_ble_eq_true rfl) (rok (by decide)) dX9_restOne_14 (fun H locs h => ?_)
        refine lv_if_eq (tgt := 22) hx hb dX9_restOne_17 rfl (fun c5 => ?_) (fun c5 => ?_)
        · replace hf := ifp c5 hf
          obtain ⟨t6, et6⟩ : ∃ y : Int32, y = v1 + (1 : Int32) := ⟨_, rfl⟩
          replace hf := lt1_inv et6 hf
          refine lv_iinc (v := t6) (lv' := [(1, .int t6), (0, .ref h_this)]) hx hb dX9_restOne_22 hl (k := 1) rfl (by rw [et6]; rfl) (by decide) rfl (fun ls hl => ?_)
          refine lv_goto (tgt := 2) hx hb dX9_restOne_25 rfl ?_
          exact hK2 _ _ _ _ (ih t6 g3 hf) _ _ _ h (lv_sub hl [1, 0] rfl)
        · replace hf := ifn c5 hf
          refine lv_iload_n hx hb dX9_restOne_20 rfl (lv_at hl 1 rfl) ?_
          cases hf
          exact r_iret C h hr hlk rfl dX9_restOne_21
  refine lv_iconst (v := (0 : Int32)) hx hb dX9_restOne_0 rfl ?_
  refine lv_istore_n (lv' := [(1, .int (0 : Int32)), (0, .ref h_this)]) hx hb dX9_restOne_1 rfl hl (by decide) rfl (fun ls hl => ?_)
  exact hK2 _ _ _ _ (L2 1000 (0 : Int32) f_this_pile hf) _ _ _ h (lv_sub hl [1, 0] rfl)
set_option maxRecDepth 100000 in
set_option maxHeartbeats 4000000 in
theorem c_X9_enters {l : Launch} {G : Gt} {h_this h_this_s h_this_kept h_this_laid h_this_pile h_this_tape h_this_letters h_this_code0 h_this_read h_this_saved h_this_plan h_this_bestPlan h_this_offThen h_this_paidThen h_this_rows h_this_sorts h_this_sizes h_this_number h_this_holds h_this_heldOne h_this_trace : Nat} {p0 : Int32} {x_this_isKept : Int32} {x_this_taped : Int32} {x_this_at : Int32} {x_this_begun : Int32} {x_this_token : Int32} {x_this_value : Int32} {x_this_opened : Int32} {x_this_steps : Int32} {x_this_most : Int32} {x_this_many : Int32} {x_this_few : Int32} {x_this_everHome : Int32} {x_this_firstFit : Int32} {x_this_rowMany : Int32} {x_this_traced : Int32} {x_this_own : Int32} {x_this_isParted : Int32} {f_this_s : Nat → Int32} {r : Int32} {m_this_s : Nat → Int32} (hf : f_X9_enters p0 f_this_s = some (r, m_this_s)) : mFi l G yX9_enters cX9_enters 3 .int 4 [.ref h_this, .int p0] [(h_this, ob 9 [.ref h_this_s, .ref h_this_kept, .ref h_this_laid, .int x_this_isKept, .ref h_this_pile, .ref h_this_tape, .int x_this_taped, .ref h_this_letters, .int x_this_at, .int x_this_begun, .int x_this_token, .int x_this_value, .int x_this_opened, .int x_this_steps, .ref h_this_code0, .ref h_this_read, .ref h_this_saved, .ref h_this_plan, .ref h_this_bestPlan, .int x_this_most, .int x_this_many, .int x_this_few, .int x_this_everHome, .ref h_this_offThen, .ref h_this_paidThen, .int x_this_firstFit, .ref h_this_rows, .int x_this_rowMany, .ref h_this_sorts, .ref h_this_sizes, .ref h_this_number, .ref h_this_holds, .ref h_this_heldOne, .ref h_this_trace, .int x_this_traced, .int x_this_own, .int x_this_isParted]), (h_this_s, ia G 313 f_this_s)] r [(h_this, ob 9 [.ref h_this_s, .ref h_this_kept, .ref h_this_laid, .int x_this_isKept, .ref h_this_pile, .ref h_this_tape, .int x_this_taped, .ref h_this_letters, .int x_this_at, .int x_this_begun, .int x_this_token, .int x_this_value, .int x_this_opened, .int x_this_steps, .ref h_this_code0, .ref h_this_read, .ref h_this_saved, .ref h_this_plan, .ref h_this_bestPlan, .int x_this_most, .int x_this_many, .int x_this_few, .int x_this_everHome, .ref h_this_offThen, .ref h_this_paidThen, .int x_this_firstFit, .ref h_this_rows, .int x_this_rowMany, .ref h_this_sorts, .ref h_this_sizes, .ref h_this_number, .ref h_this_holds, .ref h_this_heldOne, .ref h_this_trace, .int x_this_traced, .int x_this_own, .int x_this_isParted]), (h_this_s, ia G 313 m_this_s)] := by
  refine mFi.of (by decide +kernel) (Nat.le_of_ble_eq_true rfl) ?_
  intro p e s m below meth c A C hr hlk h ls hl
  obtain ⟨hx, hb, hml, hown, hts⟩ := id C
  replace hl : lv_has ls 3 [(0, .ref h_this), (1, .int p0)] := hl
  unfold f_X9_enters at hf
  refine lv_aload_n hx hb dX9_enters_0 rfl (lv_at hl 0 rfl) ?_
  refine lv_iload_n hx hb dX9_enters_1 rfl (lv_at hl 1 rfl) ?_
  replace hf := bd1_inv hf
  obtain ⟨r1, hc2, hf⟩ := hf
  refine r_ciV0 C h (c_X9_paysOf hc2) mv_X9_105 rfl 0 rfl [0, 1] rfl rfl hl.1 rfl (Nat.le_of_ble_eq_true rfl) (rok (by decide)) dX9_enters_2 (fun H locs h => ?_)
  refine lv_istore_n (lv' := [(2, .int r1), (0, .ref h_this), (1, .int p0)]) hx hb dX9_enters_5 rfl hl (by decide) rfl (fun ls hl => ?_)
  refine lv_aload_n hx hb dX9_enters_6 rfl (lv_at hl 1 rfl) ?_
  refine lv_iload_n hx hb dX9_enters_7 rfl (lv_at hl 2 rfl) ?_
  refine lv_iconst (v := (4 : Int32)) hx hb dX9_enters_8 rfl ?_
  refine lv_iload_n hx hb dX9_enters_9 rfl (lv_at hl 0 rfl) ?_
  refine lv_if_le (tgt := 17) hx hb dX9_enters_10 rfl (fun c3 => ?_) (fun c3 => ?_)
  · replace hf := ifp c3 hf
    refine lv_iconst (v := (0 : Int32)) hx hb dX9_enters_17 rfl ?_
    replace hf := bd1_inv hf
    obtain ⟨g4, hc5, hf⟩ := hf
    refine r_cvV (ws' := [(h_this, ob 9 [.ref h_this_s, .ref h_this_kept, .ref h_this_laid, .int x_this_isKept, .ref h_this_pile, .ref h_this_tape, .int x_this_taped, .ref h_this_letters, .int x_this_at, .int x_this_begun, .int x_this_token, .int x_this_value, .int x_this_opened, .int x_this_steps, .ref h_this_code0, .ref h_this_read, .ref h_this_saved, .ref h_this_plan, .ref h_this_bestPlan, .int x_this_most, .int x_this_many, .int x_this_few, .int x_this_everHome, .ref h_this_offThen, .ref h_this_paidThen, .int x_this_firstFit, .ref h_this_rows, .int x_this_rowMany, .ref h_this_sorts, .ref h_this_sizes, .ref h_this_number, .ref h_this_holds, .ref h_this_heldOne, .ref h_this_trace, .int x_this_traced, .int x_this_own, .int x_this_isParted]), (h_this_s, ia G 313 g4)]) C h (c_X9_puts hc5) mv_X9_195 rfl 0 rfl [0, 1] rfl rfl [1] [(h_this_s, ia G 313 g4)] rfl rfl (by decide +kernel) rfl hl.1 rfl (Nat.le_of_ble_eq_true rfl) (rok (by decide)) dX9_enters_18 (fun H locs h => ?_)
    refine lv_iload_n hx hb dX9_enters_21 rfl (lv_at hl 0 rfl) ?_
    cases hf
    exact r_iret C h hr hlk rfl dX9_enters_22
  · replace hf := ifn c3 hf
    refine lv_iconst (v := (1 : Int32)) hx hb dX9_enters_13 rfl ?_
    refine lv_goto (tgt := 18) hx hb dX9_enters_14 rfl ?_
    replace hf := bd1_inv hf
    obtain ⟨g6, hc7, hf⟩ := hf
    refine r_cvV (ws' := [(h_this, ob 9 [.ref h_this_s, .ref h_this_kept, .ref h_this_laid, .int x_this_isKept, .ref h_this_pile, .ref h_this_tape, .int x_this_taped, .ref h_this_letters, .int x_this_at, .int x_this_begun, .int x_this_token, .int x_this_value, .int x_this_opened, .int x_this_steps, .ref h_this_code0, .ref h_this_read, .ref h_this_saved, .ref h_this_plan, .ref h_this_bestPlan, .int x_this_most, .int x_this_many, .int x_this_few, .int x_this_everHome, .ref h_this_offThen, .ref h_this_paidThen, .int x_this_firstFit, .ref h_this_rows, .int x_this_rowMany, .ref h_this_sorts, .ref h_this_sizes, .ref h_this_number, .ref h_this_holds, .ref h_this_heldOne, .ref h_this_trace, .int x_this_traced, .int x_this_own, .int x_this_isParted]), (h_this_s, ia G 313 g6)]) C h (c_X9_puts hc7) mv_X9_195 rfl 0 rfl [0, 1] rfl rfl [1] [(h_this_s, ia G 313 g6)] rfl rfl (by decide +kernel) rfl hl.1 rfl (Nat.le_of_ble_eq_true rfl) (rok (by decide)) dX9_enters_18 (fun H locs h => ?_)
    refine lv_iload_n hx hb dX9_enters_21 rfl (lv_at hl 0 rfl) ?_
    cases hf
    exact r_iret C h hr hlk rfl dX9_enters_22
set_option maxRecDepth 100000 in
set_option maxHeartbeats 4000000 in
theorem c_X9_held {l : Launch} {G : Gt} {p0 : Int32} {p1 : Int32} {r : Int32} (hf : f_X9_held p0 p1 = some r) : mFi l G yX9_held cX9_held 2 .int 0 [.int p0, .int p1] ([] : va_W) r ([] : va_W) := by
  refine mFi.of (by decide +kernel) (Nat.le_of_ble_eq_true rfl) ?_
  intro p e s m below meth c A C hr hlk h ls hl
  obtain ⟨hx, hb, hml, hown, hts⟩ := id C
  replace hl : lv_has ls 2 [(0, .int p0), (1, .int p1)] := hl
  unfold f_X9_held at hf
  refine lv_iload_n hx hb dX9_held_0 rfl (lv_at hl 0 rfl) ?_
  refine lv_if_ge (tgt := 8) hx hb dX9_held_1 rfl (fun c1 => ?_) (fun c1 => ?_)
  · replace hf := ifp c1 hf
    refine lv_iload_n hx hb dX9_held_8 rfl (lv_at hl 0 rfl) ?_
    refine lv_iload_n hx hb dX9_held_9 rfl (lv_at hl 1 rfl) ?_
    refine lv_icmp_le (tgt := 17) hx hb dX9_held_10 rfl (fun c2 => ?_) (fun c2 => ?_)
    · replace hf := ifp c2 hf
      refine lv_iload_n hx hb dX9_held_17 rfl (lv_at hl 0 rfl) ?_
      cases hf
      exact r_iret C h hr hlk rfl dX9_held_18
    · replace hf := ifn c2 hf
      refine lv_iload_n hx hb dX9_held_13 rfl (lv_at hl 1 rfl) ?_
      refine lv_goto (tgt := 18) hx hb dX9_held_14 rfl ?_
      cases hf
      exact r_iret C h hr hlk rfl dX9_held_18
  · replace hf := ifn c1 hf
    refine lv_iconst (v := (0 : Int32)) hx hb dX9_held_4 rfl ?_
    refine lv_goto (tgt := 18) hx hb dX9_held_5 rfl ?_
    cases hf
    exact r_iret C h hr hlk rfl dX9_held_18
set_option maxRecDepth 100000 in
set_option maxHeartbeats 4000000 in
theorem c_X9_meets {l : Launch} {G : Gt} {h_this h_this_s h_this_kept h_this_laid h_this_pile h_this_tape h_this_letters h_this_code0 h_this_read h_this_saved h_this_plan h_this_bestPlan h_this_offThen h_this_paidThen h_this_rows h_this_sorts h_this_sizes h_this_number h_this_holds h_this_heldOne h_this_trace : Nat} {p0 : Int32} {x_this_isKept : Int32} {x_this_taped : Int32} {x_this_at : Int32} {x_this_begun : Int32} {x_this_token : Int32} {x_this_value : Int32} {x_this_opened : Int32} {x_this_steps : Int32} {x_this_most : Int32} {x_this_many : Int32} {x_this_few : Int32} {x_this_everHome : Int32} {x_this_firstFit : Int32} {x_this_rowMany : Int32} {x_this_traced : Int32} {x_this_own : Int32} {x_this_isParted : Int32} {f_this_pile : Nat → Int32} {f_this_s : Nat → Int32} {r : Int32} {m_this_pile : Nat → Int32} {m_this_s : Nat → Int32} (hf : f_X9_meets p0 f_this_pile f_this_s = some (r, m_this_pile, m_this_s)) : mFi l G yX9_meets cX9_meets 3 .int 5 [.ref h_this, .int p0] [(h_this, ob 9 [.ref h_this_s, .ref h_this_kept, .ref h_this_laid, .int x_this_isKept, .ref h_this_pile, .ref h_this_tape, .int x_this_taped, .ref h_this_letters, .int x_this_at, .int x_this_begun, .int x_this_token, .int x_this_value, .int x_this_opened, .int x_this_steps, .ref h_this_code0, .ref h_this_read, .ref h_this_saved, .ref h_this_plan, .ref h_this_bestPlan, .int x_this_most, .int x_this_many, .int x_this_few, .int x_this_everHome, .ref h_this_offThen, .ref h_this_paidThen, .int x_this_firstFit, .ref h_this_rows, .int x_this_rowMany, .ref h_this_sorts, .ref h_this_sizes, .ref h_this_number, .ref h_this_holds, .ref h_this_heldOne, .ref h_this_trace, .int x_this_traced, .int x_this_own, .int x_this_isParted]), (h_this_pile, ia G 200 f_this_pile), (h_this_s, ia G 313 f_this_s)] r [(h_this, ob 9 [.ref h_this_s, .ref h_this_kept, .ref h_this_laid, .int x_this_isKept, .ref h_this_pile, .ref h_this_tape, .int x_this_taped, .ref h_this_letters, .int x_this_at, .int x_this_begun, .int x_this_token, .int x_this_value, .int x_this_opened, .int x_this_steps, .ref h_this_code0, .ref h_this_read, .ref h_this_saved, .ref h_this_plan, .ref h_this_bestPlan, .int x_this_most, .int x_this_many, .int x_this_few, .int x_this_everHome, .ref h_this_offThen, .ref h_this_paidThen, .int x_this_firstFit, .ref h_this_rows, .int x_this_rowMany, .ref h_this_sorts, .ref h_this_sizes, .ref h_this_number, .ref h_this_holds, .ref h_this_heldOne, .ref h_this_trace, .int x_this_traced, .int x_this_own, .int x_this_isParted]), (h_this_pile, ia G 200 m_this_pile), (h_this_s, ia G 313 m_this_s)] := by
  refine mFi.of (by decide +kernel) (Nat.le_of_ble_eq_true rfl) ?_
  intro p e s m below meth c A C hr hlk h ls hl
  obtain ⟨hx, hb, hml, hown, hts⟩ := id C
  replace hl : lv_has ls 3 [(0, .ref h_this), (1, .int p0)] := hl
  unfold f_X9_meets at hf
  refine lv_aload_n hx hb dX9_meets_0 rfl (lv_at hl 0 rfl) ?_
  refine lv_iload_n hx hb dX9_meets_1 rfl (lv_at hl 1 rfl) ?_
  replace hf := bd2_inv hf
  obtain ⟨r1, g2, hc3, hf⟩ := hf
  refine r_ciV (ws' := [(h_this, ob 9 [.ref h_this_s, .ref h_this_kept, .ref h_this_laid, .int x_this_isKept, .ref h_this_pile, .ref h_this_tape, .int x_this_taped, .ref h_this_letters, .int x_this_at, .int x_this_begun, .int x_this_token, .int x_this_value, .int x_this_opened, .int x_this_steps, .ref h_this_code0, .ref h_this_read, .ref h_this_saved, .ref h_this_plan, .ref h_this_bestPlan, .int x_this_most, .int x_this_many, .int x_this_few, .int x_this_everHome, .ref h_this_offThen, .ref h_this_paidThen, .int x_this_firstFit, .ref h_this_rows, .int x_this_rowMany, .ref h_this_sorts, .ref h_this_sizes, .ref h_this_number, .ref h_this_holds, .ref h_this_heldOne, .ref h_this_trace, .int x_this_traced, .int x_this_own, .int x_this_isParted]), (h_this_pile, ia G 200 g2), (h_this_s, ia G 313 f_this_s)]) C h (c_X9_willOf hc3) mv_X9_102 rfl 0 rfl [0, 1, 2] rfl rfl [1] [(h_this_pile, ia G 200 g2)] rfl rfl (by decide +kernel) rfl hl.1 rfl (Nat.le_of_ble_eq_true rfl) (rok (by decide)) dX9_meets_2 (fun H locs h => ?_)
  refine lv_istore_n (lv' := [(2, .int r1), (0, .ref h_this), (1, .int p0)]) hx hb dX9_meets_5 rfl hl (by decide) rfl (fun ls hl => ?_)
  refine lv_aload_n hx hb dX9_meets_6 rfl (lv_at hl 1 rfl) ?_
  refine lv_iload_n hx hb dX9_meets_7 rfl (lv_at hl 2 rfl) ?_
  refine lv_iconst (v := (4 : Int32)) hx hb dX9_meets_8 rfl ?_
  replace hf := bd1_inv hf
  obtain ⟨r4, hc5, hf⟩ := hf
  refine r_ciV0 C h (c_X9_get hc5) mv_X9_79 rfl 0 rfl [0, 2] rfl rfl hl.1 rfl (Nat.le_of_ble_eq_true rfl) (rok (by decide)) dX9_meets_9 (fun H locs h => ?_)
  refine lv_iconst (v := (1 : Int32)) hx hb dX9_meets_12 rfl ?_
  refine lv_icmp_eq (tgt := 21) hx hb dX9_meets_13 rfl (fun c6 => ?_) (fun c6 => ?_)
  · replace hf := ifp c6 hf
    refine lv_iconst (v := (0 : Int32)) hx hb dX9_meets_21 rfl ?_
    cases hf
    exact r_iret C h hr hlk rfl dX9_meets_22
  · replace hf := ifn c6 hf
    refine lv_iload_n hx hb dX9_meets_16 rfl (lv_at hl 0 rfl) ?_
    refine lv_iconst (v := (1 : Int32)) hx hb dX9_meets_17 rfl ?_
    refine lv_icmp_ne (tgt := 23) hx hb dX9_meets_18 rfl (fun c7 => ?_) (fun c7 => ?_)
    · replace hf := ifn c7 hf
      refine lv_iload_n hx hb dX9_meets_23 rfl (lv_at hl 0 rfl) ?_
      refine lv_if_ne (tgt := 33) hx hb dX9_meets_24 rfl (fun c8 => ?_) (fun c8 => ?_)
      · replace hf := ifn c8 hf
        refine lv_aload_n hx hb dX9_meets_33 rfl (lv_at hl 1 rfl) ?_
        refine lv_iload_n hx hb dX9_meets_34 rfl (lv_at hl 2 rfl) ?_
        refine lv_iconst (v := (1 : Int32)) hx hb dX9_meets_35 rfl ?_
        refine lv_aload_n hx hb dX9_meets_36 rfl (lv_at hl 1 rfl) ?_
        refine lv_iload_n hx hb dX9_meets_37 rfl (lv_at hl 2 rfl) ?_
        refine lv_iconst (v := (1 : Int32)) hx hb dX9_meets_38 rfl ?_
        replace hf := bd1_inv hf
        obtain ⟨r9, hc10, hf⟩ := hf
        refine r_ciV0 C h (c_X9_get hc10) mv_X9_79 rfl 0 rfl [0, 2] rfl rfl hl.1 rfl (Nat.le_of_ble_eq_true rfl) (rok (by decide)) dX9_meets_39 (fun H locs h => ?_)
        refine lv_bipush (v := (12 : Int32)) hx hb dX9_meets_42 rfl ?_
        refine lv_iadd hx hb dX9_meets_44 ?_
        refine lv_bipush (v := (99 : Int32)) hx hb dX9_meets_45 rfl ?_
        replace hf := bd1_inv hf
        obtain ⟨r11, hc12, hf⟩ := hf
        refine r_ciS0 C h (c_X9_held hc12) ms_X9_202 rfl [] rfl rfl hl.1 rfl (Nat.le_of_ble_eq_true rfl) (rok (by decide)) dX9_meets_47 (fun H locs h => ?_)
        replace hf := bd1_inv hf
        obtain ⟨g13, hc14, hf⟩ := hf
        refine r_cvV (ws' := [(h_this, ob 9 [.ref h_this_s, .ref h_this_kept, .ref h_this_laid, .int x_this_isKept, .ref h_this_pile, .ref h_this_tape, .int x_this_taped, .ref h_this_letters, .int x_this_at, .int x_this_begun, .int x_this_token, .int x_this_value, .int x_this_opened, .int x_this_steps, .ref h_this_code0, .ref h_this_read, .ref h_this_saved, .ref h_this_plan, .ref h_this_bestPlan, .int x_this_most, .int x_this_many, .int x_this_few, .int x_this_everHome, .ref h_this_offThen, .ref h_this_paidThen, .int x_this_firstFit, .ref h_this_rows, .int x_this_rowMany, .ref h_this_sorts, .ref h_this_sizes, .ref h_this_number, .ref h_this_holds, .ref h_this_heldOne, .ref h_this_trace, .int x_this_traced, .int x_this_own, .int x_this_isParted]), (h_this_pile, ia G 200 g2), (h_this_s, ia G 313 g13)]) C h (c_X9_puts hc14) mv_X9_195 rfl 0 rfl [0, 2] rfl rfl [2] [(h_this_s, ia G 313 g13)] rfl rfl (by decide +kernel) rfl hl.1 rfl (Nat.le_of_ble_eq_true rfl) (rok (by decide)) dX9_meets_50 (fun H locs h => ?_)
        refine lv_aload_n hx hb dX9_meets_53 rfl (lv_at hl 1 rfl) ?_
        replace hf := bd1_inv hf
        obtain ⟨r15, hc16, hf⟩ := hf
        refine r_ciV0 C h (c_X9_lightNow hc16) mv_X9_83 rfl 0 rfl [0, 2] rfl rfl hl.1 rfl (Nat.le_of_ble_eq_true rfl) (rok (by decide)) dX9_meets_54 (fun H locs h => ?_)
        refine lv_iconst (v := (4 : Int32)) hx hb dX9_meets_57 rfl ?_
        refine lv_irem hx hb dX9_meets_58 (by decide) ?_
        refine lv_iconst (v := (1 : Int32)) hx hb dX9_meets_59 rfl ?_
        refine lv_icmp_le (tgt := 67) hx hb dX9_meets_60 rfl (fun c17 => ?_) (fun c17 => ?_)
        · replace hf := ifp c17 hf
          refine lv_iconst (v := (0 : Int32)) hx hb dX9_meets_67 rfl ?_
          cases hf
          exact r_iret C h hr hlk rfl dX9_meets_68
        · replace hf := ifn c17 hf
          refine lv_iconst (v := (1 : Int32)) hx hb dX9_meets_63 rfl ?_
          refine lv_goto (tgt := 68) hx hb dX9_meets_64 rfl ?_
          cases hf
          exact r_iret C h hr hlk rfl dX9_meets_68
      · replace hf := ifp c8 hf
        refine lv_aload_n hx hb dX9_meets_27 rfl (lv_at hl 1 rfl) ?_
        refine lv_iload_n hx hb dX9_meets_28 rfl (lv_at hl 2 rfl) ?_
        replace hf := bd2_inv hf
        obtain ⟨r18, g19, hc20, hf⟩ := hf
        refine r_ciV (ws' := [(h_this, ob 9 [.ref h_this_s, .ref h_this_kept, .ref h_this_laid, .int x_this_isKept, .ref h_this_pile, .ref h_this_tape, .int x_this_taped, .ref h_this_letters, .int x_this_at, .int x_this_begun, .int x_this_token, .int x_this_value, .int x_this_opened, .int x_this_steps, .ref h_this_code0, .ref h_this_read, .ref h_this_saved, .ref h_this_plan, .ref h_this_bestPlan, .int x_this_most, .int x_this_many, .int x_this_few, .int x_this_everHome, .ref h_this_offThen, .ref h_this_paidThen, .int x_this_firstFit, .ref h_this_rows, .int x_this_rowMany, .ref h_this_sorts, .ref h_this_sizes, .ref h_this_number, .ref h_this_holds, .ref h_this_heldOne, .ref h_this_trace, .int x_this_traced, .int x_this_own, .int x_this_isParted]), (h_this_pile, ia G 200 g2), (h_this_s, ia G 313 g19)]) C h (c_X9_enters hc20) mv_X9_199 rfl 0 rfl [0, 2] rfl rfl [2] [(h_this_s, ia G 313 g19)] rfl rfl (by decide +kernel) rfl hl.1 rfl (Nat.le_of_ble_eq_true rfl) (rok (by decide)) dX9_meets_29 (fun H locs h => ?_)
        cases hf
        exact r_iret C h hr hlk rfl dX9_meets_32
    · replace hf := ifp c7 hf
      refine lv_iconst (v := (0 : Int32)) hx hb dX9_meets_21 rfl ?_
      cases hf
      exact r_iret C h hr hlk rfl dX9_meets_22
set_option maxRecDepth 100000 in
set_option maxHeartbeats 4000000 in
theorem c_X9_goesBy {l : Launch} {G : Gt} {h_this h_this_s h_this_kept h_this_laid h_this_pile h_this_tape h_this_letters h_this_code0 h_this_read h_this_saved h_this_plan h_this_bestPlan h_this_offThen h_this_paidThen h_this_rows h_this_sorts h_this_sizes h_this_number h_this_holds h_this_heldOne h_this_trace : Nat} {p0 : Int32} {x_this_isKept : Int32} {x_this_taped : Int32} {x_this_at : Int32} {x_this_begun : Int32} {x_this_token : Int32} {x_this_value : Int32} {x_this_opened : Int32} {x_this_steps : Int32} {x_this_most : Int32} {x_this_many : Int32} {x_this_few : Int32} {x_this_everHome : Int32} {x_this_firstFit : Int32} {x_this_rowMany : Int32} {x_this_traced : Int32} {x_this_own : Int32} {x_this_isParted : Int32} {f_this_pile : Nat → Int32} {f_this_s : Nat → Int32} {r : Int32} {m_this_pile : Nat → Int32} {m_this_s : Nat → Int32} (hf : f_X9_goesBy p0 f_this_pile f_this_s = some (r, m_this_pile, m_this_s)) : mFi l G yX9_goesBy cX9_goesBy 7 .int 6 [.ref h_this, .int p0] [(h_this, ob 9 [.ref h_this_s, .ref h_this_kept, .ref h_this_laid, .int x_this_isKept, .ref h_this_pile, .ref h_this_tape, .int x_this_taped, .ref h_this_letters, .int x_this_at, .int x_this_begun, .int x_this_token, .int x_this_value, .int x_this_opened, .int x_this_steps, .ref h_this_code0, .ref h_this_read, .ref h_this_saved, .ref h_this_plan, .ref h_this_bestPlan, .int x_this_most, .int x_this_many, .int x_this_few, .int x_this_everHome, .ref h_this_offThen, .ref h_this_paidThen, .int x_this_firstFit, .ref h_this_rows, .int x_this_rowMany, .ref h_this_sorts, .ref h_this_sizes, .ref h_this_number, .ref h_this_holds, .ref h_this_heldOne, .ref h_this_trace, .int x_this_traced, .int x_this_own, .int x_this_isParted]), (h_this_pile, ia G 200 f_this_pile), (h_this_s, ia G 313 f_this_s)] r [(h_this, ob 9 [.ref h_this_s, .ref h_this_kept, .ref h_this_laid, .int x_this_isKept, .ref h_this_pile, .ref h_this_tape, .int x_this_taped, .ref h_this_letters, .int x_this_at, .int x_this_begun, .int x_this_token, .int x_this_value, .int x_this_opened, .int x_this_steps, .ref h_this_code0, .ref h_this_read, .ref h_this_saved, .ref h_this_plan, .ref h_this_bestPlan, .int x_this_most, .int x_this_many, .int x_this_few, .int x_this_everHome, .ref h_this_offThen, .ref h_this_paidThen, .int x_this_firstFit, .ref h_this_rows, .int x_this_rowMany, .ref h_this_sorts, .ref h_this_sizes, .ref h_this_number, .ref h_this_holds, .ref h_this_heldOne, .ref h_this_trace, .int x_this_traced, .int x_this_own, .int x_this_isParted]), (h_this_pile, ia G 200 m_this_pile), (h_this_s, ia G 313 m_this_s)] := by
  refine mFi.of (by decide +kernel) (Nat.le_of_ble_eq_true rfl) ?_
  intro p e s m below meth c A C hr hlk h ls hl
  obtain ⟨hx, hb, hml, hown, hts⟩ := id C
  replace hl : lv_has ls 7 [(0, .ref h_this), (1, .int p0)] := hl
  unfold f_X9_goesBy at hf
  refine with_K G A 7 (fun K hK1 hK2 => ?_)
  have B136 : ∀ (s0 : Int32) (s1 : Int32) (g_this_pile : Nat → Int32) (g_this_s : Nat → Int32), f_X9_goesBy_b136 s0 s1 g_this_pile g_this_s = some (r, m_this_pile, m_this_s) → K 136 [.int s1, .int s0] [(h_this, ob 9 [.ref h_this_s, .ref h_this_kept, .ref h_this_laid, .int x_this_isKept, .ref h_this_pile, .ref h_this_tape, .int x_this_taped, .ref h_this_letters, .int x_this_at, .int x_this_begun, .int x_this_token, .int x_this_value, .int x_this_opened, .int x_this_steps, .ref h_this_code0, .ref h_this_read, .ref h_this_saved, .ref h_this_plan, .ref h_this_bestPlan, .int x_this_most, .int x_this_many, .int x_this_few, .int x_this_everHome, .ref h_this_offThen, .ref h_this_paidThen, .int x_this_firstFit, .ref h_this_rows, .int x_this_rowMany, .ref h_this_sorts, .ref h_this_sizes, .ref h_this_number, .ref h_this_holds, .ref h_this_heldOne, .ref h_this_trace, .int x_this_traced, .int x_this_own, .int x_this_isParted]), (h_this_pile, ia G 200 g_this_pile), (h_this_s, ia G 313 g_this_s)] [(0, .ref h_this)] := by
    intro s0 s1 g_this_pile g_this_s hf
    unfold f_X9_goesBy_b136 at hf
    refine hK1 _ _ _ _ (fun H locs ls h hl => ?_)
    refine lv_iadd hx hb dX9_goesBy_136 ?_
    refine lv_topi (fun t8 et8 => ?_)
    replace hf := lt1_inv et8 hf
    refine lv_istore_n (lv' := [(3, .int t8), (0, .ref h_this)]) hx hb dX9_goesBy_137 rfl hl (by decide) rfl (fun ls hl => ?_)
    refine lv_aload_n hx hb dX9_goesBy_138 rfl (lv_at hl 1 rfl) ?_
    refine r_get C h fk_X9_9 0 rfl rfl dX9_goesBy_139 ?_
    refine lv_iconst (v := (0 : Int32)) hx hb dX9_goesBy_142 rfl ?_
    refine lv_dup2_11 hx hb dX9_goesBy_143 rfl rfl ?_
    refine r_ialdL C h 2 rfl (vlit rfl) 0 rfl dX9_goesBy_144 ?_
    refine lv_iconst (v := (1 : Int32)) hx hb dX9_goesBy_145 rfl ?_
    refine lv_iadd hx hb dX9_goesBy_146 ?_
    refine lv_topi (fun t9 et9 => ?_)
    replace hf := lt1_inv et9 hf
    refine r_iastL (ws' := [(h_this, ob 9 [.ref h_this_s, .ref h_this_kept, .ref h_this_laid, .int x_this_isKept, .ref h_this_pile, .ref h_this_tape, .int x_this_taped, .ref h_this_letters, .int x_this_at, .int x_this_begun, .int x_this_token, .int x_this_value, .int x_this_opened, .int x_this_steps, .ref h_this_code0, .ref h_this_read, .ref h_this_saved, .ref h_this_plan, .ref h_this_bestPlan, .int x_this_most, .int x_this_many, .int x_this_few, .int x_this_everHome, .ref h_this_offThen, .ref h_this_paidThen, .int x_this_firstFit, .ref h_this_rows, .int x_this_rowMany, .ref h_this_sorts, .ref h_this_sizes, .ref h_this_number, .ref h_this_holds, .ref h_this_heldOne, .ref h_this_trace, .int x_this_traced, .int x_this_own, .int x_this_isParted]), (h_this_pile, ia G 200 g_this_pile), (h_this_s, ia G 313 (upd g_this_s 0 t9))]) C h 2 rfl (vlit rfl) 0 rfl dX9_goesBy_147 rfl (fun H locs h => ?_)
    refine lv_aload_n hx hb dX9_goesBy_148 rfl (lv_at hl 1 rfl) ?_
    refine r_get C h fk_X9_9 0 rfl rfl dX9_goesBy_149 ?_
    refine lv_iconst (v := (2 : Int32)) hx hb dX9_goesBy_152 rfl ?_
    refine lv_dup2_11 hx hb dX9_goesBy_153 rfl rfl ?_
    refine r_ialdL C h 2 rfl (vlit rfl) 2 rfl dX9_goesBy_154 ?_
    refine lv_iload_n hx hb dX9_goesBy_155 rfl (lv_at hl 0 rfl) ?_
    refine lv_iadd hx hb dX9_goesBy_156 ?_
    refine lv_topi (fun t10 et10 => ?_)
    replace hf := lt1_inv et10 hf
    refine r_iastL (ws' := [(h_this, ob 9 [.ref h_this_s, .ref h_this_kept, .ref h_this_laid, .int x_this_isKept, .ref h_this_pile, .ref h_this_tape, .int x_this_taped, .ref h_this_letters, .int x_this_at, .int x_this_begun, .int x_this_token, .int x_this_value, .int x_this_opened, .int x_this_steps, .ref h_this_code0, .ref h_this_read, .ref h_this_saved, .ref h_this_plan, .ref h_this_bestPlan, .int x_this_most, .int x_this_many, .int x_this_few, .int x_this_everHome, .ref h_this_offThen, .ref h_this_paidThen, .int x_this_firstFit, .ref h_this_rows, .int x_this_rowMany, .ref h_this_sorts, .ref h_this_sizes, .ref h_this_number, .ref h_this_holds, .ref h_this_heldOne, .ref h_this_trace, .int x_this_traced, .int x_this_own, .int x_this_isParted]), (h_this_pile, ia G 200 g_this_pile), (h_this_s, ia G 313 (upd (upd g_this_s 0 t9) 2 t10))]) C h 2 rfl (vlit rfl) 2 rfl dX9_goesBy_157 rfl (fun H locs h => ?_)
    refine lv_iload_n hx hb dX9_goesBy_158 rfl (lv_at hl 0 rfl) ?_
    cases hf
    exact r_iret C h hr hlk rfl dX9_goesBy_159
  have B115 : ∀ (v3 : Int32) (v4 : Int32) (g_this_pile : Nat → Int32) (g_this_s : Nat → Int32), f_X9_goesBy_b115 v3 v4 g_this_pile g_this_s = some (r, m_this_pile, m_this_s) → K 115 ([] : List Value) [(h_this, ob 9 [.ref h_this_s, .ref h_this_kept, .ref h_this_laid, .int x_this_isKept, .ref h_this_pile, .ref h_this_tape, .int x_this_taped, .ref h_this_letters, .int x_this_at, .int x_this_begun, .int x_this_token, .int x_this_value, .int x_this_opened, .int x_this_steps, .ref h_this_code0, .ref h_this_read, .ref h_this_saved, .ref h_this_plan, .ref h_this_bestPlan, .int x_this_most, .int x_this_many, .int x_this_few, .int x_this_everHome, .ref h_this_offThen, .ref h_this_paidThen, .int x_this_firstFit, .ref h_this_rows, .int x_this_rowMany, .ref h_this_sorts, .ref h_this_sizes, .ref h_this_number, .ref h_this_holds, .ref h_this_heldOne, .ref h_this_trace, .int x_this_traced, .int x_this_own, .int x_this_isParted]), (h_this_pile, ia G 200 g_this_pile), (h_this_s, ia G 313 g_this_s)] [(0, .ref h_this), (3, .int v3), (4, .int v4)] := by
    intro v3 v4 g_this_pile g_this_s hf
    unfold f_X9_goesBy_b115 at hf
    refine hK1 _ _ _ _ (fun H locs ls h hl => ?_)
    refine lv_iload hx hb dX9_goesBy_115 (lv_at hl 2 rfl) ?_
    refine lv_aload_n hx hb dX9_goesBy_117 rfl (lv_at hl 0 rfl) ?_
    replace hf := bd1_inv hf
    obtain ⟨r4, hc5, hf⟩ := hf
    refine r_ciV0 C h (c_X9_onRock hc5) mv_X9_217 rfl 0 rfl [0, 2] rfl rfl hl.1 rfl (Nat.le_of_ble_eq_true rfl) (rok (by decide)) dX9_goesBy_118 (fun H locs h => ?_)
    refine lv_isub hx hb dX9_goesBy_121 ?_
    refine lv_topi (fun t6 et6 => ?_)
    replace hf := lt1_inv et6 hf
    refine lv_istore (lv' := [(5, .int t6), (0, .ref h_this), (3, .int v3), (4, .int v4)]) hx hb dX9_goesBy_122 hl (by decide) rfl (fun ls hl => ?_)
    refine lv_iload_n hx hb dX9_goesBy_124 rfl (lv_at hl 2 rfl) ?_
    refine lv_iload hx hb dX9_goesBy_125 (lv_at hl 0 rfl) ?_
    refine lv_if_le (tgt := 135) hx hb dX9_goesBy_127 rfl (fun c7 => ?_) (fun c7 => ?_)
    · replace hf := ifp c7 hf
      refine lv_iconst (v := (0 : Int32)) hx hb dX9_goesBy_135 rfl ?_
      exact hK2 _ _ _ _ (B136 v3 (0 : Int32) g_this_pile g_this_s hf) _ _ _ h (lv_sub hl [1] rfl)
    · replace hf := ifn c7 hf
      refine lv_iload hx hb dX9_goesBy_130 (lv_at hl 0 rfl) ?_
      refine lv_goto (tgt := 136) hx hb dX9_goesBy_132 rfl ?_
      exact hK2 _ _ _ _ (B136 v3 t6 g_this_pile g_this_s hf) _ _ _ h (lv_sub hl [1] rfl)
  have L35 : ∀ (n : Nat) (v3 : Int32) (v4 : Int32) (v5 : Int32) (g_this_pile : Nat → Int32) (g_this_s : Nat → Int32), f_X9_goesBy_L35 n v3 v4 v5 g_this_pile g_this_s = some (r, m_this_pile, m_this_s) → K 35 ([] : List Value) [(h_this, ob 9 [.ref h_this_s, .ref h_this_kept, .ref h_this_laid, .int x_this_isKept, .ref h_this_pile, .ref h_this_tape, .int x_this_taped, .ref h_this_letters, .int x_this_at, .int x_this_begun, .int x_this_token, .int x_this_value, .int x_this_opened, .int x_this_steps, .ref h_this_code0, .ref h_this_read, .ref h_this_saved, .ref h_this_plan, .ref h_this_bestPlan, .int x_this_most, .int x_this_many, .int x_this_few, .int x_this_everHome, .ref h_this_offThen, .ref h_this_paidThen, .int x_this_firstFit, .ref h_this_rows, .int x_this_rowMany, .ref h_this_sorts, .ref h_this_sizes, .ref h_this_number, .ref h_this_holds, .ref h_this_heldOne, .ref h_this_trace, .int x_this_traced, .int x_this_own, .int x_this_isParted]), (h_this_pile, ia G 200 g_this_pile), (h_this_s, ia G 313 g_this_s)] [(0, .ref h_this), (3, .int v3), (4, .int v4), (5, .int v5)] := by
    intro n
    induction n with
    | zero =>
      intro v3 v4 v5 g_this_pile g_this_s hf
      replace hf : (none : Option _) = some _ := hf
      cases hf
    | succ n ih =>
      intro v3 v4 v5 g_this_pile g_this_s hf
      rw [f_X9_goesBy_L35] at hf
      refine hK1 _ _ _ _ (fun H locs ls h hl => ?_)
      refine lv_iload hx hb dX9_goesBy_35 (lv_at hl 3 rfl) ?_
      refine lv_aload_n hx hb dX9_goesBy_37 rfl (lv_at hl 0 rfl) ?_
      refine r_get C h fk_X9_9 0 rfl rfl dX9_goesBy_38 ?_
      refine lv_iconst (v := (4 : Int32)) hx hb dX9_goesBy_41 rfl ?_
      refine r_ialdL C h 2 rfl (vlit rfl) 4 rfl dX9_goesBy_42 ?_
      refine lv_icmp_ge (tgt := 115) hx hb dX9_goesBy_43 rfl (fun c3 => ?_) (fun c3 => ?_)
      · replace hf := ifp c3 hf
        exact hK2 _ _ _ _ (B115 v3 v4 g_this_pile g_this_s hf) _ _ _ h (lv_sub hl [0, 1, 2] rfl)
      · replace hf := ifn c3 hf
        refine lv_iload hx hb dX9_goesBy_46 (lv_at hl 2 rfl) ?_
        refine lv_aload_n hx hb dX9_goesBy_48 rfl (lv_at hl 0 rfl) ?_
        refine lv_iload hx hb dX9_goesBy_49 (lv_at hl 3 rfl) ?_
        refine lv_iconst (v := (4 : Int32)) hx hb dX9_goesBy_51 rfl ?_
        replace hf := bd1_inv hf
        obtain ⟨r11, hc12, hf⟩ := hf
        refine r_ciV0 C h (c_X9_get hc12) mv_X9_79 rfl 0 rfl [0, 2] rfl rfl hl.1 rfl (Nat.le_of_ble_eq_true rfl) (rok (by decide)) dX9_goesBy_52 (fun H locs h => ?_)
        refine lv_iadd hx hb dX9_goesBy_55 ?_
        refine lv_topi (fun t13 et13 => ?_)
        replace hf := lt1_inv et13 hf
        refine lv_istore (lv' := [(4, .int t13), (0, .ref h_this), (3, .int v3), (5, .int v5)]) hx hb dX9_goesBy_56 hl (by decide) rfl (fun ls hl => ?_)
        refine lv_aload_n hx hb dX9_goesBy_58 rfl (lv_at hl 1 rfl) ?_
        refine lv_iload hx hb dX9_goesBy_59 (lv_at hl 3 rfl) ?_
        refine lv_iconst (v := (1 : Int32)) hx hb dX9_goesBy_61 rfl ?_
        replace hf := bd1_inv hf
        obtain ⟨r14, hc15, hf⟩ := hf
        refine r_ciV0 C h (c_X9_get hc15) mv_X9_79 rfl 0 rfl [0, 2] rfl rfl hl.1 rfl (Nat.le_of_ble_eq_true rfl) (rok (by decide)) dX9_goesBy_62 (fun H locs h => ?_)
        refine lv_aload_n hx hb dX9_goesBy_65 rfl (lv_at hl 1 rfl) ?_
        refine lv_iload hx hb dX9_goesBy_66 (lv_at hl 3 rfl) ?_
        replace hf := bd1_inv hf
        obtain ⟨r16, hc17, hf⟩ := hf
        refine r_ciV0 C h (c_X9_nearsOf hc17) mv_X9_214 rfl 0 rfl [0, 2] rfl rfl hl.1 rfl (Nat.le_of_ble_eq_true rfl) (rok (by decide)) dX9_goesBy_68 (fun H locs h => ?_)
        refine lv_isub hx hb dX9_goesBy_71 ?_
        refine lv_bipush (v := (99 : Int32)) hx hb dX9_goesBy_72 rfl ?_
        replace hf := bd1_inv hf
        obtain ⟨r18, hc19, hf⟩ := hf
        refine r_ciS0 C h (c_X9_held hc19) ms_X9_202 rfl [] rfl rfl hl.1 rfl (Nat.le_of_ble_eq_true rfl) (rok (by decide)) dX9_goesBy_74 (fun H locs h => ?_)
        refine lv_istore (lv' := [(6, .int r18), (4, .int t13), (0, .ref h_this), (3, .int v3), (5, .int v5)]) hx hb dX9_goesBy_77 hl (by decide) rfl (fun ls hl => ?_)
        refine lv_aload_n hx hb dX9_goesBy_79 rfl (lv_at hl 2 rfl) ?_
        refine lv_iload hx hb dX9_goesBy_80 (lv_at hl 4 rfl) ?_
        refine lv_iconst (v := (1 : Int32)) hx hb dX9_goesBy_82 rfl ?_
        refine lv_aload_n hx hb dX9_goesBy_83 rfl (lv_at hl 2 rfl) ?_
        refine lv_iload hx hb dX9_goesBy_84 (lv_at hl 4 rfl) ?_
        refine lv_iconst (v := (4 : Int32)) hx hb dX9_goesBy_86 rfl ?_
        replace hf := bd1_inv hf
        obtain ⟨r20, hc21, hf⟩ := hf
        refine r_ciV0 C h (c_X9_get hc21) mv_X9_79 rfl 0 rfl [0, 2] rfl rfl hl.1 rfl (Nat.le_of_ble_eq_true rfl) (rok (by decide)) dX9_goesBy_87 (fun H locs h => ?_)
        refine lv_iconst (v := (1 : Int32)) hx hb dX9_goesBy_90 rfl ?_
        refine lv_icmp_ne (tgt := 104) hx hb dX9_goesBy_91 rfl (fun c22 => ?_) (fun c22 => ?_)
        · replace hf := ifn c22 hf
          refine lv_iload hx hb dX9_goesBy_104 (lv_at hl 0 rfl) ?_
          replace hf := bd1_inv hf
          obtain ⟨g23, hc24, hf⟩ := hf
          refine r_cvV (ws' := [(h_this, ob 9 [.ref h_this_s, .ref h_this_kept, .ref h_this_laid, .int x_this_isKept, .ref h_this_pile, .ref h_this_tape, .int x_this_taped, .ref h_this_letters, .int x_this_at, .int x_this_begun, .int x_this_token, .int x_this_value, .int x_this_opened, .int x_this_steps, .ref h_this_code0, .ref h_this_read, .ref h_this_saved, .ref h_this_plan, .ref h_this_bestPlan, .int x_this_most, .int x_this_many, .int x_this_few, .int x_this_everHome, .ref h_this_offThen, .ref h_this_paidThen, .int x_this_firstFit, .ref h_this_rows, .int x_this_rowMany, .ref h_this_sorts, .ref h_this_sizes, .ref h_this_number, .ref h_this_holds, .ref h_this_heldOne, .ref h_this_trace, .int x_this_traced, .int x_this_own, .int x_this_isParted]), (h_this_pile, ia G 200 g_this_pile), (h_this_s, ia G 313 g23)]) C h (c_X9_puts hc24) mv_X9_195 rfl 0 rfl [0, 2] rfl rfl [2] [(h_this_s, ia G 313 g23)] rfl rfl (by decide +kernel) rfl hl.1 rfl (Nat.le_of_ble_eq_true rfl) (rok (by decide)) dX9_goesBy_106 (fun H locs h => ?_)
          obtain ⟨t25, et25⟩ : ∃ y : Int32, y = v5 + (1 : Int32) := ⟨_, rfl⟩
          replace hf := lt1_inv et25 hf
          refine lv_iinc (v := t25) (lv' := [(5, .int t25), (6, .int r18), (4, .int t13), (0, .ref h_this), (3, .int v3)]) hx hb dX9_goesBy_109 hl (k := 4) rfl (by rw [et25]; rfl) (by decide) rfl (fun ls hl => ?_)
          refine lv_goto (tgt := 35) hx hb dX9_goesBy_112 rfl ?_
          exact hK2 _ _ _ _ (ih v3 t13 t25 g_this_pile g23 hf) _ _ _ h (lv_sub hl [3, 4, 2, 0] rfl)
        · replace hf := ifp c22 hf
          refine lv_aload_n hx hb dX9_goesBy_94 rfl (lv_at hl 2 rfl) ?_
          refine lv_iload hx hb dX9_goesBy_95 (lv_at hl 4 rfl) ?_
          refine lv_iconst (v := (1 : Int32)) hx hb dX9_goesBy_97 rfl ?_
          replace hf := bd1_inv hf
          obtain ⟨r26, hc27, hf⟩ := hf
          refine r_ciV0 C h (c_X9_get hc27) mv_X9_79 rfl 0 rfl [0, 2] rfl rfl hl.1 rfl (Nat.le_of_ble_eq_true rfl) (rok (by decide)) dX9_goesBy_98 (fun H locs h => ?_)
          refine lv_goto (tgt := 106) hx hb dX9_goesBy_101 rfl ?_
          replace hf := bd1_inv hf
          obtain ⟨g28, hc29, hf⟩ := hf
          refine r_cvV (ws' := [(h_this, ob 9 [.ref h_this_s, .ref h_this_kept, .ref h_this_laid, .int x_this_isKept, .ref h_this_pile, .ref h_this_tape, .int x_this_taped, .ref h_this_letters, .int x_this_at, .int x_this_begun, .int x_this_token, .int x_this_value, .int x_this_opened, .int x_this_steps, .ref h_this_code0, .ref h_this_read, .ref h_this_saved, .ref h_this_plan, .ref h_this_bestPlan, .int x_this_most, .int x_this_many, .int x_this_few, .int x_this_everHome, .ref h_this_offThen, .ref h_this_paidThen, .int x_this_firstFit, .ref h_this_rows, .int x_this_rowMany, .ref h_this_sorts, .ref h_this_sizes, .ref h_this_number, .ref h_this_holds, .ref h_this_heldOne, .ref h_this_trace, .int x_this_traced, .int x_this_own, .int x_this_isParted]), (h_this_pile, ia G 200 g_this_pile), (h_this_s, ia G 313 g28)]) C h (c_X9_puts hc29) mv_X9_195 rfl 0 rfl [0, 2] rfl rfl [2] [(h_this_s, ia G 313 g28)] rfl rfl (by decide +kernel) rfl hl.1 rfl (Nat.le_of_ble_eq_true rfl) (rok (by decide)) dX9_goesBy_106 (fun H locs h => ?_)
          obtain ⟨t30, et30⟩ : ∃ y : Int32, y = v5 + (1 : Int32) := ⟨_, rfl⟩
          replace hf := lt1_inv et30 hf
          refine lv_iinc (v := t30) (lv' := [(5, .int t30), (6, .int r18), (4, .int t13), (0, .ref h_this), (3, .int v3)]) hx hb dX9_goesBy_109 hl (k := 4) rfl (by rw [et30]; rfl) (by decide) rfl (fun ls hl => ?_)
          refine lv_goto (tgt := 35) hx hb dX9_goesBy_112 rfl ?_
          exact hK2 _ _ _ _ (ih v3 t13 t30 g_this_pile g28 hf) _ _ _ h (lv_sub hl [3, 4, 2, 0] rfl)
  have B28 : ∀ (s0 : Int32) (g_this_pile : Nat → Int32) (g_this_s : Nat → Int32), f_X9_goesBy_b28 s0 g_this_pile g_this_s = some (r, m_this_pile, m_this_s) → K 28 [.int s0] [(h_this, ob 9 [.ref h_this_s, .ref h_this_kept, .ref h_this_laid, .int x_this_isKept, .ref h_this_pile, .ref h_this_tape, .int x_this_taped, .ref h_this_letters, .int x_this_at, .int x_this_begun, .int x_this_token, .int x_this_value, .int x_this_opened, .int x_this_steps, .ref h_this_code0, .ref h_this_read, .ref h_this_saved, .ref h_this_plan, .ref h_this_bestPlan, .int x_this_most, .int x_this_many, .int x_this_few, .int x_this_everHome, .ref h_this_offThen, .ref h_this_paidThen, .int x_this_firstFit, .ref h_this_rows, .int x_this_rowMany, .ref h_this_sorts, .ref h_this_sizes, .ref h_this_number, .ref h_this_holds, .ref h_this_heldOne, .ref h_this_trace, .int x_this_traced, .int x_this_own, .int x_this_isParted]), (h_this_pile, ia G 200 g_this_pile), (h_this_s, ia G 313 g_this_s)] [(0, .ref h_this)] := by
    intro s0 g_this_pile g_this_s hf
    unfold f_X9_goesBy_b28 at hf
    refine hK1 _ _ _ _ (fun H locs ls h hl => ?_)
    refine lv_istore_n (lv' := [(3, .int s0), (0, .ref h_this)]) hx hb dX9_goesBy_28 rfl hl (by decide) rfl (fun ls hl => ?_)
    refine lv_iconst (v := (0 : Int32)) hx hb dX9_goesBy_29 rfl ?_
    refine lv_istore (lv' := [(4, .int (0 : Int32)), (3, .int s0), (0, .ref h_this)]) hx hb dX9_goesBy_30 hl (by decide) rfl (fun ls hl => ?_)
    refine lv_iconst (v := (0 : Int32)) hx hb dX9_goesBy_32 rfl ?_
    refine lv_istore (lv' := [(5, .int (0 : Int32)), (4, .int (0 : Int32)), (3, .int s0), (0, .ref h_this)]) hx hb dX9_goesBy_33 hl (by decide) rfl (fun ls hl => ?_)
    exact hK2 _ _ _ _ (L35 1000 s0 (0 : Int32) (0 : Int32) g_this_pile g_this_s hf) _ _ _ h (lv_sub hl [3, 2, 1, 0] rfl)
  have B14 : ∀ (s0 : Int32) (g_this_pile : Nat → Int32), f_X9_goesBy_b14 f_this_s s0 g_this_pile = some (r, m_this_pile, m_this_s) → K 14 [.int s0] [(h_this, ob 9 [.ref h_this_s, .ref h_this_kept, .ref h_this_laid, .int x_this_isKept, .ref h_this_pile, .ref h_this_tape, .int x_this_taped, .ref h_this_letters, .int x_this_at, .int x_this_begun, .int x_this_token, .int x_this_value, .int x_this_opened, .int x_this_steps, .ref h_this_code0, .ref h_this_read, .ref h_this_saved, .ref h_this_plan, .ref h_this_bestPlan, .int x_this_most, .int x_this_many, .int x_this_few, .int x_this_everHome, .ref h_this_offThen, .ref h_this_paidThen, .int x_this_firstFit, .ref h_this_rows, .int x_this_rowMany, .ref h_this_sorts, .ref h_this_sizes, .ref h_this_number, .ref h_this_holds, .ref h_this_heldOne, .ref h_this_trace, .int x_this_traced, .int x_this_own, .int x_this_isParted]), (h_this_pile, ia G 200 g_this_pile), (h_this_s, ia G 313 f_this_s)] [(0, .ref h_this)] := by
    intro s0 g_this_pile hf
    unfold f_X9_goesBy_b14 at hf
    refine hK1 _ _ _ _ (fun H locs ls h hl => ?_)
    refine lv_istore_n (lv' := [(2, .int s0), (0, .ref h_this)]) hx hb dX9_goesBy_14 rfl hl (by decide) rfl (fun ls hl => ?_)
    refine lv_iload_n hx hb dX9_goesBy_15 rfl (lv_at hl 0 rfl) ?_
    refine lv_if_lt (tgt := 27) hx hb dX9_goesBy_16 rfl (fun c2 => ?_) (fun c2 => ?_)
    · replace hf := ifp c2 hf
      refine lv_iconst (v := (0 : Int32)) hx hb dX9_goesBy_27 rfl ?_
      exact hK2 _ _ _ _ (B28 (0 : Int32) g_this_pile f_this_s hf) _ _ _ h (lv_sub hl [1] rfl)
    · replace hf := ifn c2 hf
      refine lv_aload_n hx hb dX9_goesBy_19 rfl (lv_at hl 1 rfl) ?_
      refine lv_iload_n hx hb dX9_goesBy_20 rfl (lv_at hl 0 rfl) ?_
      replace hf := bd3_inv hf
      obtain ⟨r31, g32, g33, hc34, hf⟩ := hf
      refine r_ciV (ws' := [(h_this, ob 9 [.ref h_this_s, .ref h_this_kept, .ref h_this_laid, .int x_this_isKept, .ref h_this_pile, .ref h_this_tape, .int x_this_taped, .ref h_this_letters, .int x_this_at, .int x_this_begun, .int x_this_token, .int x_this_value, .int x_this_opened, .int x_this_steps, .ref h_this_code0, .ref h_this_read, .ref h_this_saved, .ref h_this_plan, .ref h_this_bestPlan, .int x_this_most, .int x_this_many, .int x_this_few, .int x_this_everHome, .ref h_this_offThen, .ref h_this_paidThen, .int x_this_firstFit, .ref h_this_rows, .int x_this_rowMany, .ref h_this_sorts, .ref h_this_sizes, .ref h_this_number, .ref h_this_holds, .ref h_this_heldOne, .ref h_this_trace, .int x_this_traced, .int x_this_own, .int x_this_isParted]), (h_this_pile, ia G 200 g32), (h_this_s, ia G 313 g33)]) C h (c_X9_meets hc34) mv_X9_211 rfl 0 rfl [0, 1, 2] rfl rfl [1, 2] [(h_this_pile, ia G 200 g32), (h_this_s, ia G 313 g33)] rfl rfl (by decide +kernel) rfl hl.1 rfl (Nat.le_of_ble_eq_true rfl) (rok (by decide)) dX9_goesBy_21 (fun H locs h => ?_)
      refine lv_goto (tgt := 28) hx hb dX9_goesBy_24 rfl ?_
      exact hK2 _ _ _ _ (B28 r31 g32 g33 hf) _ _ _ h (lv_sub hl [1] rfl)
  refine lv_iload_n hx hb dX9_goesBy_0 rfl (lv_at hl 1 rfl) ?_
  refine lv_if_ge (tgt := 11) hx hb dX9_goesBy_1 rfl (fun c1 => ?_) (fun c1 => ?_)
  · replace hf := ifp c1 hf
    refine lv_iload_n hx hb dX9_goesBy_11 rfl (lv_at hl 1 rfl) ?_
    refine lv_iconst (v := (1 : Int32)) hx hb dX9_goesBy_12 rfl ?_
    refine lv_isub hx hb dX9_goesBy_13 ?_
    exact hK2 _ _ _ _ (B14 (p0 - (1 : Int32)) f_this_pile hf) _ _ _ h (lv_sub hl [0] rfl)
  · replace hf := ifn c1 hf
    refine lv_aload_n hx hb dX9_goesBy_4 rfl (lv_at hl 0 rfl) ?_
    replace hf := bd2_inv hf
    obtain ⟨r35, g36, hc37, hf⟩ := hf
    refine r_ciV (ws' := [(h_this, ob 9 [.ref h_this_s, .ref h_this_kept, .ref h_this_laid, .int x_this_isKept, .ref h_this_pile, .ref h_this_tape, .int x_this_taped, .ref h_this_letters, .int x_this_at, .int x_this_begun, .int x_this_token, .int x_this_value, .int x_this_opened, .int x_this_steps, .ref h_this_code0, .ref h_this_read, .ref h_this_saved, .ref h_this_plan, .ref h_this_bestPlan, .int x_this_most, .int x_this_many, .int x_this_few, .int x_this_everHome, .ref h_this_offThen, .ref h_this_paidThen, .int x_this_firstFit, .ref h_this_rows, .int x_this_rowMany, .ref h_this_sorts, .ref h_this_sizes, .ref h_this_number, .ref h_this_holds, .ref h_this_heldOne, .ref h_this_trace, .int x_this_traced, .int x_this_own, .int x_this_isParted]), (h_this_pile, ia G 200 g36), (h_this_s, ia G 313 f_this_s)]) C h (c_X9_restOne hc37) mv_X9_208 rfl 0 rfl [0, 1, 2] rfl rfl [1] [(h_this_pile, ia G 200 g36)] rfl rfl (by decide +kernel) rfl hl.1 rfl (Nat.le_of_ble_eq_true rfl) (rok (by decide)) dX9_goesBy_5 (fun H locs h => ?_)
    refine lv_goto (tgt := 14) hx hb dX9_goesBy_8 rfl ?_
    exact hK2 _ _ _ _ (B14 r35 g36 hf) _ _ _ h (lv_sub hl [0] rfl)
set_option maxRecDepth 100000 in
set_option maxHeartbeats 4000000 in
theorem c_X9_watch {l : Launch} {G : Gt} {h_this h_this_s h_this_kept h_this_laid h_this_pile h_this_tape h_this_letters h_this_code0 h_this_read h_this_saved h_this_plan h_this_bestPlan h_this_offThen h_this_paidThen h_this_rows h_this_sorts h_this_sizes h_this_number h_this_holds h_this_heldOne h_this_trace : Nat} {x_this_isKept : Int32} {x_this_taped : Int32} {x_this_at : Int32} {x_this_begun : Int32} {x_this_token : Int32} {x_this_value : Int32} {x_this_opened : Int32} {x_this_steps : Int32} {x_this_most : Int32} {x_this_many : Int32} {x_this_few : Int32} {x_this_everHome : Int32} {x_this_firstFit : Int32} {x_this_rowMany : Int32} {x_this_traced : Int32} {x_this_own : Int32} {x_this_isParted : Int32} {f_this_pile : Nat → Int32} {f_this_s : Nat → Int32} {r : Int32} {m_this_pile : Nat → Int32} {m_this_s : Nat → Int32} (hf : f_X9_watch f_this_pile f_this_s = some (r, m_this_pile, m_this_s)) : mFi l G yX9_watch cX9_watch 1 .int 7 [.ref h_this] [(h_this, ob 9 [.ref h_this_s, .ref h_this_kept, .ref h_this_laid, .int x_this_isKept, .ref h_this_pile, .ref h_this_tape, .int x_this_taped, .ref h_this_letters, .int x_this_at, .int x_this_begun, .int x_this_token, .int x_this_value, .int x_this_opened, .int x_this_steps, .ref h_this_code0, .ref h_this_read, .ref h_this_saved, .ref h_this_plan, .ref h_this_bestPlan, .int x_this_most, .int x_this_many, .int x_this_few, .int x_this_everHome, .ref h_this_offThen, .ref h_this_paidThen, .int x_this_firstFit, .ref h_this_rows, .int x_this_rowMany, .ref h_this_sorts, .ref h_this_sizes, .ref h_this_number, .ref h_this_holds, .ref h_this_heldOne, .ref h_this_trace, .int x_this_traced, .int x_this_own, .int x_this_isParted]), (h_this_pile, ia G 200 f_this_pile), (h_this_s, ia G 313 f_this_s)] r [(h_this, ob 9 [.ref h_this_s, .ref h_this_kept, .ref h_this_laid, .int x_this_isKept, .ref h_this_pile, .ref h_this_tape, .int x_this_taped, .ref h_this_letters, .int x_this_at, .int x_this_begun, .int x_this_token, .int x_this_value, .int x_this_opened, .int x_this_steps, .ref h_this_code0, .ref h_this_read, .ref h_this_saved, .ref h_this_plan, .ref h_this_bestPlan, .int x_this_most, .int x_this_many, .int x_this_few, .int x_this_everHome, .ref h_this_offThen, .ref h_this_paidThen, .int x_this_firstFit, .ref h_this_rows, .int x_this_rowMany, .ref h_this_sorts, .ref h_this_sizes, .ref h_this_number, .ref h_this_holds, .ref h_this_heldOne, .ref h_this_trace, .int x_this_traced, .int x_this_own, .int x_this_isParted]), (h_this_pile, ia G 200 m_this_pile), (h_this_s, ia G 313 m_this_s)] := by
  refine mFi.of (by decide +kernel) (Nat.le_of_ble_eq_true rfl) ?_
  intro p e s m below meth c A C hr hlk h ls hl
  obtain ⟨hx, hb, hml, hown, hts⟩ := id C
  replace hl : lv_has ls 1 [(0, .ref h_this)] := hl
  unfold f_X9_watch at hf
  refine lv_aload_n hx hb dX9_watch_0 rfl (lv_at hl 0 rfl) ?_
  replace hf := bd1_inv hf
  obtain ⟨r1, hc2, hf⟩ := hf
  refine r_ciV0 C h (c_X9_isOver hc2) mv_X9_232 rfl 0 rfl [0, 2] rfl rfl hl.1 rfl (Nat.le_of_ble_eq_true rfl) (rok (by decide)) dX9_watch_1 (fun H locs h => ?_)
  refine lv_if_eq (tgt := 12) hx hb dX9_watch_4 rfl (fun c3 => ?_) (fun c3 => ?_)
  · replace hf := ifp c3 hf
    refine lv_aload_n hx hb dX9_watch_12 rfl (lv_at hl 0 rfl) ?_
    refine lv_iconst (v := (-1 : Int32)) hx hb dX9_watch_13 rfl ?_
    replace hf := bd3_inv hf
    obtain ⟨r4, g5, g6, hc7, hf⟩ := hf
    refine r_ciV (ws' := [(h_this, ob 9 [.ref h_this_s, .ref h_this_kept, .ref h_this_laid, .int x_this_isKept, .ref h_this_pile, .ref h_this_tape, .int x_this_taped, .ref h_this_letters, .int x_this_at, .int x_this_begun, .int x_this_token, .int x_this_value, .int x_this_opened, .int x_this_steps, .ref h_this_code0, .ref h_this_read, .ref h_this_saved, .ref h_this_plan, .ref h_this_bestPlan, .int x_this_most, .int x_this_many, .int x_this_few, .int x_this_everHome, .ref h_this_offThen, .ref h_this_paidThen, .int x_this_firstFit, .ref h_this_rows, .int x_this_rowMany, .ref h_this_sorts, .ref h_this_sizes, .ref h_this_number, .ref h_this_holds, .ref h_this_heldOne, .ref h_this_trace, .int x_this_traced, .int x_this_own, .int x_this_isParted]), (h_this_pile, ia G 200 g5), (h_this_s, ia G 313 g6)]) C h (c_X9_goesBy hc7) mv_X9_238 rfl 0 rfl [0, 1, 2] rfl rfl [1, 2] [(h_this_pile, ia G 200 g5), (h_this_s, ia G 313 g6)] rfl rfl (by decide +kernel) rfl hl.1 rfl (Nat.le_of_ble_eq_true rfl) (rok (by decide)) dX9_watch_14 (fun H locs h => ?_)
    cases hf
    exact r_iret C h hr hlk rfl dX9_watch_17
  · replace hf := ifn c3 hf
    refine lv_bipush (v := (-4 : Int32)) hx hb dX9_watch_7 rfl ?_
    refine lv_goto (tgt := 17) hx hb dX9_watch_9 rfl ?_
    cases hf
    exact r_iret C h hr hlk rfl dX9_watch_17
set_option maxRecDepth 100000 in
set_option maxHeartbeats 4000000 in
theorem c_X9_layDown {l : Launch} {G : Gt} {h_this h_this_s h_this_kept h_this_laid h_this_pile h_this_tape h_this_letters h_this_code0 h_this_read h_this_saved h_this_plan h_this_bestPlan h_this_offThen h_this_paidThen h_this_rows h_this_sorts h_this_sizes h_this_number h_this_holds h_this_heldOne h_this_trace : Nat} {x_this_isKept : Int32} {x_this_taped : Int32} {x_this_at : Int32} {x_this_begun : Int32} {x_this_token : Int32} {x_this_value : Int32} {x_this_opened : Int32} {x_this_steps : Int32} {x_this_most : Int32} {x_this_many : Int32} {x_this_few : Int32} {x_this_everHome : Int32} {x_this_firstFit : Int32} {x_this_rowMany : Int32} {x_this_traced : Int32} {x_this_own : Int32} {x_this_isParted : Int32} {f_this_laid : Nat → Int32} {f_this_s : Nat → Int32} {m_this_laid : Nat → Int32} (hf : f_X9_layDown f_this_laid f_this_s = some m_this_laid) : mFv l G yX9_layDown cX9_layDown 2 0 [.ref h_this] [(h_this, ob 9 [.ref h_this_s, .ref h_this_kept, .ref h_this_laid, .int x_this_isKept, .ref h_this_pile, .ref h_this_tape, .int x_this_taped, .ref h_this_letters, .int x_this_at, .int x_this_begun, .int x_this_token, .int x_this_value, .int x_this_opened, .int x_this_steps, .ref h_this_code0, .ref h_this_read, .ref h_this_saved, .ref h_this_plan, .ref h_this_bestPlan, .int x_this_most, .int x_this_many, .int x_this_few, .int x_this_everHome, .ref h_this_offThen, .ref h_this_paidThen, .int x_this_firstFit, .ref h_this_rows, .int x_this_rowMany, .ref h_this_sorts, .ref h_this_sizes, .ref h_this_number, .ref h_this_holds, .ref h_this_heldOne, .ref h_this_trace, .int x_this_traced, .int x_this_own, .int x_this_isParted]), (h_this_laid, ia G 65 f_this_laid), (h_this_s, ia G 313 f_this_s)] [(h_this, ob 9 [.ref h_this_s, .ref h_this_kept, .ref h_this_laid, .int x_this_isKept, .ref h_this_pile, .ref h_this_tape, .int x_this_taped, .ref h_this_letters, .int x_this_at, .int x_this_begun, .int x_this_token, .int x_this_value, .int x_this_opened, .int x_this_steps, .ref h_this_code0, .ref h_this_read, .ref h_this_saved, .ref h_this_plan, .ref h_this_bestPlan, .int x_this_most, .int x_this_many, .int x_this_few, .int x_this_everHome, .ref h_this_offThen, .ref h_this_paidThen, .int x_this_firstFit, .ref h_this_rows, .int x_this_rowMany, .ref h_this_sorts, .ref h_this_sizes, .ref h_this_number, .ref h_this_holds, .ref h_this_heldOne, .ref h_this_trace, .int x_this_traced, .int x_this_own, .int x_this_isParted]), (h_this_laid, ia G 65 m_this_laid), (h_this_s, ia G 313 f_this_s)] := by
  refine mFv.of (by decide +kernel) (Nat.le_of_ble_eq_true rfl) ?_
  intro p e s m below meth c A C hr hlk h ls hl
  obtain ⟨hx, hb, hml, hown, hts⟩ := id C
  replace hl : lv_has ls 2 [(0, .ref h_this)] := hl
  unfold f_X9_layDown at hf
  refine with_K G A 2 (fun K hK1 hK2 => ?_)
  have L2 : ∀ (n : Nat) (v1 : Int32) (g_this_laid : Nat → Int32), f_X9_layDown_L2 f_this_s n v1 g_this_laid = some m_this_laid → K 2 ([] : List Value) [(h_this, ob 9 [.ref h_this_s, .ref h_this_kept, .ref h_this_laid, .int x_this_isKept, .ref h_this_pile, .ref h_this_tape, .int x_this_taped, .ref h_this_letters, .int x_this_at, .int x_this_begun, .int x_this_token, .int x_this_value, .int x_this_opened, .int x_this_steps, .ref h_this_code0, .ref h_this_read, .ref h_this_saved, .ref h_this_plan, .ref h_this_bestPlan, .int x_this_most, .int x_this_many, .int x_this_few, .int x_this_everHome, .ref h_this_offThen, .ref h_this_paidThen, .int x_this_firstFit, .ref h_this_rows, .int x_this_rowMany, .ref h_this_sorts, .ref h_this_sizes, .ref h_this_number, .ref h_this_holds, .ref h_this_heldOne, .ref h_this_trace, .int x_this_traced, .int x_this_own, .int x_this_isParted]), (h_this_laid, ia G 65 g_this_laid), (h_this_s, ia G 313 f_this_s)] [(0, .ref h_this), (1, .int v1)] := by
    intro n
    induction n with
    | zero =>
      intro v1 g_this_laid hf
      replace hf : (none : Option _) = some _ := hf
      cases hf
    | succ n ih =>
      intro v1 g_this_laid hf
      rw [f_X9_layDown_L2] at hf
      refine hK1 _ _ _ _ (fun H locs ls h hl => ?_)
      refine lv_iload_n hx hb dX9_layDown_2 rfl (lv_at hl 1 rfl) ?_
      refine lv_bipush (v := (65 : Int32)) hx hb dX9_layDown_3 rfl ?_
      refine lv_icmp_ge (tgt := 26) hx hb dX9_layDown_5 rfl (fun c1 => ?_) (fun c1 => ?_)
      · replace hf := ifp c1 hf
        cases hf
        exact r_vret C h hr hlk dX9_layDown_26
      · replace hf := ifn c1 hf
        refine lv_aload_n hx hb dX9_layDown_8 rfl (lv_at hl 0 rfl) ?_
        refine r_get C h fk_X9_16 0 rfl rfl dX9_layDown_9 ?_
        refine lv_iload_n hx hb dX9_layDown_12 rfl (lv_at hl 1 rfl) ?_
        refine lv_aload_n hx hb dX9_layDown_13 rfl (lv_at hl 0 rfl) ?_
        refine r_get C h fk_X9_9 0 rfl rfl dX9_layDown_14 ?_
        refine lv_iload_n hx hb dX9_layDown_17 rfl (lv_at hl 1 rfl) ?_
        replace hf := chkI_inv hf
        obtain ⟨hi2, hf⟩ := hf
        refine r_iald C h 2 rfl hi2 dX9_layDown_18 ?_
        refine lv_topi (fun t3 et3 => ?_)
        replace hf := lt1_inv et3 hf
        replace hf := chkI_inv hf
        obtain ⟨hi4, hf⟩ := hf
        refine r_iast (ws' := [(h_this, ob 9 [.ref h_this_s, .ref h_this_kept, .ref h_this_laid, .int x_this_isKept, .ref h_this_pile, .ref h_this_tape, .int x_this_taped, .ref h_this_letters, .int x_this_at, .int x_this_begun, .int x_this_token, .int x_this_value, .int x_this_opened, .int x_this_steps, .ref h_this_code0, .ref h_this_read, .ref h_this_saved, .ref h_this_plan, .ref h_this_bestPlan, .int x_this_most, .int x_this_many, .int x_this_few, .int x_this_everHome, .ref h_this_offThen, .ref h_this_paidThen, .int x_this_firstFit, .ref h_this_rows, .int x_this_rowMany, .ref h_this_sorts, .ref h_this_sizes, .ref h_this_number, .ref h_this_holds, .ref h_this_heldOne, .ref h_this_trace, .int x_this_traced, .int x_this_own, .int x_this_isParted]), (h_this_laid, ia G 65 (upd g_this_laid v1.toNatClampNeg t3)), (h_this_s, ia G 313 f_this_s)]) C h 1 rfl hi4 dX9_layDown_19 rfl (fun H locs h => ?_)
        obtain ⟨t5, et5⟩ : ∃ y : Int32, y = v1 + (1 : Int32) := ⟨_, rfl⟩
        replace hf := lt1_inv et5 hf
        refine lv_iinc (v := t5) (lv' := [(1, .int t5), (0, .ref h_this)]) hx hb dX9_layDown_20 hl (k := 1) rfl (by rw [et5]; rfl) (by decide) rfl (fun ls hl => ?_)
        refine lv_goto (tgt := 2) hx hb dX9_layDown_23 rfl ?_
        exact hK2 _ _ _ _ (ih t5 (upd g_this_laid v1.toNatClampNeg t3) hf) _ _ _ h (lv_sub hl [1, 0] rfl)
  refine lv_iconst (v := (0 : Int32)) hx hb dX9_layDown_0 rfl ?_
  refine lv_istore_n (lv' := [(1, .int (0 : Int32)), (0, .ref h_this)]) hx hb dX9_layDown_1 rfl hl (by decide) rfl (fun ls hl => ?_)
  exact hK2 _ _ _ _ (L2 1000 (0 : Int32) f_this_laid hf) _ _ _ h (lv_sub hl [1, 0] rfl)
set_option maxRecDepth 100000 in
set_option maxHeartbeats 4000000 in
theorem c_X9_restOf {l : Launch} {G : Gt} {h_this h_this_s h_this_kept h_this_laid h_this_pile h_this_tape h_this_letters h_this_code0 h_this_read h_this_saved h_this_plan h_this_bestPlan h_this_offThen h_this_paidThen h_this_rows h_this_sorts h_this_sizes h_this_number h_this_holds h_this_heldOne h_this_trace : Nat} {p0 : Int32} {x_this_isKept : Int32} {x_this_taped : Int32} {x_this_at : Int32} {x_this_begun : Int32} {x_this_token : Int32} {x_this_value : Int32} {x_this_opened : Int32} {x_this_steps : Int32} {x_this_most : Int32} {x_this_many : Int32} {x_this_few : Int32} {x_this_everHome : Int32} {x_this_firstFit : Int32} {x_this_rowMany : Int32} {x_this_traced : Int32} {x_this_own : Int32} {x_this_isParted : Int32} {f_this_pile : Nat → Int32} {f_this_s : Nat → Int32} {r : Int32} {m_this_pile : Nat → Int32} {m_this_s : Nat → Int32} (hf : f_X9_restOf p0 f_this_pile f_this_s = some (r, m_this_pile, m_this_s)) : mFi l G yX9_restOf cX9_restOf 4 .int 7 [.ref h_this, .int p0] [(h_this, ob 9 [.ref h_this_s, .ref h_this_kept, .ref h_this_laid, .int x_this_isKept, .ref h_this_pile, .ref h_this_tape, .int x_this_taped, .ref h_this_letters, .int x_this_at, .int x_this_begun, .int x_this_token, .int x_this_value, .int x_this_opened, .int x_this_steps, .ref h_this_code0, .ref h_this_read, .ref h_this_saved, .ref h_this_plan, .ref h_this_bestPlan, .int x_this_most, .int x_this_many, .int x_this_few, .int x_this_everHome, .ref h_this_offThen, .ref h_this_paidThen, .int x_this_firstFit, .ref h_this_rows, .int x_this_rowMany, .ref h_this_sorts, .ref h_this_sizes, .ref h_this_number, .ref h_this_holds, .ref h_this_heldOne, .ref h_this_trace, .int x_this_traced, .int x_this_own, .int x_this_isParted]), (h_this_pile, ia G 200 f_this_pile), (h_this_s, ia G 313 f_this_s)] r [(h_this, ob 9 [.ref h_this_s, .ref h_this_kept, .ref h_this_laid, .int x_this_isKept, .ref h_this_pile, .ref h_this_tape, .int x_this_taped, .ref h_this_letters, .int x_this_at, .int x_this_begun, .int x_this_token, .int x_this_value, .int x_this_opened, .int x_this_steps, .ref h_this_code0, .ref h_this_read, .ref h_this_saved, .ref h_this_plan, .ref h_this_bestPlan, .int x_this_most, .int x_this_many, .int x_this_few, .int x_this_everHome, .ref h_this_offThen, .ref h_this_paidThen, .int x_this_firstFit, .ref h_this_rows, .int x_this_rowMany, .ref h_this_sorts, .ref h_this_sizes, .ref h_this_number, .ref h_this_holds, .ref h_this_heldOne, .ref h_this_trace, .int x_this_traced, .int x_this_own, .int x_this_isParted]), (h_this_pile, ia G 200 m_this_pile), (h_this_s, ia G 313 m_this_s)] := by
  refine mFi.of (by decide +kernel) (Nat.le_of_ble_eq_true rfl) ?_
  intro p e s m below meth c A C hr hlk h ls hl
  obtain ⟨hx, hb, hml, hown, hts⟩ := id C
  replace hl : lv_has ls 4 [(0, .ref h_this), (1, .int p0)] := hl
  unfold f_X9_restOf at hf
  refine with_K G A 4 (fun K hK1 hK2 => ?_)
  have L4 : ∀ (n : Nat) (v2 : Int32) (v3 : Int32) (g_this_pile : Nat → Int32) (g_this_s : Nat → Int32), f_X9_restOf_L4 p0 n v2 v3 g_this_pile g_this_s = some (r, m_this_pile, m_this_s) → K 4 ([] : List Value) [(h_this, ob 9 [.ref h_this_s, .ref h_this_kept, .ref h_this_laid, .int x_this_isKept, .ref h_this_pile, .ref h_this_tape, .int x_this_taped, .ref h_this_letters, .int x_this_at, .int x_this_begun, .int x_this_token, .int x_this_value, .int x_this_opened, .int x_this_steps, .ref h_this_code0, .ref h_this_read, .ref h_this_saved, .ref h_this_plan, .ref h_this_bestPlan, .int x_this_most, .int x_this_many, .int x_this_few, .int x_this_everHome, .ref h_this_offThen, .ref h_this_paidThen, .int x_this_firstFit, .ref h_this_rows, .int x_this_rowMany, .ref h_this_sorts, .ref h_this_sizes, .ref h_this_number, .ref h_this_holds, .ref h_this_heldOne, .ref h_this_trace, .int x_this_traced, .int x_this_own, .int x_this_isParted]), (h_this_pile, ia G 200 g_this_pile), (h_this_s, ia G 313 g_this_s)] [(0, .ref h_this), (1, .int p0), (2, .int v2), (3, .int v3)] := by
    intro n
    induction n with
    | zero =>
      intro v2 v3 g_this_pile g_this_s hf
      replace hf : (none : Option _) = some _ := hf
      cases hf
    | succ n ih =>
      intro v2 v3 g_this_pile g_this_s hf
      rw [f_X9_restOf_L4] at hf
      refine hK1 _ _ _ _ (fun H locs ls h hl => ?_)
      refine lv_iload_n hx hb dX9_restOf_4 rfl (lv_at hl 3 rfl) ?_
      refine lv_iload_n hx hb dX9_restOf_5 rfl (lv_at hl 1 rfl) ?_
      refine lv_icmp_ge (tgt := 30) hx hb dX9_restOf_6 rfl (fun c1 => ?_) (fun c1 => ?_)
      · replace hf := ifp c1 hf
        refine lv_iload_n hx hb dX9_restOf_30 rfl (lv_at hl 2 rfl) ?_
        cases hf
        exact r_iret C h hr hlk rfl dX9_restOf_31
      · replace hf := ifn c1 hf
        refine lv_aload_n hx hb dX9_restOf_9 rfl (lv_at hl 0 rfl) ?_
        replace hf := bd1_inv hf
        obtain ⟨r2, hc3, hf⟩ := hf
        refine r_ciV0 C h (c_X9_isOver hc3) mv_X9_232 rfl 0 rfl [0, 2] rfl rfl hl.1 rfl (Nat.le_of_ble_eq_true rfl) (rok (by decide)) dX9_restOf_10 (fun H locs h => ?_)
        refine lv_if_ne (tgt := 30) hx hb dX9_restOf_13 rfl (fun c4 => ?_) (fun c4 => ?_)
        · replace hf := ifn c4 hf
          refine lv_iload_n hx hb dX9_restOf_30 rfl (lv_at hl 2 rfl) ?_
          cases hf
          exact r_iret C h hr hlk rfl dX9_restOf_31
        · replace hf := ifp c4 hf
          refine lv_iload_n hx hb dX9_restOf_16 rfl (lv_at hl 2 rfl) ?_
          refine lv_aload_n hx hb dX9_restOf_17 rfl (lv_at hl 0 rfl) ?_
          refine lv_iconst (v := (-1 : Int32)) hx hb dX9_restOf_18 rfl ?_
          replace hf := bd3_inv hf
          obtain ⟨r5, g6, g7, hc8, hf⟩ := hf
          refine r_ciV (ws' := [(h_this, ob 9 [.ref h_this_s, .ref h_this_kept, .ref h_this_laid, .int x_this_isKept, .ref h_this_pile, .ref h_this_tape, .int x_this_taped, .ref h_this_letters, .int x_this_at, .int x_this_begun, .int x_this_token, .int x_this_value, .int x_this_opened, .int x_this_steps, .ref h_this_code0, .ref h_this_read, .ref h_this_saved, .ref h_this_plan, .ref h_this_bestPlan, .int x_this_most, .int x_this_many, .int x_this_few, .int x_this_everHome, .ref h_this_offThen, .ref h_this_paidThen, .int x_this_firstFit, .ref h_this_rows, .int x_this_rowMany, .ref h_this_sorts, .ref h_this_sizes, .ref h_this_number, .ref h_this_holds, .ref h_this_heldOne, .ref h_this_trace, .int x_this_traced, .int x_this_own, .int x_this_isParted]), (h_this_pile, ia G 200 g6), (h_this_s, ia G 313 g7)]) C h (c_X9_goesBy hc8) mv_X9_238 rfl 0 rfl [0, 1, 2] rfl rfl [1, 2] [(h_this_pile, ia G 200 g6), (h_this_s, ia G 313 g7)] rfl rfl (by decide +kernel) rfl hl.1 rfl (Nat.le_of_ble_eq_true rfl) (rok (by decide)) dX9_restOf_19 (fun H locs h => ?_)
          refine lv_iadd hx hb dX9_restOf_22 ?_
          refine lv_topi (fun t9 et9 => ?_)
          replace hf := lt1_inv et9 hf
          refine lv_istore_n (lv' := [(2, .int t9), (0, .ref h_this), (1, .int p0), (3, .int v3)]) hx hb dX9_restOf_23 rfl hl (by decide) rfl (fun ls hl => ?_)
          obtain ⟨t10, et10⟩ : ∃ y : Int32, y = v3 + (1 : Int32) := ⟨_, rfl⟩
          replace hf := lt1_inv et10 hf
          refine lv_iinc (v := t10) (lv' := [(3, .int t10), (2, .int t9), (0, .ref h_this), (1, .int p0)]) hx hb dX9_restOf_24 hl (k := 3) rfl (by rw [et10]; rfl) (by decide) rfl (fun ls hl => ?_)
          refine lv_goto (tgt := 4) hx hb dX9_restOf_27 rfl ?_
          exact hK2 _ _ _ _ (ih t9 t10 g6 g7 hf) _ _ _ h (lv_sub hl [2, 3, 1, 0] rfl)
  refine lv_iconst (v := (0 : Int32)) hx hb dX9_restOf_0 rfl ?_
  refine lv_istore_n (lv' := [(2, .int (0 : Int32)), (0, .ref h_this), (1, .int p0)]) hx hb dX9_restOf_1 rfl hl (by decide) rfl (fun ls hl => ?_)
  refine lv_iconst (v := (0 : Int32)) hx hb dX9_restOf_2 rfl ?_
  refine lv_istore_n (lv' := [(3, .int (0 : Int32)), (2, .int (0 : Int32)), (0, .ref h_this), (1, .int p0)]) hx hb dX9_restOf_3 rfl hl (by decide) rfl (fun ls hl => ?_)
  exact hK2 _ _ _ _ (L4 1000 (0 : Int32) (0 : Int32) f_this_pile f_this_s hf) _ _ _ h (lv_sub hl [2, 3, 1, 0] rfl)
