set_option maxRecDepth 100000 in
set_option maxHeartbeats 4000000 in
theorem c_X9_ends {l : Launch} {G : Gt} {h_this h_this_s h_this_kept h_this_laid h_this_pile h_this_tape h_this_letters h_this_code0 h_this_read h_this_saved h_this_plan h_this_bestPlan h_this_offThen h_this_paidThen h_this_rows h_this_sorts h_this_sizes h_this_number h_this_holds h_this_heldOne h_this_trace : Nat} {p0 : Int32} {x_this_isKept : Int32} {x_this_taped : Int32} {x_this_at : Int32} {x_this_begun : Int32} {x_this_token : Int32} {x_this_value : Int32} {x_this_opened : Int32} {x_this_steps : Int32} {x_this_most : Int32} {x_this_many : Int32} {x_this_few : Int32} {x_this_everHome : Int32} {x_this_firstFit : Int32} {x_this_rowMany : Int32} {x_this_traced : Int32} {x_this_own : Int32} {x_this_isParted : Int32} {f_this_s : Nat → Int32} {r : Int32} {m_this_s : Nat → Int32} (hf : f_X9_ends p0 f_this_s = some (r, m_this_s)) : mFi l G yX9_ends cX9_ends 2 .int 1 [.ref h_this, .int p0] [(h_this, ob 9 [.ref h_this_s, .ref h_this_kept, .ref h_this_laid, .int x_this_isKept, .ref h_this_pile, .ref h_this_tape, .int x_this_taped, .ref h_this_letters, .int x_this_at, .int x_this_begun, .int x_this_token, .int x_this_value, .int x_this_opened, .int x_this_steps, .ref h_this_code0, .ref h_this_read, .ref h_this_saved, .ref h_this_plan, .ref h_this_bestPlan, .int x_this_most, .int x_this_many, .int x_this_few, .int x_this_everHome, .ref h_this_offThen, .ref h_this_paidThen, .int x_this_firstFit, .ref h_this_rows, .int x_this_rowMany, .ref h_this_sorts, .ref h_this_sizes, .ref h_this_number, .ref h_this_holds, .ref h_this_heldOne, .ref h_this_trace, .int x_this_traced, .int x_this_own, .int x_this_isParted]), (h_this_s, ia G 313 f_this_s)] r [(h_this, ob 9 [.ref h_this_s, .ref h_this_kept, .ref h_this_laid, .int x_this_isKept, .ref h_this_pile, .ref h_this_tape, .int x_this_taped, .ref h_this_letters, .int x_this_at, .int x_this_begun, .int x_this_token, .int x_this_value, .int x_this_opened, .int x_this_steps, .ref h_this_code0, .ref h_this_read, .ref h_this_saved, .ref h_this_plan, .ref h_this_bestPlan, .int x_this_most, .int x_this_many, .int x_this_few, .int x_this_everHome, .ref h_this_offThen, .ref h_this_paidThen, .int x_this_firstFit, .ref h_this_rows, .int x_this_rowMany, .ref h_this_sorts, .ref h_this_sizes, .ref h_this_number, .ref h_this_holds, .ref h_this_heldOne, .ref h_this_trace, .int x_this_traced, .int x_this_own, .int x_this_isParted]), (h_this_s, ia G 313 m_this_s)] := by
  refine mFi.of (by decide +kernel) (Nat.le_of_ble_eq_true rfl) ?_
  intro p e s m below meth c A C hr hlk h ls hl
  obtain ⟨hx, hb, hml, hown, hts⟩ := id C
  replace hl : lv_has ls 2 [(0, .ref h_this), (1, .int p0)] := hl
  unfold f_X9_ends at hf
  refine lv_iload_n hx hb dX9_ends_0 rfl (lv_at hl 1 rfl) ?_
  refine lv_iconst (v := (1 : Int32)) hx hb dX9_ends_1 rfl ?_
  refine lv_bipush (v := (16 : Int32)) hx hb dX9_ends_2 rfl ?_
  replace hf := bd1_inv hf
  obtain ⟨r1, hc2, hf⟩ := hf
  refine r_ciS0 C h (c_X9_in1 hc2) ms_X9_71 rfl [] rfl rfl hl.1 rfl (Nat.le_of_ble_eq_true rfl) (rok (by decide)) dX9_ends_4 (fun H locs h => ?_)
  refine lv_if_ne (tgt := 14) hx hb dX9_ends_7 rfl (fun c3 => ?_) (fun c3 => ?_)
  · replace hf := ifn c3 hf
    refine lv_iload_n hx hb dX9_ends_14 rfl (lv_at hl 1 rfl) ?_
    refine lv_aload_n hx hb dX9_ends_15 rfl (lv_at hl 0 rfl) ?_
    refine r_get C h fk_X9_9 0 rfl rfl dX9_ends_16 ?_
    refine lv_iconst (v := (0 : Int32)) hx hb dX9_ends_19 rfl ?_
    refine r_ialdL C h 1 rfl (vlit rfl) 0 rfl dX9_ends_20 ?_
    refine lv_icmp_ge (tgt := 29) hx hb dX9_ends_21 rfl (fun c4 => ?_) (fun c4 => ?_)
    · replace hf := ifp c4 hf
      refine lv_aload_n hx hb dX9_ends_29 rfl (lv_at hl 0 rfl) ?_
      refine lv_iconst (v := (1 : Int32)) hx hb dX9_ends_30 rfl ?_
      refine lv_iload_n hx hb dX9_ends_31 rfl (lv_at hl 1 rfl) ?_
      replace hf := bd2_inv hf
      obtain ⟨r5, g6, hc7, hf⟩ := hf
      refine r_ciV (ws' := [(h_this, ob 9 [.ref h_this_s, .ref h_this_kept, .ref h_this_laid, .int x_this_isKept, .ref h_this_pile, .ref h_this_tape, .int x_this_taped, .ref h_this_letters, .int x_this_at, .int x_this_begun, .int x_this_token, .int x_this_value, .int x_this_opened, .int x_this_steps, .ref h_this_code0, .ref h_this_read, .ref h_this_saved, .ref h_this_plan, .ref h_this_bestPlan, .int x_this_most, .int x_this_many, .int x_this_few, .int x_this_everHome, .ref h_this_offThen, .ref h_this_paidThen, .int x_this_firstFit, .ref h_this_rows, .int x_this_rowMany, .ref h_this_sorts, .ref h_this_sizes, .ref h_this_number, .ref h_this_holds, .ref h_this_heldOne, .ref h_this_trace, .int x_this_traced, .int x_this_own, .int x_this_isParted]), (h_this_s, ia G 313 g6)]) C h (c_X9_becomes hc7) mv_X9_229 rfl 0 rfl [0, 1] rfl rfl [1] [(h_this_s, ia G 313 g6)] rfl rfl (by decide +kernel) rfl hl.1 rfl (Nat.le_of_ble_eq_true rfl) (rok (by decide)) dX9_ends_32 (fun H locs h => ?_)
      cases hf
      exact r_iret C h hr hlk rfl dX9_ends_35
    · replace hf := ifn c4 hf
      refine lv_bipush (v := (-4 : Int32)) hx hb dX9_ends_24 rfl ?_
      refine lv_goto (tgt := 35) hx hb dX9_ends_26 rfl ?_
      cases hf
      exact r_iret C h hr hlk rfl dX9_ends_35
  · replace hf := ifp c3 hf
    refine lv_iconst (v := (-1 : Int32)) hx hb dX9_ends_10 rfl ?_
    refine lv_goto (tgt := 35) hx hb dX9_ends_11 rfl ?_
    cases hf
    exact r_iret C h hr hlk rfl dX9_ends_35
set_option maxRecDepth 100000 in
set_option maxHeartbeats 4000000 in
theorem c_X9_anew {l : Launch} {G : Gt} {h_this h_this_s h_this_kept h_this_laid h_this_pile h_this_tape h_this_letters h_this_code0 h_this_read h_this_saved h_this_plan h_this_bestPlan h_this_offThen h_this_paidThen h_this_rows h_this_sorts h_this_sizes h_this_number h_this_holds h_this_heldOne h_this_trace : Nat} {x_this_isKept : Int32} {x_this_taped : Int32} {x_this_at : Int32} {x_this_begun : Int32} {x_this_token : Int32} {x_this_value : Int32} {x_this_opened : Int32} {x_this_steps : Int32} {x_this_most : Int32} {x_this_many : Int32} {x_this_few : Int32} {x_this_everHome : Int32} {x_this_firstFit : Int32} {x_this_rowMany : Int32} {x_this_traced : Int32} {x_this_own : Int32} {x_this_isParted : Int32} {f_this_s : Nat → Int32} {r : Int32} {m_this_s : Nat → Int32} (hf : f_X9_anew f_this_s = some (r, m_this_s)) : mFi l G yX9_anew cX9_anew 2 .int 1 [.ref h_this] [(h_this, ob 9 [.ref h_this_s, .ref h_this_kept, .ref h_this_laid, .int x_this_isKept, .ref h_this_pile, .ref h_this_tape, .int x_this_taped, .ref h_this_letters, .int x_this_at, .int x_this_begun, .int x_this_token, .int x_this_value, .int x_this_opened, .int x_this_steps, .ref h_this_code0, .ref h_this_read, .ref h_this_saved, .ref h_this_plan, .ref h_this_bestPlan, .int x_this_most, .int x_this_many, .int x_this_few, .int x_this_everHome, .ref h_this_offThen, .ref h_this_paidThen, .int x_this_firstFit, .ref h_this_rows, .int x_this_rowMany, .ref h_this_sorts, .ref h_this_sizes, .ref h_this_number, .ref h_this_holds, .ref h_this_heldOne, .ref h_this_trace, .int x_this_traced, .int x_this_own, .int x_this_isParted]), (h_this_s, ia G 313 f_this_s)] r [(h_this, ob 9 [.ref h_this_s, .ref h_this_kept, .ref h_this_laid, .int x_this_isKept, .ref h_this_pile, .ref h_this_tape, .int x_this_taped, .ref h_this_letters, .int x_this_at, .int x_this_begun, .int x_this_token, .int x_this_value, .int x_this_opened, .int x_this_steps, .ref h_this_code0, .ref h_this_read, .ref h_this_saved, .ref h_this_plan, .ref h_this_bestPlan, .int x_this_most, .int x_this_many, .int x_this_few, .int x_this_everHome, .ref h_this_offThen, .ref h_this_paidThen, .int x_this_firstFit, .ref h_this_rows, .int x_this_rowMany, .ref h_this_sorts, .ref h_this_sizes, .ref h_this_number, .ref h_this_holds, .ref h_this_heldOne, .ref h_this_trace, .int x_this_traced, .int x_this_own, .int x_this_isParted]), (h_this_s, ia G 313 m_this_s)] := by
  refine mFi.of (by decide +kernel) (Nat.le_of_ble_eq_true rfl) ?_
  intro p e s m below meth c A C hr hlk h ls hl
  obtain ⟨hx, hb, hml, hown, hts⟩ := id C
  replace hl : lv_has ls 2 [(0, .ref h_this)] := hl
  unfold f_X9_anew at hf
  refine with_K G A 2 (fun K hK1 hK2 => ?_)
  have L9 : ∀ (n : Nat) (v1 : Int32) (g_this_s : Nat → Int32), f_X9_anew_L9 n v1 g_this_s = some (r, m_this_s) → K 9 ([] : List Value) [(h_this, ob 9 [.ref h_this_s, .ref h_this_kept, .ref h_this_laid, .int x_this_isKept, .ref h_this_pile, .ref h_this_tape, .int x_this_taped, .ref h_this_letters, .int x_this_at, .int x_this_begun, .int x_this_token, .int x_this_value, .int x_this_opened, .int x_this_steps, .ref h_this_code0, .ref h_this_read, .ref h_this_saved, .ref h_this_plan, .ref h_this_bestPlan, .int x_this_most, .int x_this_many, .int x_this_few, .int x_this_everHome, .ref h_this_offThen, .ref h_this_paidThen, .int x_this_firstFit, .ref h_this_rows, .int x_this_rowMany, .ref h_this_sorts, .ref h_this_sizes, .ref h_this_number, .ref h_this_holds, .ref h_this_heldOne, .ref h_this_trace, .int x_this_traced, .int x_this_own, .int x_this_isParted]), (h_this_s, ia G 313 g_this_s)] [(0, .ref h_this), (1, .int v1)] := by
    intro n
    induction n with
    | zero =>
      intro v1 g_this_s hf
      replace hf : (none : Option _) = some _ := hf
      cases hf
    | succ n ih =>
      intro v1 g_this_s hf
      rw [f_X9_anew_L9] at hf
      refine hK1 _ _ _ _ (fun H locs ls h hl => ?_)
      refine lv_iload_n hx hb dX9_anew_9 rfl (lv_at hl 1 rfl) ?_
      refine lv_aload_n hx hb dX9_anew_10 rfl (lv_at hl 0 rfl) ?_
      refine r_get C h fk_X9_9 0 rfl rfl dX9_anew_11 ?_
      refine lv_iconst (v := (4 : Int32)) hx hb dX9_anew_14 rfl ?_
      refine r_ialdL C h 1 rfl (vlit rfl) 4 rfl dX9_anew_15 ?_
      refine lv_icmp_ge (tgt := 32) hx hb dX9_anew_16 rfl (fun c1 => ?_) (fun c1 => ?_)
      · replace hf := ifp c1 hf
        refine lv_aload_n hx hb dX9_anew_32 rfl (lv_at hl 0 rfl) ?_
        refine lv_iconst (v := (0 : Int32)) hx hb dX9_anew_33 rfl ?_
        refine lv_iconst (v := (0 : Int32)) hx hb dX9_anew_34 rfl ?_
        replace hf := bd2_inv hf
        obtain ⟨r2, g3, hc4, hf⟩ := hf
        refine r_ciV (ws' := [(h_this, ob 9 [.ref h_this_s, .ref h_this_kept, .ref h_this_laid, .int x_this_isKept, .ref h_this_pile, .ref h_this_tape, .int x_this_taped, .ref h_this_letters, .int x_this_at, .int x_this_begun, .int x_this_token, .int x_this_value, .int x_this_opened, .int x_this_steps, .ref h_this_code0, .ref h_this_read, .ref h_this_saved, .ref h_this_plan, .ref h_this_bestPlan, .int x_this_most, .int x_this_many, .int x_this_few, .int x_this_everHome, .ref h_this_offThen, .ref h_this_paidThen, .int x_this_firstFit, .ref h_this_rows, .int x_this_rowMany, .ref h_this_sorts, .ref h_this_sizes, .ref h_this_number, .ref h_this_holds, .ref h_this_heldOne, .ref h_this_trace, .int x_this_traced, .int x_this_own, .int x_this_isParted]), (h_this_s, ia G 313 g3)]) C h (c_X9_becomes hc4) mv_X9_229 rfl 0 rfl [0, 1] rfl rfl [1] [(h_this_s, ia G 313 g3)] rfl rfl (by decide +kernel) rfl hl.1 rfl (Nat.le_of_ble_eq_true rfl) (rok (by decide)) dX9_anew_35 (fun H locs h => ?_)
        cases hf
        exact r_iret C h hr hlk rfl dX9_anew_38
      · replace hf := ifn c1 hf
        refine lv_aload_n hx hb dX9_anew_19 rfl (lv_at hl 0 rfl) ?_
        refine lv_iload_n hx hb dX9_anew_20 rfl (lv_at hl 1 rfl) ?_
        refine lv_iconst (v := (4 : Int32)) hx hb dX9_anew_21 rfl ?_
        refine lv_iconst (v := (0 : Int32)) hx hb dX9_anew_22 rfl ?_
        replace hf := bd1_inv hf
        obtain ⟨g5, hc6, hf⟩ := hf
        refine r_cvV (ws' := [(h_this, ob 9 [.ref h_this_s, .ref h_this_kept, .ref h_this_laid, .int x_this_isKept, .ref h_this_pile, .ref h_this_tape, .int x_this_taped, .ref h_this_letters, .int x_this_at, .int x_this_begun, .int x_this_token, .int x_this_value, .int x_this_opened, .int x_this_steps, .ref h_this_code0, .ref h_this_read, .ref h_this_saved, .ref h_this_plan, .ref h_this_bestPlan, .int x_this_most, .int x_this_many, .int x_this_few, .int x_this_everHome, .ref h_this_offThen, .ref h_this_paidThen, .int x_this_firstFit, .ref h_this_rows, .int x_this_rowMany, .ref h_this_sorts, .ref h_this_sizes, .ref h_this_number, .ref h_this_holds, .ref h_this_heldOne, .ref h_this_trace, .int x_this_traced, .int x_this_own, .int x_this_isParted]), (h_this_s, ia G 313 g5)]) C h (c_X9_puts hc6) mv_X9_195 rfl 0 rfl [0, 1] rfl rfl [1] [(h_this_s, ia G 313 g5)] rfl rfl (by decide +kernel) rfl hl.1 rfl (Nat.le_of_ble_eq_true rfl) (rok (by decide)) dX9_anew_23 (fun H locs h => ?_)
        obtain ⟨t7, et7⟩ : ∃ y : Int32, y = v1 + (1 : Int32) := ⟨_, rfl⟩
        replace hf := lt1_inv et7 hf
        refine lv_iinc (v := t7) (lv' := [(1, .int t7), (0, .ref h_this)]) hx hb dX9_anew_26 hl (k := 1) rfl (by rw [et7]; rfl) (by decide) rfl (fun ls hl => ?_)
        refine lv_goto (tgt := 9) hx hb dX9_anew_29 rfl ?_
        exact hK2 _ _ _ _ (ih t7 g5 hf) _ _ _ h (lv_sub hl [1, 0] rfl)
  refine lv_aload_n hx hb dX9_anew_0 rfl (lv_at hl 0 rfl) ?_
  refine r_get C h fk_X9_9 0 rfl rfl dX9_anew_1 ?_
  refine lv_iconst (v := (2 : Int32)) hx hb dX9_anew_4 rfl ?_
  refine lv_iconst (v := (0 : Int32)) hx hb dX9_anew_5 rfl ?_
  refine r_iastL (ws' := [(h_this, ob 9 [.ref h_this_s, .ref h_this_kept, .ref h_this_laid, .int x_this_isKept, .ref h_this_pile, .ref h_this_tape, .int x_this_taped, .ref h_this_letters, .int x_this_at, .int x_this_begun, .int x_this_token, .int x_this_value, .int x_this_opened, .int x_this_steps, .ref h_this_code0, .ref h_this_read, .ref h_this_saved, .ref h_this_plan, .ref h_this_bestPlan, .int x_this_most, .int x_this_many, .int x_this_few, .int x_this_everHome, .ref h_this_offThen, .ref h_this_paidThen, .int x_this_firstFit, .ref h_this_rows, .int x_this_rowMany, .ref h_this_sorts, .ref h_this_sizes, .ref h_this_number, .ref h_this_holds, .ref h_this_heldOne, .ref h_this_trace, .int x_this_traced, .int x_this_own, .int x_this_isParted]), (h_this_s, ia G 313 (upd f_this_s 2 (0 : Int32)))]) C h 1 rfl (vlit rfl) 2 rfl dX9_anew_6 rfl (fun H locs h => ?_)
  refine lv_iconst (v := (0 : Int32)) hx hb dX9_anew_7 rfl ?_
  refine lv_istore_n (lv' := [(1, .int (0 : Int32)), (0, .ref h_this)]) hx hb dX9_anew_8 rfl hl (by decide) rfl (fun ls hl => ?_)
  exact hK2 _ _ _ _ (L9 1000 (0 : Int32) (upd f_this_s 2 (0 : Int32)) hf) _ _ _ h (lv_sub hl [1, 0] rfl)
set_option maxRecDepth 100000 in
set_option maxHeartbeats 4000000 in
theorem c_X9_isOver {l : Launch} {G : Gt} {h_this h_this_s h_this_kept h_this_laid h_this_pile h_this_tape h_this_letters h_this_code0 h_this_read h_this_saved h_this_plan h_this_bestPlan h_this_offThen h_this_paidThen h_this_rows h_this_sorts h_this_sizes h_this_number h_this_holds h_this_heldOne h_this_trace : Nat} {x_this_isKept : Int32} {x_this_taped : Int32} {x_this_at : Int32} {x_this_begun : Int32} {x_this_token : Int32} {x_this_value : Int32} {x_this_opened : Int32} {x_this_steps : Int32} {x_this_most : Int32} {x_this_many : Int32} {x_this_few : Int32} {x_this_everHome : Int32} {x_this_firstFit : Int32} {x_this_rowMany : Int32} {x_this_traced : Int32} {x_this_own : Int32} {x_this_isParted : Int32} {f_this_s : Nat → Int32} {r : Int32} (hf : f_X9_isOver f_this_s = some r) : mFi l G yX9_isOver cX9_isOver 1 .boolean 0 [.ref h_this] [(h_this, ob 9 [.ref h_this_s, .ref h_this_kept, .ref h_this_laid, .int x_this_isKept, .ref h_this_pile, .ref h_this_tape, .int x_this_taped, .ref h_this_letters, .int x_this_at, .int x_this_begun, .int x_this_token, .int x_this_value, .int x_this_opened, .int x_this_steps, .ref h_this_code0, .ref h_this_read, .ref h_this_saved, .ref h_this_plan, .ref h_this_bestPlan, .int x_this_most, .int x_this_many, .int x_this_few, .int x_this_everHome, .ref h_this_offThen, .ref h_this_paidThen, .int x_this_firstFit, .ref h_this_rows, .int x_this_rowMany, .ref h_this_sorts, .ref h_this_sizes, .ref h_this_number, .ref h_this_holds, .ref h_this_heldOne, .ref h_this_trace, .int x_this_traced, .int x_this_own, .int x_this_isParted]), (h_this_s, ia G 313 f_this_s)] r [(h_this, ob 9 [.ref h_this_s, .ref h_this_kept, .ref h_this_laid, .int x_this_isKept, .ref h_this_pile, .ref h_this_tape, .int x_this_taped, .ref h_this_letters, .int x_this_at, .int x_this_begun, .int x_this_token, .int x_this_value, .int x_this_opened, .int x_this_steps, .ref h_this_code0, .ref h_this_read, .ref h_this_saved, .ref h_this_plan, .ref h_this_bestPlan, .int x_this_most, .int x_this_many, .int x_this_few, .int x_this_everHome, .ref h_this_offThen, .ref h_this_paidThen, .int x_this_firstFit, .ref h_this_rows, .int x_this_rowMany, .ref h_this_sorts, .ref h_this_sizes, .ref h_this_number, .ref h_this_holds, .ref h_this_heldOne, .ref h_this_trace, .int x_this_traced, .int x_this_own, .int x_this_isParted]), (h_this_s, ia G 313 f_this_s)] := by
  refine mFi.of (by decide +kernel) (Nat.le_of_ble_eq_true rfl) ?_
  intro p e s m below meth c A C hr hlk h ls hl
  obtain ⟨hx, hb, hml, hown, hts⟩ := id C
  replace hl : lv_has ls 1 [(0, .ref h_this)] := hl
  unfold f_X9_isOver at hf
  refine lv_aload_n hx hb dX9_isOver_0 rfl (lv_at hl 0 rfl) ?_
  refine r_get C h fk_X9_9 0 rfl rfl dX9_isOver_1 ?_
  refine lv_iconst (v := (0 : Int32)) hx hb dX9_isOver_4 rfl ?_
  refine r_ialdL C h 1 rfl (vlit rfl) 0 rfl dX9_isOver_5 ?_
  refine lv_aload_n hx hb dX9_isOver_6 rfl (lv_at hl 0 rfl) ?_
  refine r_get C h fk_X9_9 0 rfl rfl dX9_isOver_7 ?_
  refine lv_iconst (v := (1 : Int32)) hx hb dX9_isOver_10 rfl ?_
  refine r_ialdL C h 1 rfl (vlit rfl) 1 rfl dX9_isOver_11 ?_
  refine lv_icmp_lt (tgt := 19) hx hb dX9_isOver_12 rfl (fun c1 => ?_) (fun c1 => ?_)
  · replace hf := ifp c1 hf
    refine lv_iconst (v := (0 : Int32)) hx hb dX9_isOver_19 rfl ?_
    cases hf
    exact r_iret C h hr hlk rfl dX9_isOver_20
  · replace hf := ifn c1 hf
    refine lv_iconst (v := (1 : Int32)) hx hb dX9_isOver_15 rfl ?_
    refine lv_goto (tgt := 20) hx hb dX9_isOver_16 rfl ?_
    cases hf
    exact r_iret C h hr hlk rfl dX9_isOver_20
set_option maxRecDepth 100000 in
set_option maxHeartbeats 4000000 in
theorem c_X9_those {l : Launch} {G : Gt} {h_this h_this_s h_this_kept h_this_laid h_this_pile h_this_tape h_this_letters h_this_code0 h_this_read h_this_saved h_this_plan h_this_bestPlan h_this_offThen h_this_paidThen h_this_rows h_this_sorts h_this_sizes h_this_number h_this_holds h_this_heldOne h_this_trace : Nat} {p0 : Int32} {x_this_isKept : Int32} {x_this_taped : Int32} {x_this_at : Int32} {x_this_begun : Int32} {x_this_token : Int32} {x_this_value : Int32} {x_this_opened : Int32} {x_this_steps : Int32} {x_this_most : Int32} {x_this_many : Int32} {x_this_few : Int32} {x_this_everHome : Int32} {x_this_firstFit : Int32} {x_this_rowMany : Int32} {x_this_traced : Int32} {x_this_own : Int32} {x_this_isParted : Int32} {f_this_s : Nat → Int32} {r : Int32} (hf : f_X9_those p0 f_this_s = some r) : mFi l G yX9_those cX9_those 4 .int 1 [.ref h_this, .int p0] [(h_this, ob 9 [.ref h_this_s, .ref h_this_kept, .ref h_this_laid, .int x_this_isKept, .ref h_this_pile, .ref h_this_tape, .int x_this_taped, .ref h_this_letters, .int x_this_at, .int x_this_begun, .int x_this_token, .int x_this_value, .int x_this_opened, .int x_this_steps, .ref h_this_code0, .ref h_this_read, .ref h_this_saved, .ref h_this_plan, .ref h_this_bestPlan, .int x_this_most, .int x_this_many, .int x_this_few, .int x_this_everHome, .ref h_this_offThen, .ref h_this_paidThen, .int x_this_firstFit, .ref h_this_rows, .int x_this_rowMany, .ref h_this_sorts, .ref h_this_sizes, .ref h_this_number, .ref h_this_holds, .ref h_this_heldOne, .ref h_this_trace, .int x_this_traced, .int x_this_own, .int x_this_isParted]), (h_this_s, ia G 313 f_this_s)] r [(h_this, ob 9 [.ref h_this_s, .ref h_this_kept, .ref h_this_laid, .int x_this_isKept, .ref h_this_pile, .ref h_this_tape, .int x_this_taped, .ref h_this_letters, .int x_this_at, .int x_this_begun, .int x_this_token, .int x_this_value, .int x_this_opened, .int x_this_steps, .ref h_this_code0, .ref h_this_read, .ref h_this_saved, .ref h_this_plan, .ref h_this_bestPlan, .int x_this_most, .int x_this_many, .int x_this_few, .int x_this_everHome, .ref h_this_offThen, .ref h_this_paidThen, .int x_this_firstFit, .ref h_this_rows, .int x_this_rowMany, .ref h_this_sorts, .ref h_this_sizes, .ref h_this_number, .ref h_this_holds, .ref h_this_heldOne, .ref h_this_trace, .int x_this_traced, .int x_this_own, .int x_this_isParted]), (h_this_s, ia G 313 f_this_s)] := by
  refine mFi.of (by decide +kernel) (Nat.le_of_ble_eq_true rfl) ?_
  intro p e s m below meth c A C hr hlk h ls hl
  obtain ⟨hx, hb, hml, hown, hts⟩ := id C
  replace hl : lv_has ls 4 [(0, .ref h_this), (1, .int p0)] := hl
  unfold f_X9_those at hf
  refine with_K G A 4 (fun K hK1 hK2 => ?_)
  have L4 : ∀ (n : Nat) (v2 : Int32) (v3 : Int32), f_X9_those_L4 p0 f_this_s n v2 v3 = some r → K 4 ([] : List Value) [(h_this, ob 9 [.ref h_this_s, .ref h_this_kept, .ref h_this_laid, .int x_this_isKept, .ref h_this_pile, .ref h_this_tape, .int x_this_taped, .ref h_this_letters, .int x_this_at, .int x_this_begun, .int x_this_token, .int x_this_value, .int x_this_opened, .int x_this_steps, .ref h_this_code0, .ref h_this_read, .ref h_this_saved, .ref h_this_plan, .ref h_this_bestPlan, .int x_this_most, .int x_this_many, .int x_this_few, .int x_this_everHome, .ref h_this_offThen, .ref h_this_paidThen, .int x_this_firstFit, .ref h_this_rows, .int x_this_rowMany, .ref h_this_sorts, .ref h_this_sizes, .ref h_this_number, .ref h_this_holds, .ref h_this_heldOne, .ref h_this_trace, .int x_this_traced, .int x_this_own, .int x_this_isParted]), (h_this_s, ia G 313 f_this_s)] [(0, .ref h_this), (1, .int p0), (2, .int v2), (3, .int v3)] := by
    intro n
    induction n with
    | zero =>
      intro v2 v3 hf
      replace hf : (none : Option _) = some _ := hf
      cases hf
    | succ n ih =>
      intro v2 v3 hf
      rw [f_X9_those_L4] at hf
      refine hK1 _ _ _ _ (fun H locs ls h hl => ?_)
      refine lv_iload_n hx hb dX9_those_4 rfl (lv_at hl 3 rfl) ?_
      refine lv_aload_n hx hb dX9_those_5 rfl (lv_at hl 0 rfl) ?_
      refine r_get C h fk_X9_9 0 rfl rfl dX9_those_6 ?_
      refine lv_iconst (v := (4 : Int32)) hx hb dX9_those_9 rfl ?_
      refine r_ialdL C h 1 rfl (vlit rfl) 4 rfl dX9_those_10 ?_
      refine lv_icmp_ge (tgt := 39) hx hb dX9_those_11 rfl (fun c1 => ?_) (fun c1 => ?_)
      · replace hf := ifp c1 hf
        refine lv_iload_n hx hb dX9_those_39 rfl (lv_at hl 2 rfl) ?_
        cases hf
        exact r_iret C h hr hlk rfl dX9_those_40
      · replace hf := ifn c1 hf
        refine lv_iload_n hx hb dX9_those_14 rfl (lv_at hl 2 rfl) ?_
        refine lv_aload_n hx hb dX9_those_15 rfl (lv_at hl 0 rfl) ?_
        refine lv_iload_n hx hb dX9_those_16 rfl (lv_at hl 3 rfl) ?_
        refine lv_iload_n hx hb dX9_those_17 rfl (lv_at hl 1 rfl) ?_
        replace hf := bd1_inv hf
        obtain ⟨r2, hc3, hf⟩ := hf
        refine r_ciV0 C h (c_X9_get hc3) mv_X9_79 rfl 0 rfl [0, 1] rfl rfl hl.1 rfl (Nat.le_of_ble_eq_true rfl) (rok (by decide)) dX9_those_18 (fun H locs h => ?_)
        refine lv_if_le (tgt := 30) hx hb dX9_those_21 rfl (fun c4 => ?_) (fun c4 => ?_)
        · replace hf := ifp c4 hf
          refine lv_iconst (v := (0 : Int32)) hx hb dX9_those_30 rfl ?_
          refine lv_ior hx hb dX9_those_31 ?_
          refine lv_topi (fun t5 et5 => ?_)
          replace hf := lt1_inv et5 hf
          refine lv_istore_n (lv' := [(2, .int t5), (0, .ref h_this), (1, .int p0), (3, .int v3)]) hx hb dX9_those_32 rfl hl (by decide) rfl (fun ls hl => ?_)
          obtain ⟨t6, et6⟩ : ∃ y : Int32, y = v3 + (1 : Int32) := ⟨_, rfl⟩
          replace hf := lt1_inv et6 hf
          refine lv_iinc (v := t6) (lv' := [(3, .int t6), (2, .int t5), (0, .ref h_this), (1, .int p0)]) hx hb dX9_those_33 hl (k := 3) rfl (by rw [et6]; rfl) (by decide) rfl (fun ls hl => ?_)
          refine lv_goto (tgt := 4) hx hb dX9_those_36 rfl ?_
          exact hK2 _ _ _ _ (ih t5 t6 hf) _ _ _ h (lv_sub hl [2, 3, 1, 0] rfl)
        · replace hf := ifn c4 hf
          refine lv_iconst (v := (1 : Int32)) hx hb dX9_those_24 rfl ?_
          refine lv_iload_n hx hb dX9_those_25 rfl (lv_at hl 3 rfl) ?_
          refine lv_ishl hx hb dX9_those_26 ?_
          refine lv_goto (tgt := 31) hx hb dX9_those_27 rfl ?_
          refine lv_ior hx hb dX9_those_31 ?_
          refine lv_topi (fun t7 et7 => ?_)
          replace hf := lt1_inv et7 hf
          refine lv_istore_n (lv' := [(2, .int t7), (0, .ref h_this), (1, .int p0), (3, .int v3)]) hx hb dX9_those_32 rfl hl (by decide) rfl (fun ls hl => ?_)
          obtain ⟨t8, et8⟩ : ∃ y : Int32, y = v3 + (1 : Int32) := ⟨_, rfl⟩
          replace hf := lt1_inv et8 hf
          refine lv_iinc (v := t8) (lv' := [(3, .int t8), (2, .int t7), (0, .ref h_this), (1, .int p0)]) hx hb dX9_those_33 hl (k := 3) rfl (by rw [et8]; rfl) (by decide) rfl (fun ls hl => ?_)
          refine lv_goto (tgt := 4) hx hb dX9_those_36 rfl ?_
          exact hK2 _ _ _ _ (ih t7 t8 hf) _ _ _ h (lv_sub hl [2, 3, 1, 0] rfl)
  refine lv_iconst (v := (0 : Int32)) hx hb dX9_those_0 rfl ?_
  refine lv_istore_n (lv' := [(2, .int (0 : Int32)), (0, .ref h_this), (1, .int p0)]) hx hb dX9_those_1 rfl hl (by decide) rfl (fun ls hl => ?_)
  refine lv_iconst (v := (0 : Int32)) hx hb dX9_those_2 rfl ?_
  refine lv_istore_n (lv' := [(3, .int (0 : Int32)), (2, .int (0 : Int32)), (0, .ref h_this), (1, .int p0)]) hx hb dX9_those_3 rfl hl (by decide) rfl (fun ls hl => ?_)
  exact hK2 _ _ _ _ (L4 1000 (0 : Int32) (0 : Int32) hf) _ _ _ h (lv_sub hl [2, 3, 1, 0] rfl)
set_option maxRecDepth 100000 in
set_option maxHeartbeats 4000000 in
theorem c_X9_isOnRock {l : Launch} {G : Gt} {h_this h_this_s h_this_kept h_this_laid h_this_pile h_this_tape h_this_letters h_this_code0 h_this_read h_this_saved h_this_plan h_this_bestPlan h_this_offThen h_this_paidThen h_this_rows h_this_sorts h_this_sizes h_this_number h_this_holds h_this_heldOne h_this_trace : Nat} {p0 : Int32} {x_this_isKept : Int32} {x_this_taped : Int32} {x_this_at : Int32} {x_this_begun : Int32} {x_this_token : Int32} {x_this_value : Int32} {x_this_opened : Int32} {x_this_steps : Int32} {x_this_most : Int32} {x_this_many : Int32} {x_this_few : Int32} {x_this_everHome : Int32} {x_this_firstFit : Int32} {x_this_rowMany : Int32} {x_this_traced : Int32} {x_this_own : Int32} {x_this_isParted : Int32} {f_this_s : Nat → Int32} {r : Int32} (hf : f_X9_isOnRock p0 f_this_s = some r) : mFi l G yX9_isOnRock cX9_isOnRock 2 .boolean 1 [.ref h_this, .int p0] [(h_this, ob 9 [.ref h_this_s, .ref h_this_kept, .ref h_this_laid, .int x_this_isKept, .ref h_this_pile, .ref h_this_tape, .int x_this_taped, .ref h_this_letters, .int x_this_at, .int x_this_begun, .int x_this_token, .int x_this_value, .int x_this_opened, .int x_this_steps, .ref h_this_code0, .ref h_this_read, .ref h_this_saved, .ref h_this_plan, .ref h_this_bestPlan, .int x_this_most, .int x_this_many, .int x_this_few, .int x_this_everHome, .ref h_this_offThen, .ref h_this_paidThen, .int x_this_firstFit, .ref h_this_rows, .int x_this_rowMany, .ref h_this_sorts, .ref h_this_sizes, .ref h_this_number, .ref h_this_holds, .ref h_this_heldOne, .ref h_this_trace, .int x_this_traced, .int x_this_own, .int x_this_isParted]), (h_this_s, ia G 313 f_this_s)] r [(h_this, ob 9 [.ref h_this_s, .ref h_this_kept, .ref h_this_laid, .int x_this_isKept, .ref h_this_pile, .ref h_this_tape, .int x_this_taped, .ref h_this_letters, .int x_this_at, .int x_this_begun, .int x_this_token, .int x_this_value, .int x_this_opened, .int x_this_steps, .ref h_this_code0, .ref h_this_read, .ref h_this_saved, .ref h_this_plan, .ref h_this_bestPlan, .int x_this_most, .int x_this_many, .int x_this_few, .int x_this_everHome, .ref h_this_offThen, .ref h_this_paidThen, .int x_this_firstFit, .ref h_this_rows, .int x_this_rowMany, .ref h_this_sorts, .ref h_this_sizes, .ref h_this_number, .ref h_this_holds, .ref h_this_heldOne, .ref h_this_trace, .int x_this_traced, .int x_this_own, .int x_this_isParted]), (h_this_s, ia G 313 f_this_s)] := by
  refine mFi.of (by decide +kernel) (Nat.le_of_ble_eq_true rfl) ?_
  intro p e s m below meth c A C hr hlk h ls hl
  obtain ⟨hx, hb, hml, hown, hts⟩ := id C
  replace hl : lv_has ls 2 [(0, .ref h_this), (1, .int p0)] := hl
  unfold f_X9_isOnRock at hf
  refine lv_aload_n hx hb dX9_isOnRock_0 rfl (lv_at hl 0 rfl) ?_
  refine lv_iload_n hx hb dX9_isOnRock_1 rfl (lv_at hl 1 rfl) ?_
  refine lv_iconst (v := (4 : Int32)) hx hb dX9_isOnRock_2 rfl ?_
  replace hf := bd1_inv hf
  obtain ⟨r1, hc2, hf⟩ := hf
  refine r_ciV0 C h (c_X9_get hc2) mv_X9_79 rfl 0 rfl [0, 1] rfl rfl hl.1 rfl (Nat.le_of_ble_eq_true rfl) (rok (by decide)) dX9_isOnRock_3 (fun H locs h => ?_)
  refine lv_if_ne (tgt := 22) hx hb dX9_isOnRock_6 rfl (fun c3 => ?_) (fun c3 => ?_)
  · replace hf := ifn c3 hf
    refine lv_iconst (v := (0 : Int32)) hx hb dX9_isOnRock_22 rfl ?_
    cases hf
    exact r_iret C h hr hlk rfl dX9_isOnRock_23
  · replace hf := ifp c3 hf
    refine lv_aload_n hx hb dX9_isOnRock_9 rfl (lv_at hl 0 rfl) ?_
    refine lv_iload_n hx hb dX9_isOnRock_10 rfl (lv_at hl 1 rfl) ?_
    refine lv_iconst (v := (1 : Int32)) hx hb dX9_isOnRock_11 rfl ?_
    replace hf := bd1_inv hf
    obtain ⟨r4, hc5, hf⟩ := hf
    refine r_ciV0 C h (c_X9_get hc5) mv_X9_79 rfl 0 rfl [0, 1] rfl rfl hl.1 rfl (Nat.le_of_ble_eq_true rfl) (rok (by decide)) dX9_isOnRock_12 (fun H locs h => ?_)
    refine lv_if_ne (tgt := 22) hx hb dX9_isOnRock_15 rfl (fun c6 => ?_) (fun c6 => ?_)
    · replace hf := ifn c6 hf
      refine lv_iconst (v := (0 : Int32)) hx hb dX9_isOnRock_22 rfl ?_
      cases hf
      exact r_iret C h hr hlk rfl dX9_isOnRock_23
    · replace hf := ifp c6 hf
      refine lv_iconst (v := (1 : Int32)) hx hb dX9_isOnRock_18 rfl ?_
      refine lv_goto (tgt := 23) hx hb dX9_isOnRock_19 rfl ?_
      cases hf
      exact r_iret C h hr hlk rfl dX9_isOnRock_23
set_option maxRecDepth 100000 in
set_option maxHeartbeats 4000000 in
theorem c_X9_onRock {l : Launch} {G : Gt} {h_this h_this_s h_this_kept h_this_laid h_this_pile h_this_tape h_this_letters h_this_code0 h_this_read h_this_saved h_this_plan h_this_bestPlan h_this_offThen h_this_paidThen h_this_rows h_this_sorts h_this_sizes h_this_number h_this_holds h_this_heldOne h_this_trace : Nat} {x_this_isKept : Int32} {x_this_taped : Int32} {x_this_at : Int32} {x_this_begun : Int32} {x_this_token : Int32} {x_this_value : Int32} {x_this_opened : Int32} {x_this_steps : Int32} {x_this_most : Int32} {x_this_many : Int32} {x_this_few : Int32} {x_this_everHome : Int32} {x_this_firstFit : Int32} {x_this_rowMany : Int32} {x_this_traced : Int32} {x_this_own : Int32} {x_this_isParted : Int32} {f_this_s : Nat → Int32} {r : Int32} (hf : f_X9_onRock f_this_s = some r) : mFi l G yX9_onRock cX9_onRock 3 .int 2 [.ref h_this] [(h_this, ob 9 [.ref h_this_s, .ref h_this_kept, .ref h_this_laid, .int x_this_isKept, .ref h_this_pile, .ref h_this_tape, .int x_this_taped, .ref h_this_letters, .int x_this_at, .int x_this_begun, .int x_this_token, .int x_this_value, .int x_this_opened, .int x_this_steps, .ref h_this_code0, .ref h_this_read, .ref h_this_saved, .ref h_this_plan, .ref h_this_bestPlan, .int x_this_most, .int x_this_many, .int x_this_few, .int x_this_everHome, .ref h_this_offThen, .ref h_this_paidThen, .int x_this_firstFit, .ref h_this_rows, .int x_this_rowMany, .ref h_this_sorts, .ref h_this_sizes, .ref h_this_number, .ref h_this_holds, .ref h_this_heldOne, .ref h_this_trace, .int x_this_traced, .int x_this_own, .int x_this_isParted]), (h_this_s, ia G 313 f_this_s)] r [(h_this, ob 9 [.ref h_this_s, .ref h_this_kept, .ref h_this_laid, .int x_this_isKept, .ref h_this_pile, .ref h_this_tape, .int x_this_taped, .ref h_this_letters, .int x_this_at, .int x_this_begun, .int x_this_token, .int x_this_value, .int x_this_opened, .int x_this_steps, .ref h_this_code0, .ref h_this_read, .ref h_this_saved, .ref h_this_plan, .ref h_this_bestPlan, .int x_this_most, .int x_this_many, .int x_this_few, .int x_this_everHome, .ref h_this_offThen, .ref h_this_paidThen, .int x_this_firstFit, .ref h_this_rows, .int x_this_rowMany, .ref h_this_sorts, .ref h_this_sizes, .ref h_this_number, .ref h_this_holds, .ref h_this_heldOne, .ref h_this_trace, .int x_this_traced, .int x_this_own, .int x_this_isParted]), (h_this_s, ia G 313 f_this_s)] := by
  refine mFi.of (by decide +kernel) (Nat.le_of_ble_eq_true rfl) ?_
  intro p e s m below meth c A C hr hlk h ls hl
  obtain ⟨hx, hb, hml, hown, hts⟩ := id C
  replace hl : lv_has ls 3 [(0, .ref h_this)] := hl
  unfold f_X9_onRock at hf
  refine with_K G A 3 (fun K hK1 hK2 => ?_)
  have L4 : ∀ (n : Nat) (v1 : Int32) (v2 : Int32), f_X9_onRock_L4 f_this_s n v1 v2 = some r → K 4 ([] : List Value) [(h_this, ob 9 [.ref h_this_s, .ref h_this_kept, .ref h_this_laid, .int x_this_isKept, .ref h_this_pile, .ref h_this_tape, .int x_this_taped, .ref h_this_letters, .int x_this_at, .int x_this_begun, .int x_this_token, .int x_this_value, .int x_this_opened, .int x_this_steps, .ref h_this_code0, .ref h_this_read, .ref h_this_saved, .ref h_this_plan, .ref h_this_bestPlan, .int x_this_most, .int x_this_many, .int x_this_few, .int x_this_everHome, .ref h_this_offThen, .ref h_this_paidThen, .int x_this_firstFit, .ref h_this_rows, .int x_this_rowMany, .ref h_this_sorts, .ref h_this_sizes, .ref h_this_number, .ref h_this_holds, .ref h_this_heldOne, .ref h_this_trace, .int x_this_traced, .int x_this_own, .int x_this_isParted]), (h_this_s, ia G 313 f_this_s)] [(0, .ref h_this), (1, .int v1), (2, .int v2)] := by
    intro n
    induction n with
    | zero =>
      intro v1 v2 hf
      replace hf : (none : Option _) = some _ := hf
      cases hf
    | succ n ih =>
      intro v1 v2 hf
      rw [f_X9_onRock_L4] at hf
      refine hK1 _ _ _ _ (fun H locs ls h hl => ?_)
      refine lv_iload_n hx hb dX9_onRock_4 rfl (lv_at hl 2 rfl) ?_
      refine lv_aload_n hx hb dX9_onRock_5 rfl (lv_at hl 0 rfl) ?_
      refine r_get C h fk_X9_9 0 rfl rfl dX9_onRock_6 ?_
      refine lv_iconst (v := (4 : Int32)) hx hb dX9_onRock_9 rfl ?_
      refine r_ialdL C h 1 rfl (vlit rfl) 4 rfl dX9_onRock_10 ?_
      refine lv_icmp_ge (tgt := 36) hx hb dX9_onRock_11 rfl (fun c1 => ?_) (fun c1 => ?_)
      · replace hf := ifp c1 hf
        refine lv_iload_n hx hb dX9_onRock_36 rfl (lv_at hl 1 rfl) ?_
        cases hf
        exact r_iret C h hr hlk rfl dX9_onRock_37
      · replace hf := ifn c1 hf
        refine lv_iload_n hx hb dX9_onRock_14 rfl (lv_at hl 1 rfl) ?_
        refine lv_aload_n hx hb dX9_onRock_15 rfl (lv_at hl 0 rfl) ?_
        refine lv_iload_n hx hb dX9_onRock_16 rfl (lv_at hl 2 rfl) ?_
        replace hf := bd1_inv hf
        obtain ⟨r2, hc3, hf⟩ := hf
        refine r_ciV0 C h (c_X9_isOnRock hc3) mv_X9_108 rfl 0 rfl [0, 1] rfl rfl hl.1 rfl (Nat.le_of_ble_eq_true rfl) (rok (by decide)) dX9_onRock_17 (fun H locs h => ?_)
        refine lv_if_eq (tgt := 27) hx hb dX9_onRock_20 rfl (fun c4 => ?_) (fun c4 => ?_)
        · replace hf := ifp c4 hf
          refine lv_iconst (v := (0 : Int32)) hx hb dX9_onRock_27 rfl ?_
          refine lv_iadd hx hb dX9_onRock_28 ?_
          refine lv_topi (fun t5 et5 => ?_)
          replace hf := lt1_inv et5 hf
          refine lv_istore_n (lv' := [(1, .int t5), (0, .ref h_this), (2, .int v2)]) hx hb dX9_onRock_29 rfl hl (by decide) rfl (fun ls hl => ?_)
          obtain ⟨t6, et6⟩ : ∃ y : Int32, y = v2 + (1 : Int32) := ⟨_, rfl⟩
          replace hf := lt1_inv et6 hf
          refine lv_iinc (v := t6) (lv' := [(2, .int t6), (1, .int t5), (0, .ref h_this)]) hx hb dX9_onRock_30 hl (k := 2) rfl (by rw [et6]; rfl) (by decide) rfl (fun ls hl => ?_)
          refine lv_goto (tgt := 4) hx hb dX9_onRock_33 rfl ?_
          exact hK2 _ _ _ _ (ih t5 t6 hf) _ _ _ h (lv_sub hl [2, 1, 0] rfl)
        · replace hf := ifn c4 hf
          refine lv_iconst (v := (1 : Int32)) hx hb dX9_onRock_23 rfl ?_
          refine lv_goto (tgt := 28) hx hb dX9_onRock_24 rfl ?_
          refine lv_iadd hx hb dX9_onRock_28 ?_
          refine lv_topi (fun t7 et7 => ?_)
          replace hf := lt1_inv et7 hf
          refine lv_istore_n (lv' := [(1, .int t7), (0, .ref h_this), (2, .int v2)]) hx hb dX9_onRock_29 rfl hl (by decide) rfl (fun ls hl => ?_)
          obtain ⟨t8, et8⟩ : ∃ y : Int32, y = v2 + (1 : Int32) := ⟨_, rfl⟩
          replace hf := lt1_inv et8 hf
          refine lv_iinc (v := t8) (lv' := [(2, .int t8), (1, .int t7), (0, .ref h_this)]) hx hb dX9_onRock_30 hl (k := 2) rfl (by rw [et8]; rfl) (by decide) rfl (fun ls hl => ?_)
          refine lv_goto (tgt := 4) hx hb dX9_onRock_33 rfl ?_
          exact hK2 _ _ _ _ (ih t7 t8 hf) _ _ _ h (lv_sub hl [2, 1, 0] rfl)
  refine lv_iconst (v := (0 : Int32)) hx hb dX9_onRock_0 rfl ?_
  refine lv_istore_n (lv' := [(1, .int (0 : Int32)), (0, .ref h_this)]) hx hb dX9_onRock_1 rfl hl (by decide) rfl (fun ls hl => ?_)
  refine lv_iconst (v := (0 : Int32)) hx hb dX9_onRock_2 rfl ?_
  refine lv_istore_n (lv' := [(2, .int (0 : Int32)), (1, .int (0 : Int32)), (0, .ref h_this)]) hx hb dX9_onRock_3 rfl hl (by decide) rfl (fun ls hl => ?_)
  exact hK2 _ _ _ _ (L4 1000 (0 : Int32) (0 : Int32) hf) _ _ _ h (lv_sub hl [2, 1, 0] rfl)
set_option maxRecDepth 100000 in
set_option maxHeartbeats 4000000 in
theorem c_X9_state {l : Launch} {G : Gt} {h_this h_this_s h_this_kept h_this_laid h_this_pile h_this_tape h_this_letters h_this_code0 h_this_read h_this_saved h_this_plan h_this_bestPlan h_this_offThen h_this_paidThen h_this_rows h_this_sorts h_this_sizes h_this_number h_this_holds h_this_heldOne h_this_trace : Nat} {p0 : Int32} {x_this_isKept : Int32} {x_this_taped : Int32} {x_this_at : Int32} {x_this_begun : Int32} {x_this_token : Int32} {x_this_value : Int32} {x_this_opened : Int32} {x_this_steps : Int32} {x_this_most : Int32} {x_this_many : Int32} {x_this_few : Int32} {x_this_everHome : Int32} {x_this_firstFit : Int32} {x_this_rowMany : Int32} {x_this_traced : Int32} {x_this_own : Int32} {x_this_isParted : Int32} {f_this_s : Nat → Int32} {r : Int32} (hf : f_X9_state p0 f_this_s = some r) : mFi l G yX9_state cX9_state 2 .int 3 [.ref h_this, .int p0] [(h_this, ob 9 [.ref h_this_s, .ref h_this_kept, .ref h_this_laid, .int x_this_isKept, .ref h_this_pile, .ref h_this_tape, .int x_this_taped, .ref h_this_letters, .int x_this_at, .int x_this_begun, .int x_this_token, .int x_this_value, .int x_this_opened, .int x_this_steps, .ref h_this_code0, .ref h_this_read, .ref h_this_saved, .ref h_this_plan, .ref h_this_bestPlan, .int x_this_most, .int x_this_many, .int x_this_few, .int x_this_everHome, .ref h_this_offThen, .ref h_this_paidThen, .int x_this_firstFit, .ref h_this_rows, .int x_this_rowMany, .ref h_this_sorts, .ref h_this_sizes, .ref h_this_number, .ref h_this_holds, .ref h_this_heldOne, .ref h_this_trace, .int x_this_traced, .int x_this_own, .int x_this_isParted]), (h_this_s, ia G 313 f_this_s)] r [(h_this, ob 9 [.ref h_this_s, .ref h_this_kept, .ref h_this_laid, .int x_this_isKept, .ref h_this_pile, .ref h_this_tape, .int x_this_taped, .ref h_this_letters, .int x_this_at, .int x_this_begun, .int x_this_token, .int x_this_value, .int x_this_opened, .int x_this_steps, .ref h_this_code0, .ref h_this_read, .ref h_this_saved, .ref h_this_plan, .ref h_this_bestPlan, .int x_this_most, .int x_this_many, .int x_this_few, .int x_this_everHome, .ref h_this_offThen, .ref h_this_paidThen, .int x_this_firstFit, .ref h_this_rows, .int x_this_rowMany, .ref h_this_sorts, .ref h_this_sizes, .ref h_this_number, .ref h_this_holds, .ref h_this_heldOne, .ref h_this_trace, .int x_this_traced, .int x_this_own, .int x_this_isParted]), (h_this_s, ia G 313 f_this_s)] := by
  refine mFi.of (by decide +kernel) (Nat.le_of_ble_eq_true rfl) ?_
  intro p e s m below meth c A C hr hlk h ls hl
  obtain ⟨hx, hb, hml, hown, hts⟩ := id C
  replace hl : lv_has ls 2 [(0, .ref h_this), (1, .int p0)] := hl
  unfold f_X9_state at hf
  refine lv_iload_n hx hb dX9_state_0 rfl (lv_at hl 1 rfl) ?_
  by_cases c1 : p0 = (0 : Int32)
  · replace hf := ifp c1 hf
    refine r_tab (tgt := 44) C dX9_state_1 (0 : Int32) c1 (by decide) rfl rfl ?_
    refine lv_aload_n hx hb dX9_state_44 rfl (lv_at hl 0 rfl) ?_
    refine r_get C h fk_X9_9 0 rfl rfl dX9_state_45 ?_
    refine lv_iconst (v := (0 : Int32)) hx hb dX9_state_48 rfl ?_
    refine r_ialdL C h 1 rfl (vlit rfl) 0 rfl dX9_state_49 ?_
    cases hf
    exact r_iret C h hr hlk rfl dX9_state_50
  · replace hf := ifn c1 hf
    by_cases c2 : p0 = (1 : Int32)
    · replace hf := ifp c2 hf
      refine r_tab (tgt := 51) C dX9_state_1 (1 : Int32) c2 (by decide) rfl rfl ?_
      refine lv_aload_n hx hb dX9_state_51 rfl (lv_at hl 0 rfl) ?_
      refine r_get C h fk_X9_9 0 rfl rfl dX9_state_52 ?_
      refine lv_iconst (v := (1 : Int32)) hx hb dX9_state_55 rfl ?_
      refine r_ialdL C h 1 rfl (vlit rfl) 1 rfl dX9_state_56 ?_
      cases hf
      exact r_iret C h hr hlk rfl dX9_state_57
    · replace hf := ifn c2 hf
      by_cases c3 : p0 = (2 : Int32)
      · replace hf := ifp c3 hf
        refine r_tab (tgt := 58) C dX9_state_1 (2 : Int32) c3 (by decide) rfl rfl ?_
        refine lv_aload_n hx hb dX9_state_58 rfl (lv_at hl 0 rfl) ?_
        refine r_get C h fk_X9_9 0 rfl rfl dX9_state_59 ?_
        refine lv_iconst (v := (2 : Int32)) hx hb dX9_state_62 rfl ?_
        refine r_ialdL C h 1 rfl (vlit rfl) 2 rfl dX9_state_63 ?_
        cases hf
        exact r_iret C h hr hlk rfl dX9_state_64
      · replace hf := ifn c3 hf
        by_cases c4 : p0 = (3 : Int32)
        · replace hf := ifp c4 hf
          refine r_tab (tgt := 65) C dX9_state_1 (3 : Int32) c4 (by decide) rfl rfl ?_
          refine lv_aload_n hx hb dX9_state_65 rfl (lv_at hl 0 rfl) ?_
          replace hf := bd1_inv hf
          obtain ⟨r8, hc9, hf⟩ := hf
          refine r_ciV0 C h (c_X9_isOver hc9) mv_X9_232 rfl 0 rfl [0, 1] rfl rfl hl.1 rfl (Nat.le_of_ble_eq_true rfl) (rok (by decide)) dX9_state_66 (fun H locs h => ?_)
          refine lv_if_eq (tgt := 76) hx hb dX9_state_69 rfl (fun c10 => ?_) (fun c10 => ?_)
          · replace hf := ifp c10 hf
            refine lv_iconst (v := (0 : Int32)) hx hb dX9_state_76 rfl ?_
            cases hf
            exact r_iret C h hr hlk rfl dX9_state_77
          · replace hf := ifn c10 hf
            refine lv_iconst (v := (1 : Int32)) hx hb dX9_state_72 rfl ?_
            refine lv_goto (tgt := 77) hx hb dX9_state_73 rfl ?_
            cases hf
            exact r_iret C h hr hlk rfl dX9_state_77
        · replace hf := ifn c4 hf
          by_cases c5 : p0 = (4 : Int32)
          · replace hf := ifp c5 hf
            refine r_tab (tgt := 78) C dX9_state_1 (4 : Int32) c5 (by decide) rfl rfl ?_
            refine lv_aload_n hx hb dX9_state_78 rfl (lv_at hl 0 rfl) ?_
            refine lv_iconst (v := (4 : Int32)) hx hb dX9_state_79 rfl ?_
            replace hf := bd1_inv hf
            obtain ⟨r11, hc12, hf⟩ := hf
            refine r_ciV0 C h (c_X9_those hc12) mv_X9_235 rfl 0 rfl [0, 1] rfl rfl hl.1 rfl (Nat.le_of_ble_eq_true rfl) (rok (by decide)) dX9_state_80 (fun H locs h => ?_)
            cases hf
            exact r_iret C h hr hlk rfl dX9_state_83
          · replace hf := ifn c5 hf
            by_cases c6 : p0 = (5 : Int32)
            · replace hf := ifp c6 hf
              refine r_tab (tgt := 84) C dX9_state_1 (5 : Int32) c6 (by decide) rfl rfl ?_
              refine lv_aload_n hx hb dX9_state_84 rfl (lv_at hl 0 rfl) ?_
              replace hf := bd1_inv hf
              obtain ⟨r13, hc14, hf⟩ := hf
              refine r_ciV0 C h (c_X9_lightNow hc14) mv_X9_83 rfl 0 rfl [0, 1] rfl rfl hl.1 rfl (Nat.le_of_ble_eq_true rfl) (rok (by decide)) dX9_state_85 (fun H locs h => ?_)
              cases hf
              exact r_iret C h hr hlk rfl dX9_state_88
            · replace hf := ifn c6 hf
              by_cases c7 : p0 = (6 : Int32)
              · replace hf := ifp c7 hf
                refine r_tab (tgt := 89) C dX9_state_1 (6 : Int32) c7 (by decide) rfl rfl ?_
                refine lv_aload_n hx hb dX9_state_89 rfl (lv_at hl 0 rfl) ?_
                replace hf := bd1_inv hf
                obtain ⟨r15, hc16, hf⟩ := hf
                refine r_ciV0 C h (c_X9_onRock hc16) mv_X9_217 rfl 0 rfl [0, 1] rfl rfl hl.1 rfl (Nat.le_of_ble_eq_true rfl) (rok (by decide)) dX9_state_90 (fun H locs h => ?_)
                cases hf
                exact r_iret C h hr hlk rfl dX9_state_93
              · replace hf := ifn c7 hf
                refine r_tabD (tgt := 94) C dX9_state_1 [(0 : Int32), (1 : Int32), (2 : Int32), (3 : Int32), (4 : Int32), (5 : Int32), (6 : Int32)] (by decide) (nel_c c1 (nel_c c2 (nel_c c3 (nel_c c4 (nel_c c5 (nel_c c6 (nel_c c7 nel_0))))))) rfl ?_
                refine lv_iconst (v := (-1 : Int32)) hx hb dX9_state_94 rfl ?_
                cases hf
                exact r_iret C h hr hlk rfl dX9_state_95
set_option maxRecDepth 100000 in
set_option maxHeartbeats 4000000 in
theorem c_X9_feed {l : Launch} {G : Gt} {h_this h_this_s h_this_kept h_this_laid h_this_pile h_this_tape h_this_letters h_this_code0 h_this_read h_this_saved h_this_plan h_this_bestPlan h_this_offThen h_this_paidThen h_this_rows h_this_sorts h_this_sizes h_this_number h_this_holds h_this_heldOne h_this_trace : Nat} {p0 : Int64} {p1 : Int32} {x_this_isKept : Int32} {x_this_taped : Int32} {x_this_at : Int32} {x_this_begun : Int32} {x_this_token : Int32} {x_this_value : Int32} {x_this_opened : Int32} {x_this_steps : Int32} {x_this_most : Int32} {x_this_many : Int32} {x_this_few : Int32} {x_this_everHome : Int32} {x_this_firstFit : Int32} {x_this_rowMany : Int32} {x_this_traced : Int32} {x_this_own : Int32} {x_this_isParted : Int32} {f_this_tape : Nat → Int32} {r : Int32} {m_this_taped : Int32} {m_this_tape : Nat → Int32} (hf : f_X9_feed p0 p1 x_this_taped f_this_tape = some (r, m_this_taped, m_this_tape)) : mFi l G yX9_feed cX9_feed 5 .int 1 [.ref h_this, .long p0, .int p1] [(h_this, ob 9 [.ref h_this_s, .ref h_this_kept, .ref h_this_laid, .int x_this_isKept, .ref h_this_pile, .ref h_this_tape, .int x_this_taped, .ref h_this_letters, .int x_this_at, .int x_this_begun, .int x_this_token, .int x_this_value, .int x_this_opened, .int x_this_steps, .ref h_this_code0, .ref h_this_read, .ref h_this_saved, .ref h_this_plan, .ref h_this_bestPlan, .int x_this_most, .int x_this_many, .int x_this_few, .int x_this_everHome, .ref h_this_offThen, .ref h_this_paidThen, .int x_this_firstFit, .ref h_this_rows, .int x_this_rowMany, .ref h_this_sorts, .ref h_this_sizes, .ref h_this_number, .ref h_this_holds, .ref h_this_heldOne, .ref h_this_trace, .int x_this_traced, .int x_this_own, .int x_this_isParted]), (h_this_tape, ia G 200 f_this_tape)] r [(h_this, ob 9 [.ref h_this_s, .ref h_this_kept, .ref h_this_laid, .int x_this_isKept, .ref h_this_pile, .ref h_this_tape, .int m_this_taped, .ref h_this_letters, .int x_this_at, .int x_this_begun, .int x_this_token, .int x_this_value, .int x_this_opened, .int x_this_steps, .ref h_this_code0, .ref h_this_read, .ref h_this_saved, .ref h_this_plan, .ref h_this_bestPlan, .int x_this_most, .int x_this_many, .int x_this_few, .int x_this_everHome, .ref h_this_offThen, .ref h_this_paidThen, .int x_this_firstFit, .ref h_this_rows, .int x_this_rowMany, .ref h_this_sorts, .ref h_this_sizes, .ref h_this_number, .ref h_this_holds, .ref h_this_heldOne, .ref h_this_trace, .int x_this_traced, .int x_this_own, .int x_this_isParted]), (h_this_tape, ia G 200 m_this_tape)] := by
  refine mFi.of (by decide +kernel) (Nat.le_of_ble_eq_true rfl) ?_
  intro p e s m below meth c A C hr hlk h ls hl
  obtain ⟨hx, hb, hml, hown, hts⟩ := id C
  replace hl : lv_has ls 5 [(0, .ref h_this), (1, .long p0), (3, .int p1)] := hl
  unfold f_X9_feed at hf
  refine with_K G A 5 (fun K hK1 hK2 => ?_)
  have L30 : ∀ (n : Nat) (v4 : Int32) (y_this_taped : Int32) (g_this_tape : Nat → Int32), f_X9_feed_L30 p0 p1 n v4 y_this_taped g_this_tape = some (r, m_this_taped, m_this_tape) → K 30 ([] : List Value) [(h_this, ob 9 [.ref h_this_s, .ref h_this_kept, .ref h_this_laid, .int x_this_isKept, .ref h_this_pile, .ref h_this_tape, .int y_this_taped, .ref h_this_letters, .int x_this_at, .int x_this_begun, .int x_this_token, .int x_this_value, .int x_this_opened, .int x_this_steps, .ref h_this_code0, .ref h_this_read, .ref h_this_saved, .ref h_this_plan, .ref h_this_bestPlan, .int x_this_most, .int x_this_many, .int x_this_few, .int x_this_everHome, .ref h_this_offThen, .ref h_this_paidThen, .int x_this_firstFit, .ref h_this_rows, .int x_this_rowMany, .ref h_this_sorts, .ref h_this_sizes, .ref h_this_number, .ref h_this_holds, .ref h_this_heldOne, .ref h_this_trace, .int x_this_traced, .int x_this_own, .int x_this_isParted]), (h_this_tape, ia G 200 g_this_tape)] [(0, .ref h_this), (1, .long p0), (3, .int p1), (4, .int v4)] := by
    intro n
    induction n with
    | zero =>
      intro v4 y_this_taped g_this_tape hf
      replace hf : (none : Option _) = some _ := hf
      cases hf
    | succ n ih =>
      intro v4 y_this_taped g_this_tape hf
      rw [f_X9_feed_L30] at hf
      refine hK1 _ _ _ _ (fun H locs ls h hl => ?_)
      refine lv_iload hx hb dX9_feed_30 (lv_at hl 3 rfl) ?_
      refine lv_iload_n hx hb dX9_feed_32 rfl (lv_at hl 2 rfl) ?_
      refine lv_icmp_ge (tgt := 73) hx hb dX9_feed_33 rfl (fun c5 => ?_) (fun c5 => ?_)
      · replace hf := ifp c5 hf
        refine lv_aload_n hx hb dX9_feed_73 rfl (lv_at hl 0 rfl) ?_
        refine r_get C h fk_X9_127 0 rfl rfl dX9_feed_74 ?_
        cases hf
        exact r_iret C h hr hlk rfl dX9_feed_77
      · replace hf := ifn c5 hf
        refine lv_aload_n hx hb dX9_feed_36 rfl (lv_at hl 0 rfl) ?_
        refine r_get C h fk_X9_22 0 rfl rfl dX9_feed_37 ?_
        refine lv_aload_n hx hb dX9_feed_40 rfl (lv_at hl 0 rfl) ?_
        refine r_get C h fk_X9_127 0 rfl rfl dX9_feed_41 ?_
        refine lv_lload_n hx hb dX9_feed_44 rfl (lv_at hl 1 rfl) ?_
        refine lv_bipush (v := (8 : Int32)) hx hb dX9_feed_45 rfl ?_
        refine lv_iload hx hb dX9_feed_47 (lv_at hl 3 rfl) ?_
        refine lv_imul hx hb dX9_feed_49 ?_
        refine lv_lshr hx hb dX9_feed_50 rfl ?_
        refine lv_ldc2 hx hb hown (hts _ cw_X9_190) dX9_feed_51 ?_
        refine lv_land hx hb dX9_feed_54 ?_
        refine lv_l2i hx hb dX9_feed_55 rfl ?_
        refine lv_topi (fun t6 et6 => ?_)
        replace hf := lt1_inv et6 hf
        replace hf := chkI_inv hf
        obtain ⟨hi7, hf⟩ := hf
        refine r_iast (ws' := [(h_this, ob 9 [.ref h_this_s, .ref h_this_kept, .ref h_this_laid, .int x_this_isKept, .ref h_this_pile, .ref h_this_tape, .int y_this_taped, .ref h_this_letters, .int x_this_at, .int x_this_begun, .int x_this_token, .int x_this_value, .int x_this_opened, .int x_this_steps, .ref h_this_code0, .ref h_this_read, .ref h_this_saved, .ref h_this_plan, .ref h_this_bestPlan, .int x_this_most, .int x_this_many, .int x_this_few, .int x_this_everHome, .ref h_this_offThen, .ref h_this_paidThen, .int x_this_firstFit, .ref h_this_rows, .int x_this_rowMany, .ref h_this_sorts, .ref h_this_sizes, .ref h_this_number, .ref h_this_holds, .ref h_this_heldOne, .ref h_this_trace, .int x_this_traced, .int x_this_own, .int x_this_isParted]), (h_this_tape, ia G 200 (upd g_this_tape y_this_taped.toNatClampNeg t6))]) C h 1 rfl hi7 dX9_feed_56 rfl (fun H locs h => ?_)
        refine lv_aload_n hx hb dX9_feed_57 rfl (lv_at hl 0 rfl) ?_
        refine lv_dup hx hb dX9_feed_58 rfl ?_
        refine r_get C h fk_X9_127 0 rfl rfl dX9_feed_59 ?_
        refine lv_iconst (v := (1 : Int32)) hx hb dX9_feed_62 rfl ?_
        refine lv_iadd hx hb dX9_feed_63 ?_
        refine lv_topi (fun t8 et8 => ?_)
        replace hf := lt1_inv et8 hf
        refine r_put (ws' := [(h_this, ob 9 [.ref h_this_s, .ref h_this_kept, .ref h_this_laid, .int x_this_isKept, .ref h_this_pile, .ref h_this_tape, .int t8, .ref h_this_letters, .int x_this_at, .int x_this_begun, .int x_this_token, .int x_this_value, .int x_this_opened, .int x_this_steps, .ref h_this_code0, .ref h_this_read, .ref h_this_saved, .ref h_this_plan, .ref h_this_bestPlan, .int x_this_most, .int x_this_many, .int x_this_few, .int x_this_everHome, .ref h_this_offThen, .ref h_this_paidThen, .int x_this_firstFit, .ref h_this_rows, .int x_this_rowMany, .ref h_this_sorts, .ref h_this_sizes, .ref h_this_number, .ref h_this_holds, .ref h_this_heldOne, .ref h_this_trace, .int x_this_traced, .int x_this_own, .int x_this_isParted]), (h_this_tape, ia G 200 (upd g_this_tape y_this_taped.toNatClampNeg t6))]) C h fw_X9_127 0 rfl rfl rfl (Nat.le_of_ble_eq_true rfl) dX9_feed_64 rfl (fun H locs h => ?_)
        obtain ⟨t9, et9⟩ : ∃ y : Int32, y = v4 + (1 : Int32) := ⟨_, rfl⟩
        replace hf := lt1_inv et9 hf
        refine lv_iinc (v := t9) (lv' := [(4, .int t9), (0, .ref h_this), (1, .long p0), (3, .int p1)]) hx hb dX9_feed_67 hl (k := 3) rfl (by rw [et9]; rfl) (by decide) rfl (fun ls hl => ?_)
        refine lv_goto (tgt := 30) hx hb dX9_feed_70 rfl ?_
        exact hK2 _ _ _ _ (ih t9 t8 (upd g_this_tape y_this_taped.toNatClampNeg t6) hf) _ _ _ h (lv_sub hl [1, 2, 3, 0] rfl)
  refine lv_iload_n hx hb dX9_feed_0 rfl (lv_at hl 2 rfl) ?_
  refine lv_iconst (v := (1 : Int32)) hx hb dX9_feed_1 rfl ?_
  refine lv_bipush (v := (8 : Int32)) hx hb dX9_feed_2 rfl ?_
  replace hf := bd1_inv hf
  obtain ⟨r1, hc2, hf⟩ := hf
  refine r_ciS0 C h (c_X9_in1 hc2) ms_X9_71 rfl [] rfl rfl hl.1 rfl (Nat.le_of_ble_eq_true rfl) (rok (by decide)) dX9_feed_4 (fun H locs h => ?_)
  refine lv_if_ne (tgt := 12) hx hb dX9_feed_7 rfl (fun c3 => ?_) (fun c3 => ?_)
  · replace hf := ifn c3 hf
    refine lv_aload_n hx hb dX9_feed_12 rfl (lv_at hl 0 rfl) ?_
    refine r_get C h fk_X9_127 0 rfl rfl dX9_feed_13 ?_
    refine lv_iload_n hx hb dX9_feed_16 rfl (lv_at hl 2 rfl) ?_
    refine lv_iadd hx hb dX9_feed_17 ?_
    refine lv_sipush (v := (200 : Int32)) hx hb dX9_feed_18 rfl ?_
    refine lv_icmp_le (tgt := 27) hx hb dX9_feed_21 rfl (fun c4 => ?_) (fun c4 => ?_)
    · replace hf := ifp c4 hf
      refine lv_iconst (v := (0 : Int32)) hx hb dX9_feed_27 rfl ?_
      refine lv_istore (lv' := [(4, .int (0 : Int32)), (0, .ref h_this), (1, .long p0), (3, .int p1)]) hx hb dX9_feed_28 hl (by decide) rfl (fun ls hl => ?_)
      exact hK2 _ _ _ _ (L30 1000 (0 : Int32) x_this_taped f_this_tape hf) _ _ _ h (lv_sub hl [1, 2, 3, 0] rfl)
    · replace hf := ifn c4 hf
      refine lv_bipush (v := (-2 : Int32)) hx hb dX9_feed_24 rfl ?_
      cases hf
      exact r_iret C h hr hlk rfl dX9_feed_26
  · replace hf := ifp c3 hf
    refine lv_iconst (v := (-1 : Int32)) hx hb dX9_feed_10 rfl ?_
    cases hf
    exact r_iret C h hr hlk rfl dX9_feed_11
set_option maxRecDepth 100000 in
set_option maxHeartbeats 4000000 in
theorem c_X9_byteAt {l : Launch} {G : Gt} {h_this h_this_s h_this_kept h_this_laid h_this_pile h_this_tape h_this_letters h_this_code0 h_this_read h_this_saved h_this_plan h_this_bestPlan h_this_offThen h_this_paidThen h_this_rows h_this_sorts h_this_sizes h_this_number h_this_holds h_this_heldOne h_this_trace : Nat} {p0 : Int32} {x_this_isKept : Int32} {x_this_taped : Int32} {x_this_at : Int32} {x_this_begun : Int32} {x_this_token : Int32} {x_this_value : Int32} {x_this_opened : Int32} {x_this_steps : Int32} {x_this_most : Int32} {x_this_many : Int32} {x_this_few : Int32} {x_this_everHome : Int32} {x_this_firstFit : Int32} {x_this_rowMany : Int32} {x_this_traced : Int32} {x_this_own : Int32} {x_this_isParted : Int32} {f_this_tape : Nat → Int32} {r : Int32} (hf : f_X9_byteAt p0 x_this_taped f_this_tape = some r) : mFi l G yX9_byteAt cX9_byteAt 2 .int 0 [.ref h_this, .int p0] [(h_this, ob 9 [.ref h_this_s, .ref h_this_kept, .ref h_this_laid, .int x_this_isKept, .ref h_this_pile, .ref h_this_tape, .int x_this_taped, .ref h_this_letters, .int x_this_at, .int x_this_begun, .int x_this_token, .int x_this_value, .int x_this_opened, .int x_this_steps, .ref h_this_code0, .ref h_this_read, .ref h_this_saved, .ref h_this_plan, .ref h_this_bestPlan, .int x_this_most, .int x_this_many, .int x_this_few, .int x_this_everHome, .ref h_this_offThen, .ref h_this_paidThen, .int x_this_firstFit, .ref h_this_rows, .int x_this_rowMany, .ref h_this_sorts, .ref h_this_sizes, .ref h_this_number, .ref h_this_holds, .ref h_this_heldOne, .ref h_this_trace, .int x_this_traced, .int x_this_own, .int x_this_isParted]), (h_this_tape, ia G 200 f_this_tape)] r [(h_this, ob 9 [.ref h_this_s, .ref h_this_kept, .ref h_this_laid, .int x_this_isKept, .ref h_this_pile, .ref h_this_tape, .int x_this_taped, .ref h_this_letters, .int x_this_at, .int x_this_begun, .int x_this_token, .int x_this_value, .int x_this_opened, .int x_this_steps, .ref h_this_code0, .ref h_this_read, .ref h_this_saved, .ref h_this_plan, .ref h_this_bestPlan, .int x_this_most, .int x_this_many, .int x_this_few, .int x_this_everHome, .ref h_this_offThen, .ref h_this_paidThen, .int x_this_firstFit, .ref h_this_rows, .int x_this_rowMany, .ref h_this_sorts, .ref h_this_sizes, .ref h_this_number, .ref h_this_holds, .ref h_this_heldOne, .ref h_this_trace, .int x_this_traced, .int x_this_own, .int x_this_isParted]), (h_this_tape, ia G 200 f_this_tape)] := by
  refine mFi.of (by decide +kernel) (Nat.le_of_ble_eq_true rfl) ?_
  intro p e s m below meth c A C hr hlk h ls hl
  obtain ⟨hx, hb, hml, hown, hts⟩ := id C
  replace hl : lv_has ls 2 [(0, .ref h_this), (1, .int p0)] := hl
  unfold f_X9_byteAt at hf
  refine lv_iload_n hx hb dX9_byteAt_0 rfl (lv_at hl 1 rfl) ?_
  refine lv_aload_n hx hb dX9_byteAt_1 rfl (lv_at hl 0 rfl) ?_
  refine r_get C h fk_X9_127 0 rfl rfl dX9_byteAt_2 ?_
  refine lv_icmp_ge (tgt := 17) hx hb dX9_byteAt_5 rfl (fun c1 => ?_) (fun c1 => ?_)
  · replace hf := ifp c1 hf
    refine lv_iconst (v := (-1 : Int32)) hx hb dX9_byteAt_17 rfl ?_
    cases hf
    exact r_iret C h hr hlk rfl dX9_byteAt_18
  · replace hf := ifn c1 hf
    refine lv_aload_n hx hb dX9_byteAt_8 rfl (lv_at hl 0 rfl) ?_
    refine r_get C h fk_X9_22 0 rfl rfl dX9_byteAt_9 ?_
    refine lv_iload_n hx hb dX9_byteAt_12 rfl (lv_at hl 1 rfl) ?_
    replace hf := chkI_inv hf
    obtain ⟨hi2, hf⟩ := hf
    refine r_iald C h 1 rfl hi2 dX9_byteAt_13 ?_
    refine lv_goto (tgt := 18) hx hb dX9_byteAt_14 rfl ?_
    cases hf
    exact r_iret C h hr hlk rfl dX9_byteAt_18
set_option maxRecDepth 100000 in
set_option maxHeartbeats 4000000 in
theorem c_X9_isNameOf {l : Launch} {G : Gt} {h_this h_this_s h_this_kept h_this_laid h_this_pile h_this_tape h_this_letters h_this_code0 h_this_read h_this_saved h_this_plan h_this_bestPlan h_this_offThen h_this_paidThen h_this_rows h_this_sorts h_this_sizes h_this_number h_this_holds h_this_heldOne h_this_trace : Nat} {p0 : Int32} {x_this_isKept : Int32} {x_this_taped : Int32} {x_this_at : Int32} {x_this_begun : Int32} {x_this_token : Int32} {x_this_value : Int32} {x_this_opened : Int32} {x_this_steps : Int32} {x_this_most : Int32} {x_this_many : Int32} {x_this_few : Int32} {x_this_everHome : Int32} {x_this_firstFit : Int32} {x_this_rowMany : Int32} {x_this_traced : Int32} {x_this_own : Int32} {x_this_isParted : Int32} {f_this_letters : Nat → Int32} {f_this_tape : Nat → Int32} {r : Int32} (hf : f_X9_isNameOf p0 x_this_taped x_this_at x_this_begun f_this_letters f_this_tape = some r) : mFi l G yX9_isNameOf cX9_isNameOf 4 .boolean 1 [.ref h_this, .int p0] [(h_this, ob 9 [.ref h_this_s, .ref h_this_kept, .ref h_this_laid, .int x_this_isKept, .ref h_this_pile, .ref h_this_tape, .int x_this_taped, .ref h_this_letters, .int x_this_at, .int x_this_begun, .int x_this_token, .int x_this_value, .int x_this_opened, .int x_this_steps, .ref h_this_code0, .ref h_this_read, .ref h_this_saved, .ref h_this_plan, .ref h_this_bestPlan, .int x_this_most, .int x_this_many, .int x_this_few, .int x_this_everHome, .ref h_this_offThen, .ref h_this_paidThen, .int x_this_firstFit, .ref h_this_rows, .int x_this_rowMany, .ref h_this_sorts, .ref h_this_sizes, .ref h_this_number, .ref h_this_holds, .ref h_this_heldOne, .ref h_this_trace, .int x_this_traced, .int x_this_own, .int x_this_isParted]), (h_this_letters, ca G 144 f_this_letters), (h_this_tape, ia G 200 f_this_tape)] r [(h_this, ob 9 [.ref h_this_s, .ref h_this_kept, .ref h_this_laid, .int x_this_isKept, .ref h_this_pile, .ref h_this_tape, .int x_this_taped, .ref h_this_letters, .int x_this_at, .int x_this_begun, .int x_this_token, .int x_this_value, .int x_this_opened, .int x_this_steps, .ref h_this_code0, .ref h_this_read, .ref h_this_saved, .ref h_this_plan, .ref h_this_bestPlan, .int x_this_most, .int x_this_many, .int x_this_few, .int x_this_everHome, .ref h_this_offThen, .ref h_this_paidThen, .int x_this_firstFit, .ref h_this_rows, .int x_this_rowMany, .ref h_this_sorts, .ref h_this_sizes, .ref h_this_number, .ref h_this_holds, .ref h_this_heldOne, .ref h_this_trace, .int x_this_traced, .int x_this_own, .int x_this_isParted]), (h_this_letters, ca G 144 f_this_letters), (h_this_tape, ia G 200 f_this_tape)] := by
  refine mFi.of (by decide +kernel) (Nat.le_of_ble_eq_true rfl) ?_
  intro p e s m below meth c A C hr hlk h ls hl
  obtain ⟨hx, hb, hml, hown, hts⟩ := id C
  replace hl : lv_has ls 4 [(0, .ref h_this), (1, .int p0)] := hl
  unfold f_X9_isNameOf at hf
  refine with_K G A 4 (fun K hK1 hK2 => ?_)
  have B71 : ∀ (rec22 : Int32 → Int32 → Option (Int32)) (hrec22 : ∀ (v2 : Int32) (v3 : Int32), rec22 v2 v3 = some r → K 22 ([] : List Value) [(h_this, ob 9 [.ref h_this_s, .ref h_this_kept, .ref h_this_laid, .int x_this_isKept, .ref h_this_pile, .ref h_this_tape, .int x_this_taped, .ref h_this_letters, .int x_this_at, .int x_this_begun, .int x_this_token, .int x_this_value, .int x_this_opened, .int x_this_steps, .ref h_this_code0, .ref h_this_read, .ref h_this_saved, .ref h_this_plan, .ref h_this_bestPlan, .int x_this_most, .int x_this_many, .int x_this_few, .int x_this_everHome, .ref h_this_offThen, .ref h_this_paidThen, .int x_this_firstFit, .ref h_this_rows, .int x_this_rowMany, .ref h_this_sorts, .ref h_this_sizes, .ref h_this_number, .ref h_this_holds, .ref h_this_heldOne, .ref h_this_trace, .int x_this_traced, .int x_this_own, .int x_this_isParted]), (h_this_letters, ca G 144 f_this_letters), (h_this_tape, ia G 200 f_this_tape)] [(0, .ref h_this), (1, .int p0), (2, .int v2), (3, .int v3)]) (v3 : Int32) (s0 : Int32) (s1 : Int32), f_X9_isNameOf_b71 rec22 v3 s0 s1 = some r → K 71 [.int s1, .int s0] [(h_this, ob 9 [.ref h_this_s, .ref h_this_kept, .ref h_this_laid, .int x_this_isKept, .ref h_this_pile, .ref h_this_tape, .int x_this_taped, .ref h_this_letters, .int x_this_at, .int x_this_begun, .int x_this_token, .int x_this_value, .int x_this_opened, .int x_this_steps, .ref h_this_code0, .ref h_this_read, .ref h_this_saved, .ref h_this_plan, .ref h_this_bestPlan, .int x_this_most, .int x_this_many, .int x_this_few, .int x_this_everHome, .ref h_this_offThen, .ref h_this_paidThen, .int x_this_firstFit, .ref h_this_rows, .int x_this_rowMany, .ref h_this_sorts, .ref h_this_sizes, .ref h_this_number, .ref h_this_holds, .ref h_this_heldOne, .ref h_this_trace, .int x_this_traced, .int x_this_own, .int x_this_isParted]), (h_this_letters, ca G 144 f_this_letters), (h_this_tape, ia G 200 f_this_tape)] [(0, .ref h_this), (1, .int p0), (3, .int v3)] := by
    intro rec22 hrec22 v3 s0 s1 hf
    unfold f_X9_isNameOf_b71 at hf
    refine hK1 _ _ _ _ (fun H locs ls h hl => ?_)
    refine lv_icmp_ne (tgt := 78) hx hb dX9_isNameOf_71 rfl (fun c8 => ?_) (fun c8 => ?_)
    · replace hf := ifn c8 hf
      refine lv_iconst (v := (0 : Int32)) hx hb dX9_isNameOf_78 rfl ?_
      refine lv_istore_n (lv' := [(2, .int (0 : Int32)), (0, .ref h_this), (1, .int p0), (3, .int v3)]) hx hb dX9_isNameOf_79 rfl hl (by decide) rfl (fun ls hl => ?_)
      obtain ⟨t9, et9⟩ : ∃ y : Int32, y = v3 + (1 : Int32) := ⟨_, rfl⟩
      replace hf := lt1_inv et9 hf
      refine lv_iinc (v := t9) (lv' := [(3, .int t9), (2, .int (0 : Int32)), (0, .ref h_this), (1, .int p0)]) hx hb dX9_isNameOf_80 hl (k := 3) rfl (by rw [et9]; rfl) (by decide) rfl (fun ls hl => ?_)
      refine lv_goto (tgt := 22) hx hb dX9_isNameOf_83 rfl ?_
      exact hK2 _ _ _ _ (hrec22 (0 : Int32) t9 hf) _ _ _ h (lv_sub hl [2, 3, 1, 0] rfl)
    · replace hf := ifp c8 hf
      refine lv_iconst (v := (1 : Int32)) hx hb dX9_isNameOf_74 rfl ?_
      refine lv_goto (tgt := 79) hx hb dX9_isNameOf_75 rfl ?_
      refine lv_istore_n (lv' := [(2, .int (1 : Int32)), (0, .ref h_this), (1, .int p0), (3, .int v3)]) hx hb dX9_isNameOf_79 rfl hl (by decide) rfl (fun ls hl => ?_)
      obtain ⟨t10, et10⟩ : ∃ y : Int32, y = v3 + (1 : Int32) := ⟨_, rfl⟩
      replace hf := lt1_inv et10 hf
      refine lv_iinc (v := t10) (lv' := [(3, .int t10), (2, .int (1 : Int32)), (0, .ref h_this), (1, .int p0)]) hx hb dX9_isNameOf_80 hl (k := 3) rfl (by rw [et10]; rfl) (by decide) rfl (fun ls hl => ?_)
      refine lv_goto (tgt := 22) hx hb dX9_isNameOf_83 rfl ?_
      exact hK2 _ _ _ _ (hrec22 (1 : Int32) t10 hf) _ _ _ h (lv_sub hl [2, 3, 1, 0] rfl)
  have L22 : ∀ (n : Nat) (v2 : Int32) (v3 : Int32), f_X9_isNameOf_L22 p0 x_this_taped x_this_at x_this_begun f_this_letters f_this_tape n v2 v3 = some r → K 22 ([] : List Value) [(h_this, ob 9 [.ref h_this_s, .ref h_this_kept, .ref h_this_laid, .int x_this_isKept, .ref h_this_pile, .ref h_this_tape, .int x_this_taped, .ref h_this_letters, .int x_this_at, .int x_this_begun, .int x_this_token, .int x_this_value, .int x_this_opened, .int x_this_steps, .ref h_this_code0, .ref h_this_read, .ref h_this_saved, .ref h_this_plan, .ref h_this_bestPlan, .int x_this_most, .int x_this_many, .int x_this_few, .int x_this_everHome, .ref h_this_offThen, .ref h_this_paidThen, .int x_this_firstFit, .ref h_this_rows, .int x_this_rowMany, .ref h_this_sorts, .ref h_this_sizes, .ref h_this_number, .ref h_this_holds, .ref h_this_heldOne, .ref h_this_trace, .int x_this_traced, .int x_this_own, .int x_this_isParted]), (h_this_letters, ca G 144 f_this_letters), (h_this_tape, ia G 200 f_this_tape)] [(0, .ref h_this), (1, .int p0), (2, .int v2), (3, .int v3)] := by
    intro n
    induction n with
    | zero =>
      intro v2 v3 hf
      replace hf : (none : Option _) = some _ := hf
      cases hf
    | succ n ih =>
      intro v2 v3 hf
      rw [f_X9_isNameOf_L22] at hf
      refine hK1 _ _ _ _ (fun H locs ls h hl => ?_)
      refine lv_iload_n hx hb dX9_isNameOf_22 rfl (lv_at hl 3 rfl) ?_
      refine lv_bipush (v := (8 : Int32)) hx hb dX9_isNameOf_23 rfl ?_
      refine lv_icmp_ge (tgt := 86) hx hb dX9_isNameOf_25 rfl (fun c2 => ?_) (fun c2 => ?_)
      · replace hf := ifp c2 hf
        refine lv_iload_n hx hb dX9_isNameOf_86 rfl (lv_at hl 2 rfl) ?_
        replace hf := chkB_inv hf
        obtain ⟨hb3, hf⟩ := hf
        cases hf
        exact r_iret C h hr hlk hb3 dX9_isNameOf_87
      · replace hf := ifn c2 hf
        refine lv_iload_n hx hb dX9_isNameOf_28 rfl (lv_at hl 2 rfl) ?_
        refine lv_if_eq (tgt := 86) hx hb dX9_isNameOf_29 rfl (fun c4 => ?_) (fun c4 => ?_)
        · replace hf := ifp c4 hf
          refine lv_iload_n hx hb dX9_isNameOf_86 rfl (lv_at hl 2 rfl) ?_
          replace hf := chkB_inv hf
          obtain ⟨hb5, hf⟩ := hf
          cases hf
          exact r_iret C h hr hlk hb5 dX9_isNameOf_87
        · replace hf := ifn c4 hf
          refine lv_aload_n hx hb dX9_isNameOf_32 rfl (lv_at hl 0 rfl) ?_
          refine r_get C h fk_X9_25 0 rfl rfl dX9_isNameOf_33 ?_
          refine lv_bipush (v := (8 : Int32)) hx hb dX9_isNameOf_36 rfl ?_
          refine lv_iload_n hx hb dX9_isNameOf_38 rfl (lv_at hl 1 rfl) ?_
          refine lv_imul hx hb dX9_isNameOf_39 ?_
          refine lv_iload_n hx hb dX9_isNameOf_40 rfl (lv_at hl 3 rfl) ?_
          refine lv_iadd hx hb dX9_isNameOf_41 ?_
          replace hf := chkI_inv hf
          obtain ⟨hi6, hf⟩ := hf
          refine r_cald C h 1 rfl hi6 dX9_isNameOf_42 ?_
          refine lv_aload_n hx hb dX9_isNameOf_43 rfl (lv_at hl 0 rfl) ?_
          refine r_get C h fk_X9_134 0 rfl rfl dX9_isNameOf_44 ?_
          refine lv_iload_n hx hb dX9_isNameOf_47 rfl (lv_at hl 3 rfl) ?_
          refine lv_iadd hx hb dX9_isNameOf_48 ?_
          refine lv_aload_n hx hb dX9_isNameOf_49 rfl (lv_at hl 0 rfl) ?_
          refine r_get C h fk_X9_131 0 rfl rfl dX9_isNameOf_50 ?_
          refine lv_icmp_ge (tgt := 69) hx hb dX9_isNameOf_53 rfl (fun c7 => ?_) (fun c7 => ?_)
          · replace hf := ifp c7 hf
            refine lv_bipush (v := (32 : Int32)) hx hb dX9_isNameOf_69 rfl ?_
            exact hK2 _ _ _ _ (B71 _ ih v3 (f_this_letters (((8 : Int32) * p0) + v3).toNatClampNeg) (32 : Int32) hf) _ _ _ h (lv_sub hl [0, 1, 3] rfl)
          · replace hf := ifn c7 hf
            refine lv_aload_n hx hb dX9_isNameOf_56 rfl (lv_at hl 0 rfl) ?_
            refine lv_aload_n hx hb dX9_isNameOf_57 rfl (lv_at hl 0 rfl) ?_
            refine r_get C h fk_X9_134 0 rfl rfl dX9_isNameOf_58 ?_
            refine lv_iload_n hx hb dX9_isNameOf_61 rfl (lv_at hl 3 rfl) ?_
            refine lv_iadd hx hb dX9_isNameOf_62 ?_
            replace hf := bd1_inv hf
            obtain ⟨r11, hc12, hf⟩ := hf
            refine r_ciV0 C h (c_X9_byteAt hc12) mv_X9_137 rfl 0 rfl [0, 2] rfl rfl hl.1 rfl (Nat.le_of_ble_eq_true rfl) (rok (by decide)) dX9_isNameOf_63 (fun H locs h => ?_)
            refine lv_goto (tgt := 71) hx hb dX9_isNameOf_66 rfl ?_
            exact hK2 _ _ _ _ (B71 _ ih v3 (f_this_letters (((8 : Int32) * p0) + v3).toNatClampNeg) r11 hf) _ _ _ h (lv_sub hl [0, 1, 3] rfl)
  have B19 : ∀ (s0 : Int32), f_X9_isNameOf_b19 p0 x_this_taped x_this_at x_this_begun f_this_letters f_this_tape s0 = some r → K 19 [.int s0] [(h_this, ob 9 [.ref h_this_s, .ref h_this_kept, .ref h_this_laid, .int x_this_isKept, .ref h_this_pile, .ref h_this_tape, .int x_this_taped, .ref h_this_letters, .int x_this_at, .int x_this_begun, .int x_this_token, .int x_this_value, .int x_this_opened, .int x_this_steps, .ref h_this_code0, .ref h_this_read, .ref h_this_saved, .ref h_this_plan, .ref h_this_bestPlan, .int x_this_most, .int x_this_many, .int x_this_few, .int x_this_everHome, .ref h_this_offThen, .ref h_this_paidThen, .int x_this_firstFit, .ref h_this_rows, .int x_this_rowMany, .ref h_this_sorts, .ref h_this_sizes, .ref h_this_number, .ref h_this_holds, .ref h_this_heldOne, .ref h_this_trace, .int x_this_traced, .int x_this_own, .int x_this_isParted]), (h_this_letters, ca G 144 f_this_letters), (h_this_tape, ia G 200 f_this_tape)] [(0, .ref h_this), (1, .int p0)] := by
    intro s0 hf
    unfold f_X9_isNameOf_b19 at hf
    refine hK1 _ _ _ _ (fun H locs ls h hl => ?_)
    refine lv_istore_n (lv' := [(2, .int s0), (0, .ref h_this), (1, .int p0)]) hx hb dX9_isNameOf_19 rfl hl (by decide) rfl (fun ls hl => ?_)
    refine lv_iconst (v := (0 : Int32)) hx hb dX9_isNameOf_20 rfl ?_
    refine lv_istore_n (lv' := [(3, .int (0 : Int32)), (2, .int s0), (0, .ref h_this), (1, .int p0)]) hx hb dX9_isNameOf_21 rfl hl (by decide) rfl (fun ls hl => ?_)
    exact hK2 _ _ _ _ (L22 1000 s0 (0 : Int32) hf) _ _ _ h (lv_sub hl [2, 3, 1, 0] rfl)
  refine lv_aload_n hx hb dX9_isNameOf_0 rfl (lv_at hl 0 rfl) ?_
  refine r_get C h fk_X9_131 0 rfl rfl dX9_isNameOf_1 ?_
  refine lv_aload_n hx hb dX9_isNameOf_4 rfl (lv_at hl 0 rfl) ?_
  refine r_get C h fk_X9_134 0 rfl rfl dX9_isNameOf_5 ?_
  refine lv_isub hx hb dX9_isNameOf_8 ?_
  refine lv_bipush (v := (8 : Int32)) hx hb dX9_isNameOf_9 rfl ?_
  refine lv_icmp_gt (tgt := 18) hx hb dX9_isNameOf_11 rfl (fun c1 => ?_) (fun c1 => ?_)
  · replace hf := ifp c1 hf
    refine lv_iconst (v := (0 : Int32)) hx hb dX9_isNameOf_18 rfl ?_
    exact hK2 _ _ _ _ (B19 (0 : Int32) hf) _ _ _ h (lv_sub hl [0, 1] rfl)
  · replace hf := ifn c1 hf
    refine lv_iconst (v := (1 : Int32)) hx hb dX9_isNameOf_14 rfl ?_
    refine lv_goto (tgt := 19) hx hb dX9_isNameOf_15 rfl ?_
    exact hK2 _ _ _ _ (B19 (1 : Int32) hf) _ _ _ h (lv_sub hl [0, 1] rfl)
