set_option maxRecDepth 100000 in
set_option maxHeartbeats 4000000 in
theorem c_X9_willOf {l : Launch} {G : Gt} {h_this h_this_s h_this_kept h_this_laid h_this_pile h_this_tape h_this_letters h_this_code0 h_this_read h_this_saved h_this_plan h_this_bestPlan h_this_offThen h_this_paidThen h_this_rows h_this_sorts h_this_sizes h_this_number h_this_holds h_this_heldOne h_this_trace : Nat} {p0 : Int32} {x_this_isKept : Int32} {x_this_taped : Int32} {x_this_at : Int32} {x_this_begun : Int32} {x_this_token : Int32} {x_this_value : Int32} {x_this_opened : Int32} {x_this_steps : Int32} {x_this_most : Int32} {x_this_many : Int32} {x_this_few : Int32} {x_this_everHome : Int32} {x_this_firstFit : Int32} {x_this_rowMany : Int32} {x_this_traced : Int32} {x_this_own : Int32} {x_this_isParted : Int32} {f_this_pile : Nat → Int32} {f_this_s : Nat → Int32} {r : Int32} {m_this_pile : Nat → Int32} (hf : f_X9_willOf p0 f_this_pile f_this_s = some (r, m_this_pile)) : mFi l G yX9_willOf cX9_willOf 3 .int 3 [.ref h_this, .int p0] [(h_this, ob 9 [.ref h_this_s, .ref h_this_kept, .ref h_this_laid, .int x_this_isKept, .ref h_this_pile, .ref h_this_tape, .int x_this_taped, .ref h_this_letters, .int x_this_at, .int x_this_begun, .int x_this_token, .int x_this_value, .int x_this_opened, .int x_this_steps, .ref h_this_code0, .ref h_this_read, .ref h_this_saved, .ref h_this_plan, .ref h_this_bestPlan, .int x_this_most, .int x_this_many, .int x_this_few, .int x_this_everHome, .ref h_this_offThen, .ref h_this_paidThen, .int x_this_firstFit, .ref h_this_rows, .int x_this_rowMany, .ref h_this_sorts, .ref h_this_sizes, .ref h_this_number, .ref h_this_holds, .ref h_this_heldOne, .ref h_this_trace, .int x_this_traced, .int x_this_own, .int x_this_isParted]), (h_this_pile, ia G 200 f_this_pile), (h_this_s, ia G 313 f_this_s)] r [(h_this, ob 9 [.ref h_this_s, .ref h_this_kept, .ref h_this_laid, .int x_this_isKept, .ref h_this_pile, .ref h_this_tape, .int x_this_taped, .ref h_this_letters, .int x_this_at, .int x_this_begun, .int x_this_token, .int x_this_value, .int x_this_opened, .int x_this_steps, .ref h_this_code0, .ref h_this_read, .ref h_this_saved, .ref h_this_plan, .ref h_this_bestPlan, .int x_this_most, .int x_this_many, .int x_this_few, .int x_this_everHome, .ref h_this_offThen, .ref h_this_paidThen, .int x_this_firstFit, .ref h_this_rows, .int x_this_rowMany, .ref h_this_sorts, .ref h_this_sizes, .ref h_this_number, .ref h_this_holds, .ref h_this_heldOne, .ref h_this_trace, .int x_this_traced, .int x_this_own, .int x_this_isParted]), (h_this_pile, ia G 200 m_this_pile), (h_this_s, ia G 313 f_this_s)] := by
  refine mFi.of (by decide +kernel) (Nat.le_of_ble_eq_true rfl) ?_
  intro p e s m below meth c A C hr hlk h ls hl
  obtain ⟨hx, hb, hml, hown, hts⟩ := id C
  replace hl : lv_has ls 3 [(0, .ref h_this), (1, .int p0)] := hl
  unfold f_X9_willOf at hf
  refine with_K G A 3 (fun K hK1 hK2 => ?_)
  have L2 : ∀ (n : Nat) (v2 : Int32) (g_this_pile : Nat → Int32), f_X9_willOf_L2 p0 f_this_s n v2 g_this_pile = some (r, m_this_pile) → K 2 ([] : List Value) [(h_this, ob 9 [.ref h_this_s, .ref h_this_kept, .ref h_this_laid, .int x_this_isKept, .ref h_this_pile, .ref h_this_tape, .int x_this_taped, .ref h_this_letters, .int x_this_at, .int x_this_begun, .int x_this_token, .int x_this_value, .int x_this_opened, .int x_this_steps, .ref h_this_code0, .ref h_this_read, .ref h_this_saved, .ref h_this_plan, .ref h_this_bestPlan, .int x_this_most, .int x_this_many, .int x_this_few, .int x_this_everHome, .ref h_this_offThen, .ref h_this_paidThen, .int x_this_firstFit, .ref h_this_rows, .int x_this_rowMany, .ref h_this_sorts, .ref h_this_sizes, .ref h_this_number, .ref h_this_holds, .ref h_this_heldOne, .ref h_this_trace, .int x_this_traced, .int x_this_own, .int x_this_isParted]), (h_this_pile, ia G 200 g_this_pile), (h_this_s, ia G 313 f_this_s)] [(0, .ref h_this), (1, .int p0), (2, .int v2)] := by
    intro n
    induction n with
    | zero =>
      intro v2 g_this_pile hf
      replace hf : (none : Option _) = some _ := hf
      cases hf
    | succ n ih =>
      intro v2 g_this_pile hf
      rw [f_X9_willOf_L2] at hf
      refine hK1 _ _ _ _ (fun H locs ls h hl => ?_)
      refine lv_iload_n hx hb dX9_willOf_2 rfl (lv_at hl 2 rfl) ?_
      refine lv_aload_n hx hb dX9_willOf_3 rfl (lv_at hl 0 rfl) ?_
      refine r_get C h fk_X9_9 0 rfl rfl dX9_willOf_4 ?_
      refine lv_iconst (v := (5 : Int32)) hx hb dX9_willOf_7 rfl ?_
      refine r_ialdL C h 2 rfl (vlit rfl) 5 rfl dX9_willOf_8 ?_
      refine lv_icmp_ge (tgt := 52) hx hb dX9_willOf_9 rfl (fun c1 => ?_) (fun c1 => ?_)
      · replace hf := ifp c1 hf
        refine lv_iconst (v := (0 : Int32)) hx hb dX9_willOf_52 rfl ?_
        cases hf
        exact r_iret C h hr hlk rfl dX9_willOf_53
      · replace hf := ifn c1 hf
        refine lv_aload_n hx hb dX9_willOf_12 rfl (lv_at hl 0 rfl) ?_
        refine lv_iload_n hx hb dX9_willOf_13 rfl (lv_at hl 1 rfl) ?_
        refine lv_iconst (v := (0 : Int32)) hx hb dX9_willOf_14 rfl ?_
        replace hf := bd1_inv hf
        obtain ⟨r2, hc3, hf⟩ := hf
        refine r_ciV0 C h (c_X9_get hc3) mv_X9_79 rfl 0 rfl [0, 2] rfl rfl hl.1 rfl (Nat.le_of_ble_eq_true rfl) (rok (by decide)) dX9_willOf_15 (fun H locs h => ?_)
        refine lv_aload_n hx hb dX9_willOf_18 rfl (lv_at hl 0 rfl) ?_
        refine lv_iload_n hx hb dX9_willOf_19 rfl (lv_at hl 2 rfl) ?_
        refine lv_iconst (v := (0 : Int32)) hx hb dX9_willOf_20 rfl ?_
        replace hf := bd1_inv hf
        obtain ⟨r4, hc5, hf⟩ := hf
        refine r_ciV0 C h (c_X9_ruleOf hc5) mv_X9_112 rfl 0 rfl [0, 2] rfl rfl hl.1 rfl (Nat.le_of_ble_eq_true rfl) (rok (by decide)) dX9_willOf_21 (fun H locs h => ?_)
        replace hf := bd1_inv hf
        obtain ⟨r6, hc7, hf⟩ := hf
        refine r_ciS0 C h (c_X9_isUnder hc7) ms_X9_121 rfl [] rfl rfl hl.1 rfl (Nat.le_of_ble_eq_true rfl) (rok (by decide)) dX9_willOf_24 (fun H locs h => ?_)
        refine lv_if_eq (tgt := 46) hx hb dX9_willOf_27 rfl (fun c8 => ?_) (fun c8 => ?_)
        · replace hf := ifp c8 hf
          obtain ⟨t9, et9⟩ : ∃ y : Int32, y = v2 + (1 : Int32) := ⟨_, rfl⟩
          replace hf := lt1_inv et9 hf
          refine lv_iinc (v := t9) (lv' := [(2, .int t9), (0, .ref h_this), (1, .int p0)]) hx hb dX9_willOf_46 hl (k := 2) rfl (by rw [et9]; rfl) (by decide) rfl (fun ls hl => ?_)
          refine lv_goto (tgt := 2) hx hb dX9_willOf_49 rfl ?_
          exact hK2 _ _ _ _ (ih t9 g_this_pile hf) _ _ _ h (lv_sub hl [1, 2, 0] rfl)
        · replace hf := ifn c8 hf
          refine lv_aload_n hx hb dX9_willOf_30 rfl (lv_at hl 0 rfl) ?_
          refine lv_iload_n hx hb dX9_willOf_31 rfl (lv_at hl 2 rfl) ?_
          refine lv_iload_n hx hb dX9_willOf_32 rfl (lv_at hl 1 rfl) ?_
          replace hf := bd2_inv hf
          obtain ⟨r10, g11, hc12, hf⟩ := hf
          refine r_ciV (ws' := [(h_this, ob 9 [.ref h_this_s, .ref h_this_kept, .ref h_this_laid, .int x_this_isKept, .ref h_this_pile, .ref h_this_tape, .int x_this_taped, .ref h_this_letters, .int x_this_at, .int x_this_begun, .int x_this_token, .int x_this_value, .int x_this_opened, .int x_this_steps, .ref h_this_code0, .ref h_this_read, .ref h_this_saved, .ref h_this_plan, .ref h_this_bestPlan, .int x_this_most, .int x_this_many, .int x_this_few, .int x_this_everHome, .ref h_this_offThen, .ref h_this_paidThen, .int x_this_firstFit, .ref h_this_rows, .int x_this_rowMany, .ref h_this_sorts, .ref h_this_sizes, .ref h_this_number, .ref h_this_holds, .ref h_this_heldOne, .ref h_this_trace, .int x_this_traced, .int x_this_own, .int x_this_isParted]), (h_this_pile, ia G 200 g11), (h_this_s, ia G 313 f_this_s)]) C h (c_X9_holdsFor hc12) mv_X9_124 rfl 0 rfl [0, 1, 2] rfl rfl [1] [(h_this_pile, ia G 200 g11)] rfl rfl (by decide +kernel) rfl hl.1 rfl (Nat.le_of_ble_eq_true rfl) (rok (by decide)) dX9_willOf_33 (fun H locs h => ?_)
          refine lv_if_eq (tgt := 46) hx hb dX9_willOf_36 rfl (fun c13 => ?_) (fun c13 => ?_)
          · replace hf := ifp c13 hf
            obtain ⟨t14, et14⟩ : ∃ y : Int32, y = v2 + (1 : Int32) := ⟨_, rfl⟩
            replace hf := lt1_inv et14 hf
            refine lv_iinc (v := t14) (lv' := [(2, .int t14), (0, .ref h_this), (1, .int p0)]) hx hb dX9_willOf_46 hl (k := 2) rfl (by rw [et14]; rfl) (by decide) rfl (fun ls hl => ?_)
            refine lv_goto (tgt := 2) hx hb dX9_willOf_49 rfl ?_
            exact hK2 _ _ _ _ (ih t14 g11 hf) _ _ _ h (lv_sub hl [1, 2, 0] rfl)
          · replace hf := ifn c13 hf
            refine lv_aload_n hx hb dX9_willOf_39 rfl (lv_at hl 0 rfl) ?_
            refine lv_iload_n hx hb dX9_willOf_40 rfl (lv_at hl 2 rfl) ?_
            refine lv_iconst (v := (1 : Int32)) hx hb dX9_willOf_41 rfl ?_
            replace hf := bd1_inv hf
            obtain ⟨r15, hc16, hf⟩ := hf
            refine r_ciV0 C h (c_X9_ruleOf hc16) mv_X9_112 rfl 0 rfl [0, 2] rfl rfl hl.1 rfl (Nat.le_of_ble_eq_true rfl) (rok (by decide)) dX9_willOf_42 (fun H locs h => ?_)
            cases hf
            exact r_iret C h hr hlk rfl dX9_willOf_45
  refine lv_iconst (v := (0 : Int32)) hx hb dX9_willOf_0 rfl ?_
  refine lv_istore_n (lv' := [(2, .int (0 : Int32)), (0, .ref h_this), (1, .int p0)]) hx hb dX9_willOf_1 rfl hl (by decide) rfl (fun ls hl => ?_)
  exact hK2 _ _ _ _ (L2 1000 (0 : Int32) f_this_pile hf) _ _ _ h (lv_sub hl [1, 2, 0] rfl)
set_option maxRecDepth 100000 in
set_option maxHeartbeats 4000000 in
theorem c_X9_mayEnter {l : Launch} {G : Gt} {h_this h_this_s h_this_kept h_this_laid h_this_pile h_this_tape h_this_letters h_this_code0 h_this_read h_this_saved h_this_plan h_this_bestPlan h_this_offThen h_this_paidThen h_this_rows h_this_sorts h_this_sizes h_this_number h_this_holds h_this_heldOne h_this_trace : Nat} {p0 : Int32} {x_this_isKept : Int32} {x_this_taped : Int32} {x_this_at : Int32} {x_this_begun : Int32} {x_this_token : Int32} {x_this_value : Int32} {x_this_opened : Int32} {x_this_steps : Int32} {x_this_most : Int32} {x_this_many : Int32} {x_this_few : Int32} {x_this_everHome : Int32} {x_this_firstFit : Int32} {x_this_rowMany : Int32} {x_this_traced : Int32} {x_this_own : Int32} {x_this_isParted : Int32} {f_this_pile : Nat → Int32} {f_this_s : Nat → Int32} {r : Int32} {m_this_pile : Nat → Int32} (hf : f_X9_mayEnter p0 f_this_pile f_this_s = some (r, m_this_pile)) : mFi l G yX9_mayEnter cX9_mayEnter 2 .boolean 4 [.ref h_this, .int p0] [(h_this, ob 9 [.ref h_this_s, .ref h_this_kept, .ref h_this_laid, .int x_this_isKept, .ref h_this_pile, .ref h_this_tape, .int x_this_taped, .ref h_this_letters, .int x_this_at, .int x_this_begun, .int x_this_token, .int x_this_value, .int x_this_opened, .int x_this_steps, .ref h_this_code0, .ref h_this_read, .ref h_this_saved, .ref h_this_plan, .ref h_this_bestPlan, .int x_this_most, .int x_this_many, .int x_this_few, .int x_this_everHome, .ref h_this_offThen, .ref h_this_paidThen, .int x_this_firstFit, .ref h_this_rows, .int x_this_rowMany, .ref h_this_sorts, .ref h_this_sizes, .ref h_this_number, .ref h_this_holds, .ref h_this_heldOne, .ref h_this_trace, .int x_this_traced, .int x_this_own, .int x_this_isParted]), (h_this_pile, ia G 200 f_this_pile), (h_this_s, ia G 313 f_this_s)] r [(h_this, ob 9 [.ref h_this_s, .ref h_this_kept, .ref h_this_laid, .int x_this_isKept, .ref h_this_pile, .ref h_this_tape, .int x_this_taped, .ref h_this_letters, .int x_this_at, .int x_this_begun, .int x_this_token, .int x_this_value, .int x_this_opened, .int x_this_steps, .ref h_this_code0, .ref h_this_read, .ref h_this_saved, .ref h_this_plan, .ref h_this_bestPlan, .int x_this_most, .int x_this_many, .int x_this_few, .int x_this_everHome, .ref h_this_offThen, .ref h_this_paidThen, .int x_this_firstFit, .ref h_this_rows, .int x_this_rowMany, .ref h_this_sorts, .ref h_this_sizes, .ref h_this_number, .ref h_this_holds, .ref h_this_heldOne, .ref h_this_trace, .int x_this_traced, .int x_this_own, .int x_this_isParted]), (h_this_pile, ia G 200 m_this_pile), (h_this_s, ia G 313 f_this_s)] := by
  refine mFi.of (by decide +kernel) (Nat.le_of_ble_eq_true rfl) ?_
  intro p e s m below meth c A C hr hlk h ls hl
  obtain ⟨hx, hb, hml, hown, hts⟩ := id C
  replace hl : lv_has ls 2 [(0, .ref h_this), (1, .int p0)] := hl
  unfold f_X9_mayEnter at hf
  refine lv_aload_n hx hb dX9_mayEnter_0 rfl (lv_at hl 0 rfl) ?_
  refine lv_iload_n hx hb dX9_mayEnter_1 rfl (lv_at hl 1 rfl) ?_
  replace hf := bd2_inv hf
  obtain ⟨r1, g2, hc3, hf⟩ := hf
  refine r_ciV (ws' := [(h_this, ob 9 [.ref h_this_s, .ref h_this_kept, .ref h_this_laid, .int x_this_isKept, .ref h_this_pile, .ref h_this_tape, .int x_this_taped, .ref h_this_letters, .int x_this_at, .int x_this_begun, .int x_this_token, .int x_this_value, .int x_this_opened, .int x_this_steps, .ref h_this_code0, .ref h_this_read, .ref h_this_saved, .ref h_this_plan, .ref h_this_bestPlan, .int x_this_most, .int x_this_many, .int x_this_few, .int x_this_everHome, .ref h_this_offThen, .ref h_this_paidThen, .int x_this_firstFit, .ref h_this_rows, .int x_this_rowMany, .ref h_this_sorts, .ref h_this_sizes, .ref h_this_number, .ref h_this_holds, .ref h_this_heldOne, .ref h_this_trace, .int x_this_traced, .int x_this_own, .int x_this_isParted]), (h_this_pile, ia G 200 g2), (h_this_s, ia G 313 f_this_s)]) C h (c_X9_willOf hc3) mv_X9_102 rfl 0 rfl [0, 1, 2] rfl rfl [1] [(h_this_pile, ia G 200 g2)] rfl rfl (by decide +kernel) rfl hl.1 rfl (Nat.le_of_ble_eq_true rfl) (rok (by decide)) dX9_mayEnter_2 (fun H locs h => ?_)
  refine lv_if_ne (tgt := 20) hx hb dX9_mayEnter_5 rfl (fun c4 => ?_) (fun c4 => ?_)
  · replace hf := ifn c4 hf
    refine lv_iconst (v := (0 : Int32)) hx hb dX9_mayEnter_20 rfl ?_
    cases hf
    exact r_iret C h hr hlk rfl dX9_mayEnter_21
  · replace hf := ifp c4 hf
    refine lv_aload_n hx hb dX9_mayEnter_8 rfl (lv_at hl 0 rfl) ?_
    refine lv_iload_n hx hb dX9_mayEnter_9 rfl (lv_at hl 1 rfl) ?_
    replace hf := bd1_inv hf
    obtain ⟨r5, hc6, hf⟩ := hf
    refine r_ciV0 C h (c_X9_paysOf hc6) mv_X9_105 rfl 0 rfl [0, 2] rfl rfl hl.1 rfl (Nat.le_of_ble_eq_true rfl) (rok (by decide)) dX9_mayEnter_10 (fun H locs h => ?_)
    refine lv_if_le (tgt := 20) hx hb dX9_mayEnter_13 rfl (fun c7 => ?_) (fun c7 => ?_)
    · replace hf := ifp c7 hf
      refine lv_iconst (v := (0 : Int32)) hx hb dX9_mayEnter_20 rfl ?_
      cases hf
      exact r_iret C h hr hlk rfl dX9_mayEnter_21
    · replace hf := ifn c7 hf
      refine lv_iconst (v := (1 : Int32)) hx hb dX9_mayEnter_16 rfl ?_
      refine lv_goto (tgt := 21) hx hb dX9_mayEnter_17 rfl ?_
      cases hf
      exact r_iret C h hr hlk rfl dX9_mayEnter_21
set_option maxRecDepth 100000 in
set_option maxHeartbeats 4000000 in
theorem c_X9_shipOf {l : Launch} {G : Gt} {h_this h_this_s h_this_kept h_this_laid h_this_pile h_this_tape h_this_letters h_this_code0 h_this_read h_this_saved h_this_plan h_this_bestPlan h_this_offThen h_this_paidThen h_this_rows h_this_sorts h_this_sizes h_this_number h_this_holds h_this_heldOne h_this_trace : Nat} {p0 : Int32} {p1 : Int32} {x_this_isKept : Int32} {x_this_taped : Int32} {x_this_at : Int32} {x_this_begun : Int32} {x_this_token : Int32} {x_this_value : Int32} {x_this_opened : Int32} {x_this_steps : Int32} {x_this_most : Int32} {x_this_many : Int32} {x_this_few : Int32} {x_this_everHome : Int32} {x_this_firstFit : Int32} {x_this_rowMany : Int32} {x_this_traced : Int32} {x_this_own : Int32} {x_this_isParted : Int32} {f_this_pile : Nat → Int32} {f_this_s : Nat → Int32} {r : Int32} {m_this_pile : Nat → Int32} (hf : f_X9_shipOf p0 p1 f_this_pile f_this_s = some (r, m_this_pile)) : mFi l G yX9_shipOf cX9_shipOf 3 .int 5 [.ref h_this, .int p0, .int p1] [(h_this, ob 9 [.ref h_this_s, .ref h_this_kept, .ref h_this_laid, .int x_this_isKept, .ref h_this_pile, .ref h_this_tape, .int x_this_taped, .ref h_this_letters, .int x_this_at, .int x_this_begun, .int x_this_token, .int x_this_value, .int x_this_opened, .int x_this_steps, .ref h_this_code0, .ref h_this_read, .ref h_this_saved, .ref h_this_plan, .ref h_this_bestPlan, .int x_this_most, .int x_this_many, .int x_this_few, .int x_this_everHome, .ref h_this_offThen, .ref h_this_paidThen, .int x_this_firstFit, .ref h_this_rows, .int x_this_rowMany, .ref h_this_sorts, .ref h_this_sizes, .ref h_this_number, .ref h_this_holds, .ref h_this_heldOne, .ref h_this_trace, .int x_this_traced, .int x_this_own, .int x_this_isParted]), (h_this_pile, ia G 200 f_this_pile), (h_this_s, ia G 313 f_this_s)] r [(h_this, ob 9 [.ref h_this_s, .ref h_this_kept, .ref h_this_laid, .int x_this_isKept, .ref h_this_pile, .ref h_this_tape, .int x_this_taped, .ref h_this_letters, .int x_this_at, .int x_this_begun, .int x_this_token, .int x_this_value, .int x_this_opened, .int x_this_steps, .ref h_this_code0, .ref h_this_read, .ref h_this_saved, .ref h_this_plan, .ref h_this_bestPlan, .int x_this_most, .int x_this_many, .int x_this_few, .int x_this_everHome, .ref h_this_offThen, .ref h_this_paidThen, .int x_this_firstFit, .ref h_this_rows, .int x_this_rowMany, .ref h_this_sorts, .ref h_this_sizes, .ref h_this_number, .ref h_this_holds, .ref h_this_heldOne, .ref h_this_trace, .int x_this_traced, .int x_this_own, .int x_this_isParted]), (h_this_pile, ia G 200 m_this_pile), (h_this_s, ia G 313 f_this_s)] := by
  refine mFi.of (by decide +kernel) (Nat.le_of_ble_eq_true rfl) ?_
  intro p e s m below meth c A C hr hlk h ls hl
  obtain ⟨hx, hb, hml, hown, hts⟩ := id C
  replace hl : lv_has ls 3 [(0, .ref h_this), (1, .int p0), (2, .int p1)] := hl
  unfold f_X9_shipOf at hf
  refine lv_aload_n hx hb dX9_shipOf_0 rfl (lv_at hl 0 rfl) ?_
  refine lv_iload_n hx hb dX9_shipOf_1 rfl (lv_at hl 1 rfl) ?_
  replace hf := bd1_inv hf
  obtain ⟨r1, hc2, hf⟩ := hf
  refine r_ciV0 C h (c_X9_isShip hc2) mv_X9_226 rfl 0 rfl [0, 2] rfl rfl hl.1 rfl (Nat.le_of_ble_eq_true rfl) (rok (by decide)) dX9_shipOf_2 (fun H locs h => ?_)
  refine lv_if_eq (tgt := 18) hx hb dX9_shipOf_5 rfl (fun c3 => ?_) (fun c3 => ?_)
  · replace hf := ifp c3 hf
    refine lv_iconst (v := (-1 : Int32)) hx hb dX9_shipOf_18 rfl ?_
    cases hf
    exact r_iret C h hr hlk rfl dX9_shipOf_19
  · replace hf := ifn c3 hf
    refine lv_iload_n hx hb dX9_shipOf_8 rfl (lv_at hl 2 rfl) ?_
    refine lv_iconst (v := (0 : Int32)) hx hb dX9_shipOf_9 rfl ?_
    refine lv_bipush (v := (9 : Int32)) hx hb dX9_shipOf_10 rfl ?_
    replace hf := bd1_inv hf
    obtain ⟨r4, hc5, hf⟩ := hf
    refine r_ciS0 C h (c_X9_in1 hc5) ms_X9_71 rfl [] rfl rfl hl.1 rfl (Nat.le_of_ble_eq_true rfl) (rok (by decide)) dX9_shipOf_12 (fun H locs h => ?_)
    refine lv_if_ne (tgt := 20) hx hb dX9_shipOf_15 rfl (fun c6 => ?_) (fun c6 => ?_)
    · replace hf := ifn c6 hf
      refine lv_iload_n hx hb dX9_shipOf_20 rfl (lv_at hl 2 rfl) ?_
      by_cases c7 : p1 = (5 : Int32)
      · replace hf := ifp c7 hf
        refine r_tab (tgt := 56) C dX9_shipOf_21 (5 : Int32) c7 (by decide) rfl rfl ?_
        refine lv_aload_n hx hb dX9_shipOf_56 rfl (lv_at hl 0 rfl) ?_
        refine lv_iload_n hx hb dX9_shipOf_57 rfl (lv_at hl 1 rfl) ?_
        replace hf := bd1_inv hf
        obtain ⟨r12, hc13, hf⟩ := hf
        refine r_ciV0 C h (c_X9_nearsOf hc13) mv_X9_214 rfl 0 rfl [0, 2] rfl rfl hl.1 rfl (Nat.le_of_ble_eq_true rfl) (rok (by decide)) dX9_shipOf_58 (fun H locs h => ?_)
        cases hf
        exact r_iret C h hr hlk rfl dX9_shipOf_61
      · replace hf := ifn c7 hf
        by_cases c8 : p1 = (6 : Int32)
        · replace hf := ifp c8 hf
          refine r_tab (tgt := 62) C dX9_shipOf_21 (6 : Int32) c8 (by decide) rfl rfl ?_
          refine lv_aload_n hx hb dX9_shipOf_62 rfl (lv_at hl 0 rfl) ?_
          refine lv_iload_n hx hb dX9_shipOf_63 rfl (lv_at hl 1 rfl) ?_
          refine lv_aload_n hx hb dX9_shipOf_64 rfl (lv_at hl 0 rfl) ?_
          refine lv_iload_n hx hb dX9_shipOf_65 rfl (lv_at hl 1 rfl) ?_
          refine lv_iconst (v := (2 : Int32)) hx hb dX9_shipOf_66 rfl ?_
          replace hf := bd1_inv hf
          obtain ⟨r14, hc15, hf⟩ := hf
          refine r_ciV0 C h (c_X9_get hc15) mv_X9_79 rfl 0 rfl [0, 2] rfl rfl hl.1 rfl (Nat.le_of_ble_eq_true rfl) (rok (by decide)) dX9_shipOf_67 (fun H locs h => ?_)
          replace hf := bd1_inv hf
          obtain ⟨r16, hc17, hf⟩ := hf
          refine r_ciV0 C h (c_X9_reachesWith hc17) mv_X9_95 rfl 0 rfl [0, 2] rfl rfl hl.1 rfl (Nat.le_of_ble_eq_true rfl) (rok (by decide)) dX9_shipOf_70 (fun H locs h => ?_)
          cases hf
          exact r_iret C h hr hlk rfl dX9_shipOf_73
        · replace hf := ifn c8 hf
          by_cases c9 : p1 = (7 : Int32)
          · replace hf := ifp c9 hf
            refine r_tab (tgt := 74) C dX9_shipOf_21 (7 : Int32) c9 (by decide) rfl rfl ?_
            refine lv_aload_n hx hb dX9_shipOf_74 rfl (lv_at hl 0 rfl) ?_
            refine lv_iload_n hx hb dX9_shipOf_75 rfl (lv_at hl 1 rfl) ?_
            replace hf := bd1_inv hf
            obtain ⟨r18, hc19, hf⟩ := hf
            refine r_ciV0 C h (c_X9_paysOf hc19) mv_X9_105 rfl 0 rfl [0, 2] rfl rfl hl.1 rfl (Nat.le_of_ble_eq_true rfl) (rok (by decide)) dX9_shipOf_76 (fun H locs h => ?_)
            cases hf
            exact r_iret C h hr hlk rfl dX9_shipOf_79
          · replace hf := ifn c9 hf
            by_cases c10 : p1 = (8 : Int32)
            · replace hf := ifp c10 hf
              refine r_tab (tgt := 80) C dX9_shipOf_21 (8 : Int32) c10 (by decide) rfl rfl ?_
              refine lv_aload_n hx hb dX9_shipOf_80 rfl (lv_at hl 0 rfl) ?_
              refine lv_iload_n hx hb dX9_shipOf_81 rfl (lv_at hl 1 rfl) ?_
              replace hf := bd2_inv hf
              obtain ⟨r20, g21, hc22, hf⟩ := hf
              refine r_ciV (ws' := [(h_this, ob 9 [.ref h_this_s, .ref h_this_kept, .ref h_this_laid, .int x_this_isKept, .ref h_this_pile, .ref h_this_tape, .int x_this_taped, .ref h_this_letters, .int x_this_at, .int x_this_begun, .int x_this_token, .int x_this_value, .int x_this_opened, .int x_this_steps, .ref h_this_code0, .ref h_this_read, .ref h_this_saved, .ref h_this_plan, .ref h_this_bestPlan, .int x_this_most, .int x_this_many, .int x_this_few, .int x_this_everHome, .ref h_this_offThen, .ref h_this_paidThen, .int x_this_firstFit, .ref h_this_rows, .int x_this_rowMany, .ref h_this_sorts, .ref h_this_sizes, .ref h_this_number, .ref h_this_holds, .ref h_this_heldOne, .ref h_this_trace, .int x_this_traced, .int x_this_own, .int x_this_isParted]), (h_this_pile, ia G 200 g21), (h_this_s, ia G 313 f_this_s)]) C h (c_X9_mayEnter hc22) mv_X9_205 rfl 0 rfl [0, 1, 2] rfl rfl [1] [(h_this_pile, ia G 200 g21)] rfl rfl (by decide +kernel) rfl hl.1 rfl (Nat.le_of_ble_eq_true rfl) (rok (by decide)) dX9_shipOf_82 (fun H locs h => ?_)
              refine lv_if_eq (tgt := 92) hx hb dX9_shipOf_85 rfl (fun c23 => ?_) (fun c23 => ?_)
              · replace hf := ifp c23 hf
                refine lv_iconst (v := (0 : Int32)) hx hb dX9_shipOf_92 rfl ?_
                cases hf
                exact r_iret C h hr hlk rfl dX9_shipOf_93
              · replace hf := ifn c23 hf
                refine lv_iconst (v := (1 : Int32)) hx hb dX9_shipOf_88 rfl ?_
                refine lv_goto (tgt := 93) hx hb dX9_shipOf_89 rfl ?_
                cases hf
                exact r_iret C h hr hlk rfl dX9_shipOf_93
            · replace hf := ifn c10 hf
              by_cases c11 : p1 = (9 : Int32)
              · replace hf := ifp c11 hf
                refine r_tab (tgt := 94) C dX9_shipOf_21 (9 : Int32) c11 (by decide) rfl rfl ?_
                refine lv_aload_n hx hb dX9_shipOf_94 rfl (lv_at hl 0 rfl) ?_
                refine lv_iload_n hx hb dX9_shipOf_95 rfl (lv_at hl 1 rfl) ?_
                replace hf := bd2_inv hf
                obtain ⟨r24, g25, hc26, hf⟩ := hf
                refine r_ciV (ws' := [(h_this, ob 9 [.ref h_this_s, .ref h_this_kept, .ref h_this_laid, .int x_this_isKept, .ref h_this_pile, .ref h_this_tape, .int x_this_taped, .ref h_this_letters, .int x_this_at, .int x_this_begun, .int x_this_token, .int x_this_value, .int x_this_opened, .int x_this_steps, .ref h_this_code0, .ref h_this_read, .ref h_this_saved, .ref h_this_plan, .ref h_this_bestPlan, .int x_this_most, .int x_this_many, .int x_this_few, .int x_this_everHome, .ref h_this_offThen, .ref h_this_paidThen, .int x_this_firstFit, .ref h_this_rows, .int x_this_rowMany, .ref h_this_sorts, .ref h_this_sizes, .ref h_this_number, .ref h_this_holds, .ref h_this_heldOne, .ref h_this_trace, .int x_this_traced, .int x_this_own, .int x_this_isParted]), (h_this_pile, ia G 200 g25), (h_this_s, ia G 313 f_this_s)]) C h (c_X9_willOf hc26) mv_X9_102 rfl 0 rfl [0, 1, 2] rfl rfl [1] [(h_this_pile, ia G 200 g25)] rfl rfl (by decide +kernel) rfl hl.1 rfl (Nat.le_of_ble_eq_true rfl) (rok (by decide)) dX9_shipOf_96 (fun H locs h => ?_)
                cases hf
                exact r_iret C h hr hlk rfl dX9_shipOf_99
              · replace hf := ifn c11 hf
                refine r_tabD (tgt := 100) C dX9_shipOf_21 [(5 : Int32), (6 : Int32), (7 : Int32), (8 : Int32), (9 : Int32)] (by decide) (nel_c c7 (nel_c c8 (nel_c c9 (nel_c c10 (nel_c c11 nel_0))))) rfl ?_
                refine lv_aload_n hx hb dX9_shipOf_100 rfl (lv_at hl 0 rfl) ?_
                refine lv_iload_n hx hb dX9_shipOf_101 rfl (lv_at hl 1 rfl) ?_
                refine lv_iload_n hx hb dX9_shipOf_102 rfl (lv_at hl 2 rfl) ?_
                replace hf := bd1_inv hf
                obtain ⟨r27, hc28, hf⟩ := hf
                refine r_ciV0 C h (c_X9_get hc28) mv_X9_79 rfl 0 rfl [0, 2] rfl rfl hl.1 rfl (Nat.le_of_ble_eq_true rfl) (rok (by decide)) dX9_shipOf_103 (fun H locs h => ?_)
                cases hf
                exact r_iret C h hr hlk rfl dX9_shipOf_106
    · replace hf := ifp c6 hf
      refine lv_iconst (v := (-1 : Int32)) hx hb dX9_shipOf_18 rfl ?_
      cases hf
      exact r_iret C h hr hlk rfl dX9_shipOf_19
set_option maxRecDepth 100000 in
set_option maxHeartbeats 4000000 in
theorem c_X9_becomes {l : Launch} {G : Gt} {h_this h_this_s h_this_kept h_this_laid h_this_pile h_this_tape h_this_letters h_this_code0 h_this_read h_this_saved h_this_plan h_this_bestPlan h_this_offThen h_this_paidThen h_this_rows h_this_sorts h_this_sizes h_this_number h_this_holds h_this_heldOne h_this_trace : Nat} {p0 : Int32} {p1 : Int32} {x_this_isKept : Int32} {x_this_taped : Int32} {x_this_at : Int32} {x_this_begun : Int32} {x_this_token : Int32} {x_this_value : Int32} {x_this_opened : Int32} {x_this_steps : Int32} {x_this_most : Int32} {x_this_many : Int32} {x_this_few : Int32} {x_this_everHome : Int32} {x_this_firstFit : Int32} {x_this_rowMany : Int32} {x_this_traced : Int32} {x_this_own : Int32} {x_this_isParted : Int32} {f_this_s : Nat → Int32} {r : Int32} {m_this_s : Nat → Int32} (hf : f_X9_becomes p0 p1 f_this_s = some (r, m_this_s)) : mFi l G yX9_becomes cX9_becomes 4 .int 0 [.ref h_this, .int p0, .int p1] [(h_this, ob 9 [.ref h_this_s, .ref h_this_kept, .ref h_this_laid, .int x_this_isKept, .ref h_this_pile, .ref h_this_tape, .int x_this_taped, .ref h_this_letters, .int x_this_at, .int x_this_begun, .int x_this_token, .int x_this_value, .int x_this_opened, .int x_this_steps, .ref h_this_code0, .ref h_this_read, .ref h_this_saved, .ref h_this_plan, .ref h_this_bestPlan, .int x_this_most, .int x_this_many, .int x_this_few, .int x_this_everHome, .ref h_this_offThen, .ref h_this_paidThen, .int x_this_firstFit, .ref h_this_rows, .int x_this_rowMany, .ref h_this_sorts, .ref h_this_sizes, .ref h_this_number, .ref h_this_holds, .ref h_this_heldOne, .ref h_this_trace, .int x_this_traced, .int x_this_own, .int x_this_isParted]), (h_this_s, ia G 313 f_this_s)] r [(h_this, ob 9 [.ref h_this_s, .ref h_this_kept, .ref h_this_laid, .int x_this_isKept, .ref h_this_pile, .ref h_this_tape, .int x_this_taped, .ref h_this_letters, .int x_this_at, .int x_this_begun, .int x_this_token, .int x_this_value, .int x_this_opened, .int x_this_steps, .ref h_this_code0, .ref h_this_read, .ref h_this_saved, .ref h_this_plan, .ref h_this_bestPlan, .int x_this_most, .int x_this_many, .int x_this_few, .int x_this_everHome, .ref h_this_offThen, .ref h_this_paidThen, .int x_this_firstFit, .ref h_this_rows, .int x_this_rowMany, .ref h_this_sorts, .ref h_this_sizes, .ref h_this_number, .ref h_this_holds, .ref h_this_heldOne, .ref h_this_trace, .int x_this_traced, .int x_this_own, .int x_this_isParted]), (h_this_s, ia G 313 m_this_s)] := by
  refine mFi.of (by decide +kernel) (Nat.le_of_ble_eq_true rfl) ?_
  intro p e s m below meth c A C hr hlk h ls hl
  obtain ⟨hx, hb, hml, hown, hts⟩ := id C
  replace hl : lv_has ls 4 [(0, .ref h_this), (1, .int p0), (2, .int p1)] := hl
  unfold f_X9_becomes at hf
  refine lv_aload_n hx hb dX9_becomes_0 rfl (lv_at hl 0 rfl) ?_
  refine r_get C h fk_X9_9 0 rfl rfl dX9_becomes_1 ?_
  refine lv_iload_n hx hb dX9_becomes_4 rfl (lv_at hl 1 rfl) ?_
  replace hf := chkI_inv hf
  obtain ⟨hi1, hf⟩ := hf
  refine r_iald C h 1 rfl hi1 dX9_becomes_5 ?_
  refine lv_topi (fun t2 et2 => ?_)
  replace hf := lt1_inv et2 hf
  refine lv_istore_n (lv' := [(3, .int t2), (0, .ref h_this), (1, .int p0), (2, .int p1)]) hx hb dX9_becomes_6 rfl hl (by decide) rfl (fun ls hl => ?_)
  refine lv_aload_n hx hb dX9_becomes_7 rfl (lv_at hl 1 rfl) ?_
  refine r_get C h fk_X9_9 0 rfl rfl dX9_becomes_8 ?_
  refine lv_iload_n hx hb dX9_becomes_11 rfl (lv_at hl 2 rfl) ?_
  refine lv_iload_n hx hb dX9_becomes_12 rfl (lv_at hl 3 rfl) ?_
  replace hf := chkI_inv hf
  obtain ⟨hi3, hf⟩ := hf
  refine r_iast (ws' := [(h_this, ob 9 [.ref h_this_s, .ref h_this_kept, .ref h_this_laid, .int x_this_isKept, .ref h_this_pile, .ref h_this_tape, .int x_this_taped, .ref h_this_letters, .int x_this_at, .int x_this_begun, .int x_this_token, .int x_this_value, .int x_this_opened, .int x_this_steps, .ref h_this_code0, .ref h_this_read, .ref h_this_saved, .ref h_this_plan, .ref h_this_bestPlan, .int x_this_most, .int x_this_many, .int x_this_few, .int x_this_everHome, .ref h_this_offThen, .ref h_this_paidThen, .int x_this_firstFit, .ref h_this_rows, .int x_this_rowMany, .ref h_this_sorts, .ref h_this_sizes, .ref h_this_number, .ref h_this_holds, .ref h_this_heldOne, .ref h_this_trace, .int x_this_traced, .int x_this_own, .int x_this_isParted]), (h_this_s, ia G 313 (upd f_this_s p0.toNatClampNeg p1))]) C h 1 rfl hi3 dX9_becomes_13 rfl (fun H locs h => ?_)
  refine lv_iload_n hx hb dX9_becomes_14 rfl (lv_at hl 0 rfl) ?_
  cases hf
  exact r_iret C h hr hlk rfl dX9_becomes_15
set_option maxRecDepth 100000 in
set_option maxHeartbeats 4000000 in
theorem c_X9_change {l : Launch} {G : Gt} {h_this h_this_s h_this_kept h_this_laid h_this_pile h_this_tape h_this_letters h_this_code0 h_this_read h_this_saved h_this_plan h_this_bestPlan h_this_offThen h_this_paidThen h_this_rows h_this_sorts h_this_sizes h_this_number h_this_holds h_this_heldOne h_this_trace : Nat} {p0 : Int32} {p1 : Int32} {p2 : Int32} {x_this_isKept : Int32} {x_this_taped : Int32} {x_this_at : Int32} {x_this_begun : Int32} {x_this_token : Int32} {x_this_value : Int32} {x_this_opened : Int32} {x_this_steps : Int32} {x_this_most : Int32} {x_this_many : Int32} {x_this_few : Int32} {x_this_everHome : Int32} {x_this_firstFit : Int32} {x_this_rowMany : Int32} {x_this_traced : Int32} {x_this_own : Int32} {x_this_isParted : Int32} {f_this_s : Nat → Int32} {r : Int32} {m_this_s : Nat → Int32} (hf : f_X9_change p0 p1 p2 f_this_s = some (r, m_this_s)) : mFi l G yX9_change cX9_change 5 .int 2 [.ref h_this, .int p0, .int p1, .int p2] [(h_this, ob 9 [.ref h_this_s, .ref h_this_kept, .ref h_this_laid, .int x_this_isKept, .ref h_this_pile, .ref h_this_tape, .int x_this_taped, .ref h_this_letters, .int x_this_at, .int x_this_begun, .int x_this_token, .int x_this_value, .int x_this_opened, .int x_this_steps, .ref h_this_code0, .ref h_this_read, .ref h_this_saved, .ref h_this_plan, .ref h_this_bestPlan, .int x_this_most, .int x_this_many, .int x_this_few, .int x_this_everHome, .ref h_this_offThen, .ref h_this_paidThen, .int x_this_firstFit, .ref h_this_rows, .int x_this_rowMany, .ref h_this_sorts, .ref h_this_sizes, .ref h_this_number, .ref h_this_holds, .ref h_this_heldOne, .ref h_this_trace, .int x_this_traced, .int x_this_own, .int x_this_isParted]), (h_this_s, ia G 313 f_this_s)] r [(h_this, ob 9 [.ref h_this_s, .ref h_this_kept, .ref h_this_laid, .int x_this_isKept, .ref h_this_pile, .ref h_this_tape, .int x_this_taped, .ref h_this_letters, .int x_this_at, .int x_this_begun, .int x_this_token, .int x_this_value, .int x_this_opened, .int x_this_steps, .ref h_this_code0, .ref h_this_read, .ref h_this_saved, .ref h_this_plan, .ref h_this_bestPlan, .int x_this_most, .int x_this_many, .int x_this_few, .int x_this_everHome, .ref h_this_offThen, .ref h_this_paidThen, .int x_this_firstFit, .ref h_this_rows, .int x_this_rowMany, .ref h_this_sorts, .ref h_this_sizes, .ref h_this_number, .ref h_this_holds, .ref h_this_heldOne, .ref h_this_trace, .int x_this_traced, .int x_this_own, .int x_this_isParted]), (h_this_s, ia G 313 m_this_s)] := by
  refine mFi.of (by decide +kernel) (Nat.le_of_ble_eq_true rfl) ?_
  intro p e s m below meth c A C hr hlk h ls hl
  obtain ⟨hx, hb, hml, hown, hts⟩ := id C
  replace hl : lv_has ls 5 [(0, .ref h_this), (1, .int p0), (2, .int p1), (3, .int p2)] := hl
  unfold f_X9_change at hf
  refine with_K G A 5 (fun K hK1 hK2 => ?_)
  have B30 : ∀ (s0 : Int32), f_X9_change_b30 p0 p1 p2 f_this_s s0 = some (r, m_this_s) → K 30 [.int s0] [(h_this, ob 9 [.ref h_this_s, .ref h_this_kept, .ref h_this_laid, .int x_this_isKept, .ref h_this_pile, .ref h_this_tape, .int x_this_taped, .ref h_this_letters, .int x_this_at, .int x_this_begun, .int x_this_token, .int x_this_value, .int x_this_opened, .int x_this_steps, .ref h_this_code0, .ref h_this_read, .ref h_this_saved, .ref h_this_plan, .ref h_this_bestPlan, .int x_this_most, .int x_this_many, .int x_this_few, .int x_this_everHome, .ref h_this_offThen, .ref h_this_paidThen, .int x_this_firstFit, .ref h_this_rows, .int x_this_rowMany, .ref h_this_sorts, .ref h_this_sizes, .ref h_this_number, .ref h_this_holds, .ref h_this_heldOne, .ref h_this_trace, .int x_this_traced, .int x_this_own, .int x_this_isParted]), (h_this_s, ia G 313 f_this_s)] [(0, .ref h_this), (1, .int p0), (2, .int p1), (3, .int p2)] := by
    intro s0 hf
    unfold f_X9_change_b30 at hf
    refine hK1 _ _ _ _ (fun H locs ls h hl => ?_)
    refine lv_istore (lv' := [(4, .int s0), (0, .ref h_this), (1, .int p0), (2, .int p1), (3, .int p2)]) hx hb dX9_change_30 hl (by decide) rfl (fun ls hl => ?_)
    refine lv_aload_n hx hb dX9_change_32 rfl (lv_at hl 1 rfl) ?_
    refine lv_iload_n hx hb dX9_change_33 rfl (lv_at hl 2 rfl) ?_
    replace hf := bd1_inv hf
    obtain ⟨r4, hc5, hf⟩ := hf
    refine r_ciV0 C h (c_X9_isShip hc5) mv_X9_226 rfl 0 rfl [0, 1] rfl rfl hl.1 rfl (Nat.le_of_ble_eq_true rfl) (rok (by decide)) dX9_change_34 (fun H locs h => ?_)
    refine lv_if_eq (tgt := 75) hx hb dX9_change_37 rfl (fun c6 => ?_) (fun c6 => ?_)
    · replace hf := ifp c6 hf
      refine lv_iconst (v := (-1 : Int32)) hx hb dX9_change_75 rfl ?_
      cases hf
      exact r_iret C h hr hlk rfl dX9_change_76
    · replace hf := ifn c6 hf
      refine lv_iload_n hx hb dX9_change_40 rfl (lv_at hl 3 rfl) ?_
      refine lv_iconst (v := (1 : Int32)) hx hb dX9_change_41 rfl ?_
      refine lv_iconst (v := (4 : Int32)) hx hb dX9_change_42 rfl ?_
      replace hf := bd1_inv hf
      obtain ⟨r7, hc8, hf⟩ := hf
      refine r_ciS0 C h (c_X9_in1 hc8) ms_X9_71 rfl [] rfl rfl hl.1 rfl (Nat.le_of_ble_eq_true rfl) (rok (by decide)) dX9_change_43 (fun H locs h => ?_)
      refine lv_if_eq (tgt := 75) hx hb dX9_change_46 rfl (fun c9 => ?_) (fun c9 => ?_)
      · replace hf := ifp c9 hf
        refine lv_iconst (v := (-1 : Int32)) hx hb dX9_change_75 rfl ?_
        cases hf
        exact r_iret C h hr hlk rfl dX9_change_76
      · replace hf := ifn c9 hf
        refine lv_iload_n hx hb dX9_change_49 rfl (lv_at hl 4 rfl) ?_
        refine lv_iconst (v := (0 : Int32)) hx hb dX9_change_50 rfl ?_
        refine lv_iload hx hb dX9_change_51 (lv_at hl 0 rfl) ?_
        replace hf := bd1_inv hf
        obtain ⟨r10, hc11, hf⟩ := hf
        refine r_ciS0 C h (c_X9_in1 hc11) ms_X9_71 rfl [] rfl rfl hl.1 rfl (Nat.le_of_ble_eq_true rfl) (rok (by decide)) dX9_change_53 (fun H locs h => ?_)
        refine lv_if_eq (tgt := 75) hx hb dX9_change_56 rfl (fun c12 => ?_) (fun c12 => ?_)
        · replace hf := ifp c12 hf
          refine lv_iconst (v := (-1 : Int32)) hx hb dX9_change_75 rfl ?_
          cases hf
          exact r_iret C h hr hlk rfl dX9_change_76
        · replace hf := ifn c12 hf
          refine lv_aload_n hx hb dX9_change_59 rfl (lv_at hl 1 rfl) ?_
          refine lv_bipush (v := (35 : Int32)) hx hb dX9_change_60 rfl ?_
          refine lv_iconst (v := (5 : Int32)) hx hb dX9_change_62 rfl ?_
          refine lv_iload_n hx hb dX9_change_63 rfl (lv_at hl 2 rfl) ?_
          refine lv_imul hx hb dX9_change_64 ?_
          refine lv_iadd hx hb dX9_change_65 ?_
          refine lv_iload_n hx hb dX9_change_66 rfl (lv_at hl 3 rfl) ?_
          refine lv_iadd hx hb dX9_change_67 ?_
          refine lv_iload_n hx hb dX9_change_68 rfl (lv_at hl 4 rfl) ?_
          replace hf := bd2_inv hf
          obtain ⟨r13, g14, hc15, hf⟩ := hf
          refine r_ciV (ws' := [(h_this, ob 9 [.ref h_this_s, .ref h_this_kept, .ref h_this_laid, .int x_this_isKept, .ref h_this_pile, .ref h_this_tape, .int x_this_taped, .ref h_this_letters, .int x_this_at, .int x_this_begun, .int x_this_token, .int x_this_value, .int x_this_opened, .int x_this_steps, .ref h_this_code0, .ref h_this_read, .ref h_this_saved, .ref h_this_plan, .ref h_this_bestPlan, .int x_this_most, .int x_this_many, .int x_this_few, .int x_this_everHome, .ref h_this_offThen, .ref h_this_paidThen, .int x_this_firstFit, .ref h_this_rows, .int x_this_rowMany, .ref h_this_sorts, .ref h_this_sizes, .ref h_this_number, .ref h_this_holds, .ref h_this_heldOne, .ref h_this_trace, .int x_this_traced, .int x_this_own, .int x_this_isParted]), (h_this_s, ia G 313 g14)]) C h (c_X9_becomes hc15) mv_X9_229 rfl 0 rfl [0, 1] rfl rfl [1] [(h_this_s, ia G 313 g14)] rfl rfl (by decide +kernel) rfl hl.1 rfl (Nat.le_of_ble_eq_true rfl) (rok (by decide)) dX9_change_69 (fun H locs h => ?_)
          refine lv_goto (tgt := 76) hx hb dX9_change_72 rfl ?_
          cases hf
          exact r_iret C h hr hlk rfl dX9_change_76
  refine lv_iload_n hx hb dX9_change_0 rfl (lv_at hl 2 rfl) ?_
  refine lv_iconst (v := (1 : Int32)) hx hb dX9_change_1 rfl ?_
  refine lv_icmp_ne (tgt := 10) hx hb dX9_change_2 rfl (fun c1 => ?_) (fun c1 => ?_)
  · replace hf := ifn c1 hf
    refine lv_iload_n hx hb dX9_change_10 rfl (lv_at hl 2 rfl) ?_
    refine lv_iconst (v := (3 : Int32)) hx hb dX9_change_11 rfl ?_
    refine lv_icmp_ne (tgt := 19) hx hb dX9_change_12 rfl (fun c2 => ?_) (fun c2 => ?_)
    · replace hf := ifn c2 hf
      refine lv_iload_n hx hb dX9_change_19 rfl (lv_at hl 2 rfl) ?_
      refine lv_iconst (v := (4 : Int32)) hx hb dX9_change_20 rfl ?_
      refine lv_icmp_ne (tgt := 28) hx hb dX9_change_21 rfl (fun c3 => ?_) (fun c3 => ?_)
      · replace hf := ifn c3 hf
        refine lv_bipush (v := (9 : Int32)) hx hb dX9_change_28 rfl ?_
        exact hK2 _ _ _ _ (B30 (9 : Int32) hf) _ _ _ h (lv_sub hl [0, 1, 2, 3] rfl)
      · replace hf := ifp c3 hf
        refine lv_iconst (v := (1 : Int32)) hx hb dX9_change_24 rfl ?_
        refine lv_goto (tgt := 30) hx hb dX9_change_25 rfl ?_
        exact hK2 _ _ _ _ (B30 (1 : Int32) hf) _ _ _ h (lv_sub hl [0, 1, 2, 3] rfl)
    · replace hf := ifp c2 hf
      refine lv_iconst (v := (5 : Int32)) hx hb dX9_change_15 rfl ?_
      refine lv_goto (tgt := 30) hx hb dX9_change_16 rfl ?_
      exact hK2 _ _ _ _ (B30 (5 : Int32) hf) _ _ _ h (lv_sub hl [0, 1, 2, 3] rfl)
  · replace hf := ifp c1 hf
    refine lv_bipush (v := (99 : Int32)) hx hb dX9_change_5 rfl ?_
    refine lv_goto (tgt := 30) hx hb dX9_change_7 rfl ?_
    exact hK2 _ _ _ _ (B30 (99 : Int32) hf) _ _ _ h (lv_sub hl [0, 1, 2, 3] rfl)
set_option maxRecDepth 100000 in
set_option maxHeartbeats 4000000 in
theorem c_X9_remake {l : Launch} {G : Gt} {h_this h_this_s h_this_kept h_this_laid h_this_pile h_this_tape h_this_letters h_this_code0 h_this_read h_this_saved h_this_plan h_this_bestPlan h_this_offThen h_this_paidThen h_this_rows h_this_sorts h_this_sizes h_this_number h_this_holds h_this_heldOne h_this_trace : Nat} {p0 : Int32} {p1 : Int32} {x_this_isKept : Int32} {x_this_taped : Int32} {x_this_at : Int32} {x_this_begun : Int32} {x_this_token : Int32} {x_this_value : Int32} {x_this_opened : Int32} {x_this_steps : Int32} {x_this_most : Int32} {x_this_many : Int32} {x_this_few : Int32} {x_this_everHome : Int32} {x_this_firstFit : Int32} {x_this_rowMany : Int32} {x_this_traced : Int32} {x_this_own : Int32} {x_this_isParted : Int32} {f_this_s : Nat → Int32} {r : Int32} {m_this_s : Nat → Int32} (hf : f_X9_remake p0 p1 f_this_s = some (r, m_this_s)) : mFi l G yX9_remake cX9_remake 3 .int 2 [.ref h_this, .int p0, .int p1] [(h_this, ob 9 [.ref h_this_s, .ref h_this_kept, .ref h_this_laid, .int x_this_isKept, .ref h_this_pile, .ref h_this_tape, .int x_this_taped, .ref h_this_letters, .int x_this_at, .int x_this_begun, .int x_this_token, .int x_this_value, .int x_this_opened, .int x_this_steps, .ref h_this_code0, .ref h_this_read, .ref h_this_saved, .ref h_this_plan, .ref h_this_bestPlan, .int x_this_most, .int x_this_many, .int x_this_few, .int x_this_everHome, .ref h_this_offThen, .ref h_this_paidThen, .int x_this_firstFit, .ref h_this_rows, .int x_this_rowMany, .ref h_this_sorts, .ref h_this_sizes, .ref h_this_number, .ref h_this_holds, .ref h_this_heldOne, .ref h_this_trace, .int x_this_traced, .int x_this_own, .int x_this_isParted]), (h_this_s, ia G 313 f_this_s)] r [(h_this, ob 9 [.ref h_this_s, .ref h_this_kept, .ref h_this_laid, .int x_this_isKept, .ref h_this_pile, .ref h_this_tape, .int x_this_taped, .ref h_this_letters, .int x_this_at, .int x_this_begun, .int x_this_token, .int x_this_value, .int x_this_opened, .int x_this_steps, .ref h_this_code0, .ref h_this_read, .ref h_this_saved, .ref h_this_plan, .ref h_this_bestPlan, .int x_this_most, .int x_this_many, .int x_this_few, .int x_this_everHome, .ref h_this_offThen, .ref h_this_paidThen, .int x_this_firstFit, .ref h_this_rows, .int x_this_rowMany, .ref h_this_sorts, .ref h_this_sizes, .ref h_this_number, .ref h_this_holds, .ref h_this_heldOne, .ref h_this_trace, .int x_this_traced, .int x_this_own, .int x_this_isParted]), (h_this_s, ia G 313 m_this_s)] := by
  refine mFi.of (by decide +kernel) (Nat.le_of_ble_eq_true rfl) ?_
  intro p e s m below meth c A C hr hlk h ls hl
  obtain ⟨hx, hb, hml, hown, hts⟩ := id C
  replace hl : lv_has ls 3 [(0, .ref h_this), (1, .int p0), (2, .int p1)] := hl
  unfold f_X9_remake at hf
  refine lv_aload_n hx hb dX9_remake_0 rfl (lv_at hl 0 rfl) ?_
  refine lv_iload_n hx hb dX9_remake_1 rfl (lv_at hl 1 rfl) ?_
  replace hf := bd1_inv hf
  obtain ⟨r1, hc2, hf⟩ := hf
  refine r_ciV0 C h (c_X9_isShip hc2) mv_X9_226 rfl 0 rfl [0, 1] rfl rfl hl.1 rfl (Nat.le_of_ble_eq_true rfl) (rok (by decide)) dX9_remake_2 (fun H locs h => ?_)
  refine lv_if_eq (tgt := 31) hx hb dX9_remake_5 rfl (fun c3 => ?_) (fun c3 => ?_)
  · replace hf := ifp c3 hf
    refine lv_iconst (v := (-1 : Int32)) hx hb dX9_remake_31 rfl ?_
    cases hf
    exact r_iret C h hr hlk rfl dX9_remake_32
  · replace hf := ifn c3 hf
    refine lv_iload_n hx hb dX9_remake_8 rfl (lv_at hl 2 rfl) ?_
    refine lv_iconst (v := (1 : Int32)) hx hb dX9_remake_9 rfl ?_
    refine lv_iconst (v := (5 : Int32)) hx hb dX9_remake_10 rfl ?_
    replace hf := bd1_inv hf
    obtain ⟨r4, hc5, hf⟩ := hf
    refine r_ciS0 C h (c_X9_in1 hc5) ms_X9_71 rfl [] rfl rfl hl.1 rfl (Nat.le_of_ble_eq_true rfl) (rok (by decide)) dX9_remake_11 (fun H locs h => ?_)
    refine lv_if_eq (tgt := 31) hx hb dX9_remake_14 rfl (fun c6 => ?_) (fun c6 => ?_)
    · replace hf := ifp c6 hf
      refine lv_iconst (v := (-1 : Int32)) hx hb dX9_remake_31 rfl ?_
      cases hf
      exact r_iret C h hr hlk rfl dX9_remake_32
    · replace hf := ifn c6 hf
      refine lv_aload_n hx hb dX9_remake_17 rfl (lv_at hl 0 rfl) ?_
      refine lv_bipush (v := (35 : Int32)) hx hb dX9_remake_18 rfl ?_
      refine lv_iconst (v := (5 : Int32)) hx hb dX9_remake_20 rfl ?_
      refine lv_iload_n hx hb dX9_remake_21 rfl (lv_at hl 1 rfl) ?_
      refine lv_imul hx hb dX9_remake_22 ?_
      refine lv_iadd hx hb dX9_remake_23 ?_
      refine lv_iload_n hx hb dX9_remake_24 rfl (lv_at hl 2 rfl) ?_
      replace hf := bd2_inv hf
      obtain ⟨r7, g8, hc9, hf⟩ := hf
      refine r_ciV (ws' := [(h_this, ob 9 [.ref h_this_s, .ref h_this_kept, .ref h_this_laid, .int x_this_isKept, .ref h_this_pile, .ref h_this_tape, .int x_this_taped, .ref h_this_letters, .int x_this_at, .int x_this_begun, .int x_this_token, .int x_this_value, .int x_this_opened, .int x_this_steps, .ref h_this_code0, .ref h_this_read, .ref h_this_saved, .ref h_this_plan, .ref h_this_bestPlan, .int x_this_most, .int x_this_many, .int x_this_few, .int x_this_everHome, .ref h_this_offThen, .ref h_this_paidThen, .int x_this_firstFit, .ref h_this_rows, .int x_this_rowMany, .ref h_this_sorts, .ref h_this_sizes, .ref h_this_number, .ref h_this_holds, .ref h_this_heldOne, .ref h_this_trace, .int x_this_traced, .int x_this_own, .int x_this_isParted]), (h_this_s, ia G 313 g8)]) C h (c_X9_becomes hc9) mv_X9_229 rfl 0 rfl [0, 1] rfl rfl [1] [(h_this_s, ia G 313 g8)] rfl rfl (by decide +kernel) rfl hl.1 rfl (Nat.le_of_ble_eq_true rfl) (rok (by decide)) dX9_remake_25 (fun H locs h => ?_)
      refine lv_goto (tgt := 32) hx hb dX9_remake_28 rfl ?_
      cases hf
      exact r_iret C h hr hlk rfl dX9_remake_32
set_option maxRecDepth 100000 in
set_option maxHeartbeats 4000000 in
theorem c_X9_light {l : Launch} {G : Gt} {h_this h_this_s h_this_kept h_this_laid h_this_pile h_this_tape h_this_letters h_this_code0 h_this_read h_this_saved h_this_plan h_this_bestPlan h_this_offThen h_this_paidThen h_this_rows h_this_sorts h_this_sizes h_this_number h_this_holds h_this_heldOne h_this_trace : Nat} {p0 : Int32} {p1 : Int32} {x_this_isKept : Int32} {x_this_taped : Int32} {x_this_at : Int32} {x_this_begun : Int32} {x_this_token : Int32} {x_this_value : Int32} {x_this_opened : Int32} {x_this_steps : Int32} {x_this_most : Int32} {x_this_many : Int32} {x_this_few : Int32} {x_this_everHome : Int32} {x_this_firstFit : Int32} {x_this_rowMany : Int32} {x_this_traced : Int32} {x_this_own : Int32} {x_this_isParted : Int32} {f_this_s : Nat → Int32} {r : Int32} {m_this_s : Nat → Int32} (hf : f_X9_light p0 p1 f_this_s = some (r, m_this_s)) : mFi l G yX9_light cX9_light 3 .int 1 [.ref h_this, .int p0, .int p1] [(h_this, ob 9 [.ref h_this_s, .ref h_this_kept, .ref h_this_laid, .int x_this_isKept, .ref h_this_pile, .ref h_this_tape, .int x_this_taped, .ref h_this_letters, .int x_this_at, .int x_this_begun, .int x_this_token, .int x_this_value, .int x_this_opened, .int x_this_steps, .ref h_this_code0, .ref h_this_read, .ref h_this_saved, .ref h_this_plan, .ref h_this_bestPlan, .int x_this_most, .int x_this_many, .int x_this_few, .int x_this_everHome, .ref h_this_offThen, .ref h_this_paidThen, .int x_this_firstFit, .ref h_this_rows, .int x_this_rowMany, .ref h_this_sorts, .ref h_this_sizes, .ref h_this_number, .ref h_this_holds, .ref h_this_heldOne, .ref h_this_trace, .int x_this_traced, .int x_this_own, .int x_this_isParted]), (h_this_s, ia G 313 f_this_s)] r [(h_this, ob 9 [.ref h_this_s, .ref h_this_kept, .ref h_this_laid, .int x_this_isKept, .ref h_this_pile, .ref h_this_tape, .int x_this_taped, .ref h_this_letters, .int x_this_at, .int x_this_begun, .int x_this_token, .int x_this_value, .int x_this_opened, .int x_this_steps, .ref h_this_code0, .ref h_this_read, .ref h_this_saved, .ref h_this_plan, .ref h_this_bestPlan, .int x_this_most, .int x_this_many, .int x_this_few, .int x_this_everHome, .ref h_this_offThen, .ref h_this_paidThen, .int x_this_firstFit, .ref h_this_rows, .int x_this_rowMany, .ref h_this_sorts, .ref h_this_sizes, .ref h_this_number, .ref h_this_holds, .ref h_this_heldOne, .ref h_this_trace, .int x_this_traced, .int x_this_own, .int x_this_isParted]), (h_this_s, ia G 313 m_this_s)] := by
  refine mFi.of (by decide +kernel) (Nat.le_of_ble_eq_true rfl) ?_
  intro p e s m below meth c A C hr hlk h ls hl
  obtain ⟨hx, hb, hml, hown, hts⟩ := id C
  replace hl : lv_has ls 3 [(0, .ref h_this), (1, .int p0), (2, .int p1)] := hl
  unfold f_X9_light at hf
  refine lv_iload_n hx hb dX9_light_0 rfl (lv_at hl 1 rfl) ?_
  refine lv_iconst (v := (0 : Int32)) hx hb dX9_light_1 rfl ?_
  refine lv_bipush (v := (15 : Int32)) hx hb dX9_light_2 rfl ?_
  replace hf := bd1_inv hf
  obtain ⟨r1, hc2, hf⟩ := hf
  refine r_ciS0 C h (c_X9_in1 hc2) ms_X9_71 rfl [] rfl rfl hl.1 rfl (Nat.le_of_ble_eq_true rfl) (rok (by decide)) dX9_light_4 (fun H locs h => ?_)
  refine lv_if_eq (tgt := 32) hx hb dX9_light_7 rfl (fun c3 => ?_) (fun c3 => ?_)
  · replace hf := ifp c3 hf
    refine lv_iconst (v := (-1 : Int32)) hx hb dX9_light_32 rfl ?_
    cases hf
    exact r_iret C h hr hlk rfl dX9_light_33
  · replace hf := ifn c3 hf
    refine lv_iload_n hx hb dX9_light_10 rfl (lv_at hl 2 rfl) ?_
    refine lv_iconst (v := (0 : Int32)) hx hb dX9_light_11 rfl ?_
    refine lv_bipush (v := (15 : Int32)) hx hb dX9_light_12 rfl ?_
    replace hf := bd1_inv hf
    obtain ⟨r4, hc5, hf⟩ := hf
    refine r_ciS0 C h (c_X9_in1 hc5) ms_X9_71 rfl [] rfl rfl hl.1 rfl (Nat.le_of_ble_eq_true rfl) (rok (by decide)) dX9_light_14 (fun H locs h => ?_)
    refine lv_if_eq (tgt := 32) hx hb dX9_light_17 rfl (fun c6 => ?_) (fun c6 => ?_)
    · replace hf := ifp c6 hf
      refine lv_iconst (v := (-1 : Int32)) hx hb dX9_light_32 rfl ?_
      cases hf
      exact r_iret C h hr hlk rfl dX9_light_33
    · replace hf := ifn c6 hf
      refine lv_aload_n hx hb dX9_light_20 rfl (lv_at hl 0 rfl) ?_
      refine lv_bipush (v := (7 : Int32)) hx hb dX9_light_21 rfl ?_
      refine lv_iload_n hx hb dX9_light_23 rfl (lv_at hl 1 rfl) ?_
      refine lv_iadd hx hb dX9_light_24 ?_
      refine lv_iload_n hx hb dX9_light_25 rfl (lv_at hl 2 rfl) ?_
      replace hf := bd2_inv hf
      obtain ⟨r7, g8, hc9, hf⟩ := hf
      refine r_ciV (ws' := [(h_this, ob 9 [.ref h_this_s, .ref h_this_kept, .ref h_this_laid, .int x_this_isKept, .ref h_this_pile, .ref h_this_tape, .int x_this_taped, .ref h_this_letters, .int x_this_at, .int x_this_begun, .int x_this_token, .int x_this_value, .int x_this_opened, .int x_this_steps, .ref h_this_code0, .ref h_this_read, .ref h_this_saved, .ref h_this_plan, .ref h_this_bestPlan, .int x_this_most, .int x_this_many, .int x_this_few, .int x_this_everHome, .ref h_this_offThen, .ref h_this_paidThen, .int x_this_firstFit, .ref h_this_rows, .int x_this_rowMany, .ref h_this_sorts, .ref h_this_sizes, .ref h_this_number, .ref h_this_holds, .ref h_this_heldOne, .ref h_this_trace, .int x_this_traced, .int x_this_own, .int x_this_isParted]), (h_this_s, ia G 313 g8)]) C h (c_X9_becomes hc9) mv_X9_229 rfl 0 rfl [0, 1] rfl rfl [1] [(h_this_s, ia G 313 g8)] rfl rfl (by decide +kernel) rfl hl.1 rfl (Nat.le_of_ble_eq_true rfl) (rok (by decide)) dX9_light_26 (fun H locs h => ?_)
      refine lv_goto (tgt := 33) hx hb dX9_light_29 rfl ?_
      cases hf
      exact r_iret C h hr hlk rfl dX9_light_33
set_option maxRecDepth 100000 in
set_option maxHeartbeats 4000000 in
theorem c_X9_lane {l : Launch} {G : Gt} {h_this h_this_s h_this_kept h_this_laid h_this_pile h_this_tape h_this_letters h_this_code0 h_this_read h_this_saved h_this_plan h_this_bestPlan h_this_offThen h_this_paidThen h_this_rows h_this_sorts h_this_sizes h_this_number h_this_holds h_this_heldOne h_this_trace : Nat} {p0 : Int32} {p1 : Int32} {p2 : Int32} {x_this_isKept : Int32} {x_this_taped : Int32} {x_this_at : Int32} {x_this_begun : Int32} {x_this_token : Int32} {x_this_value : Int32} {x_this_opened : Int32} {x_this_steps : Int32} {x_this_most : Int32} {x_this_many : Int32} {x_this_few : Int32} {x_this_everHome : Int32} {x_this_firstFit : Int32} {x_this_rowMany : Int32} {x_this_traced : Int32} {x_this_own : Int32} {x_this_isParted : Int32} {f_this_s : Nat → Int32} {r : Int32} {m_this_s : Nat → Int32} (hf : f_X9_lane p0 p1 p2 f_this_s = some (r, m_this_s)) : mFi l G yX9_lane cX9_lane 4 .int 2 [.ref h_this, .int p0, .int p1, .int p2] [(h_this, ob 9 [.ref h_this_s, .ref h_this_kept, .ref h_this_laid, .int x_this_isKept, .ref h_this_pile, .ref h_this_tape, .int x_this_taped, .ref h_this_letters, .int x_this_at, .int x_this_begun, .int x_this_token, .int x_this_value, .int x_this_opened, .int x_this_steps, .ref h_this_code0, .ref h_this_read, .ref h_this_saved, .ref h_this_plan, .ref h_this_bestPlan, .int x_this_most, .int x_this_many, .int x_this_few, .int x_this_everHome, .ref h_this_offThen, .ref h_this_paidThen, .int x_this_firstFit, .ref h_this_rows, .int x_this_rowMany, .ref h_this_sorts, .ref h_this_sizes, .ref h_this_number, .ref h_this_holds, .ref h_this_heldOne, .ref h_this_trace, .int x_this_traced, .int x_this_own, .int x_this_isParted]), (h_this_s, ia G 313 f_this_s)] r [(h_this, ob 9 [.ref h_this_s, .ref h_this_kept, .ref h_this_laid, .int x_this_isKept, .ref h_this_pile, .ref h_this_tape, .int x_this_taped, .ref h_this_letters, .int x_this_at, .int x_this_begun, .int x_this_token, .int x_this_value, .int x_this_opened, .int x_this_steps, .ref h_this_code0, .ref h_this_read, .ref h_this_saved, .ref h_this_plan, .ref h_this_bestPlan, .int x_this_most, .int x_this_many, .int x_this_few, .int x_this_everHome, .ref h_this_offThen, .ref h_this_paidThen, .int x_this_firstFit, .ref h_this_rows, .int x_this_rowMany, .ref h_this_sorts, .ref h_this_sizes, .ref h_this_number, .ref h_this_holds, .ref h_this_heldOne, .ref h_this_trace, .int x_this_traced, .int x_this_own, .int x_this_isParted]), (h_this_s, ia G 313 m_this_s)] := by
  refine mFi.of (by decide +kernel) (Nat.le_of_ble_eq_true rfl) ?_
  intro p e s m below meth c A C hr hlk h ls hl
  obtain ⟨hx, hb, hml, hown, hts⟩ := id C
  replace hl : lv_has ls 4 [(0, .ref h_this), (1, .int p0), (2, .int p1), (3, .int p2)] := hl
  unfold f_X9_lane at hf
  refine lv_iload_n hx hb dX9_lane_0 rfl (lv_at hl 1 rfl) ?_
  replace hf := bd1_inv hf
  obtain ⟨r1, hc2, hf⟩ := hf
  refine r_ciS0 C h (c_X9_isLane hc2) ms_X9_223 rfl [] rfl rfl hl.1 rfl (Nat.le_of_ble_eq_true rfl) (rok (by decide)) dX9_lane_1 (fun H locs h => ?_)
  refine lv_if_eq (tgt := 44) hx hb dX9_lane_4 rfl (fun c3 => ?_) (fun c3 => ?_)
  · replace hf := ifp c3 hf
    refine lv_iconst (v := (-1 : Int32)) hx hb dX9_lane_44 rfl ?_
    cases hf
    exact r_iret C h hr hlk rfl dX9_lane_45
  · replace hf := ifn c3 hf
    refine lv_iload_n hx hb dX9_lane_7 rfl (lv_at hl 2 rfl) ?_
    refine lv_iconst (v := (0 : Int32)) hx hb dX9_lane_8 rfl ?_
    refine lv_iconst (v := (1 : Int32)) hx hb dX9_lane_9 rfl ?_
    replace hf := bd1_inv hf
    obtain ⟨r4, hc5, hf⟩ := hf
    refine r_ciS0 C h (c_X9_in1 hc5) ms_X9_71 rfl [] rfl rfl hl.1 rfl (Nat.le_of_ble_eq_true rfl) (rok (by decide)) dX9_lane_10 (fun H locs h => ?_)
    refine lv_if_eq (tgt := 44) hx hb dX9_lane_13 rfl (fun c6 => ?_) (fun c6 => ?_)
    · replace hf := ifp c6 hf
      refine lv_iconst (v := (-1 : Int32)) hx hb dX9_lane_44 rfl ?_
      cases hf
      exact r_iret C h hr hlk rfl dX9_lane_45
    · replace hf := ifn c6 hf
      refine lv_iload_n hx hb dX9_lane_16 rfl (lv_at hl 3 rfl) ?_
      replace hf := bd1_inv hf
      obtain ⟨r7, hc8, hf⟩ := hf
      refine r_ciS0 C h (c_X9_isDigit hc8) ms_X9_220 rfl [] rfl rfl hl.1 rfl (Nat.le_of_ble_eq_true rfl) (rok (by decide)) dX9_lane_17 (fun H locs h => ?_)
      refine lv_if_eq (tgt := 44) hx hb dX9_lane_20 rfl (fun c9 => ?_) (fun c9 => ?_)
      · replace hf := ifp c9 hf
        refine lv_iconst (v := (-1 : Int32)) hx hb dX9_lane_44 rfl ?_
        cases hf
        exact r_iret C h hr hlk rfl dX9_lane_45
      · replace hf := ifn c9 hf
        refine lv_aload_n hx hb dX9_lane_23 rfl (lv_at hl 0 rfl) ?_
        refine lv_iload_n hx hb dX9_lane_24 rfl (lv_at hl 2 rfl) ?_
        refine lv_if_ne (tgt := 33) hx hb dX9_lane_25 rfl (fun c10 => ?_) (fun c10 => ?_)
        · replace hf := ifn c10 hf
          refine lv_bipush (v := (29 : Int32)) hx hb dX9_lane_33 rfl ?_
          refine lv_iload_n hx hb dX9_lane_35 rfl (lv_at hl 1 rfl) ?_
          refine lv_iadd hx hb dX9_lane_36 ?_
          refine lv_iload_n hx hb dX9_lane_37 rfl (lv_at hl 3 rfl) ?_
          replace hf := bd2_inv hf
          obtain ⟨r11, g12, hc13, hf⟩ := hf
          refine r_ciV (ws' := [(h_this, ob 9 [.ref h_this_s, .ref h_this_kept, .ref h_this_laid, .int x_this_isKept, .ref h_this_pile, .ref h_this_tape, .int x_this_taped, .ref h_this_letters, .int x_this_at, .int x_this_begun, .int x_this_token, .int x_this_value, .int x_this_opened, .int x_this_steps, .ref h_this_code0, .ref h_this_read, .ref h_this_saved, .ref h_this_plan, .ref h_this_bestPlan, .int x_this_most, .int x_this_many, .int x_this_few, .int x_this_everHome, .ref h_this_offThen, .ref h_this_paidThen, .int x_this_firstFit, .ref h_this_rows, .int x_this_rowMany, .ref h_this_sorts, .ref h_this_sizes, .ref h_this_number, .ref h_this_holds, .ref h_this_heldOne, .ref h_this_trace, .int x_this_traced, .int x_this_own, .int x_this_isParted]), (h_this_s, ia G 313 g12)]) C h (c_X9_becomes hc13) mv_X9_229 rfl 0 rfl [0, 1] rfl rfl [1] [(h_this_s, ia G 313 g12)] rfl rfl (by decide +kernel) rfl hl.1 rfl (Nat.le_of_ble_eq_true rfl) (rok (by decide)) dX9_lane_38 (fun H locs h => ?_)
          refine lv_goto (tgt := 45) hx hb dX9_lane_41 rfl ?_
          cases hf
          exact r_iret C h hr hlk rfl dX9_lane_45
        · replace hf := ifp c10 hf
          refine lv_bipush (v := (23 : Int32)) hx hb dX9_lane_28 rfl ?_
          refine lv_goto (tgt := 35) hx hb dX9_lane_30 rfl ?_
          refine lv_iload_n hx hb dX9_lane_35 rfl (lv_at hl 1 rfl) ?_
          refine lv_iadd hx hb dX9_lane_36 ?_
          refine lv_iload_n hx hb dX9_lane_37 rfl (lv_at hl 3 rfl) ?_
          replace hf := bd2_inv hf
          obtain ⟨r14, g15, hc16, hf⟩ := hf
          refine r_ciV (ws' := [(h_this, ob 9 [.ref h_this_s, .ref h_this_kept, .ref h_this_laid, .int x_this_isKept, .ref h_this_pile, .ref h_this_tape, .int x_this_taped, .ref h_this_letters, .int x_this_at, .int x_this_begun, .int x_this_token, .int x_this_value, .int x_this_opened, .int x_this_steps, .ref h_this_code0, .ref h_this_read, .ref h_this_saved, .ref h_this_plan, .ref h_this_bestPlan, .int x_this_most, .int x_this_many, .int x_this_few, .int x_this_everHome, .ref h_this_offThen, .ref h_this_paidThen, .int x_this_firstFit, .ref h_this_rows, .int x_this_rowMany, .ref h_this_sorts, .ref h_this_sizes, .ref h_this_number, .ref h_this_holds, .ref h_this_heldOne, .ref h_this_trace, .int x_this_traced, .int x_this_own, .int x_this_isParted]), (h_this_s, ia G 313 g15)]) C h (c_X9_becomes hc16) mv_X9_229 rfl 0 rfl [0, 1] rfl rfl [1] [(h_this_s, ia G 313 g15)] rfl rfl (by decide +kernel) rfl hl.1 rfl (Nat.le_of_ble_eq_true rfl) (rok (by decide)) dX9_lane_38 (fun H locs h => ?_)
          refine lv_goto (tgt := 45) hx hb dX9_lane_41 rfl ?_
          cases hf
          exact r_iret C h hr hlk rfl dX9_lane_45
set_option maxRecDepth 100000 in
set_option maxHeartbeats 4000000 in
theorem c_X9_laneOf {l : Launch} {G : Gt} {h_this h_this_s h_this_kept h_this_laid h_this_pile h_this_tape h_this_letters h_this_code0 h_this_read h_this_saved h_this_plan h_this_bestPlan h_this_offThen h_this_paidThen h_this_rows h_this_sorts h_this_sizes h_this_number h_this_holds h_this_heldOne h_this_trace : Nat} {p0 : Int32} {p1 : Int32} {x_this_isKept : Int32} {x_this_taped : Int32} {x_this_at : Int32} {x_this_begun : Int32} {x_this_token : Int32} {x_this_value : Int32} {x_this_opened : Int32} {x_this_steps : Int32} {x_this_most : Int32} {x_this_many : Int32} {x_this_few : Int32} {x_this_everHome : Int32} {x_this_firstFit : Int32} {x_this_rowMany : Int32} {x_this_traced : Int32} {x_this_own : Int32} {x_this_isParted : Int32} {f_this_s : Nat → Int32} {r : Int32} (hf : f_X9_laneOf p0 p1 f_this_s = some r) : mFi l G yX9_laneOf cX9_laneOf 3 .int 2 [.ref h_this, .int p0, .int p1] [(h_this, ob 9 [.ref h_this_s, .ref h_this_kept, .ref h_this_laid, .int x_this_isKept, .ref h_this_pile, .ref h_this_tape, .int x_this_taped, .ref h_this_letters, .int x_this_at, .int x_this_begun, .int x_this_token, .int x_this_value, .int x_this_opened, .int x_this_steps, .ref h_this_code0, .ref h_this_read, .ref h_this_saved, .ref h_this_plan, .ref h_this_bestPlan, .int x_this_most, .int x_this_many, .int x_this_few, .int x_this_everHome, .ref h_this_offThen, .ref h_this_paidThen, .int x_this_firstFit, .ref h_this_rows, .int x_this_rowMany, .ref h_this_sorts, .ref h_this_sizes, .ref h_this_number, .ref h_this_holds, .ref h_this_heldOne, .ref h_this_trace, .int x_this_traced, .int x_this_own, .int x_this_isParted]), (h_this_s, ia G 313 f_this_s)] r [(h_this, ob 9 [.ref h_this_s, .ref h_this_kept, .ref h_this_laid, .int x_this_isKept, .ref h_this_pile, .ref h_this_tape, .int x_this_taped, .ref h_this_letters, .int x_this_at, .int x_this_begun, .int x_this_token, .int x_this_value, .int x_this_opened, .int x_this_steps, .ref h_this_code0, .ref h_this_read, .ref h_this_saved, .ref h_this_plan, .ref h_this_bestPlan, .int x_this_most, .int x_this_many, .int x_this_few, .int x_this_everHome, .ref h_this_offThen, .ref h_this_paidThen, .int x_this_firstFit, .ref h_this_rows, .int x_this_rowMany, .ref h_this_sorts, .ref h_this_sizes, .ref h_this_number, .ref h_this_holds, .ref h_this_heldOne, .ref h_this_trace, .int x_this_traced, .int x_this_own, .int x_this_isParted]), (h_this_s, ia G 313 f_this_s)] := by
  refine mFi.of (by decide +kernel) (Nat.le_of_ble_eq_true rfl) ?_
  intro p e s m below meth c A C hr hlk h ls hl
  obtain ⟨hx, hb, hml, hown, hts⟩ := id C
  replace hl : lv_has ls 3 [(0, .ref h_this), (1, .int p0), (2, .int p1)] := hl
  unfold f_X9_laneOf at hf
  refine lv_iload_n hx hb dX9_laneOf_0 rfl (lv_at hl 1 rfl) ?_
  replace hf := bd1_inv hf
  obtain ⟨r1, hc2, hf⟩ := hf
  refine r_ciS0 C h (c_X9_isLane hc2) ms_X9_223 rfl [] rfl rfl hl.1 rfl (Nat.le_of_ble_eq_true rfl) (rok (by decide)) dX9_laneOf_1 (fun H locs h => ?_)
  refine lv_if_eq (tgt := 37) hx hb dX9_laneOf_4 rfl (fun c3 => ?_) (fun c3 => ?_)
  · replace hf := ifp c3 hf
    refine lv_iconst (v := (-1 : Int32)) hx hb dX9_laneOf_37 rfl ?_
    cases hf
    exact r_iret C h hr hlk rfl dX9_laneOf_38
  · replace hf := ifn c3 hf
    refine lv_iload_n hx hb dX9_laneOf_7 rfl (lv_at hl 2 rfl) ?_
    refine lv_iconst (v := (0 : Int32)) hx hb dX9_laneOf_8 rfl ?_
    refine lv_iconst (v := (1 : Int32)) hx hb dX9_laneOf_9 rfl ?_
    replace hf := bd1_inv hf
    obtain ⟨r4, hc5, hf⟩ := hf
    refine r_ciS0 C h (c_X9_in1 hc5) ms_X9_71 rfl [] rfl rfl hl.1 rfl (Nat.le_of_ble_eq_true rfl) (rok (by decide)) dX9_laneOf_10 (fun H locs h => ?_)
    refine lv_if_eq (tgt := 37) hx hb dX9_laneOf_13 rfl (fun c6 => ?_) (fun c6 => ?_)
    · replace hf := ifp c6 hf
      refine lv_iconst (v := (-1 : Int32)) hx hb dX9_laneOf_37 rfl ?_
      cases hf
      exact r_iret C h hr hlk rfl dX9_laneOf_38
    · replace hf := ifn c6 hf
      refine lv_aload_n hx hb dX9_laneOf_16 rfl (lv_at hl 0 rfl) ?_
      refine r_get C h fk_X9_9 0 rfl rfl dX9_laneOf_17 ?_
      refine lv_iload_n hx hb dX9_laneOf_20 rfl (lv_at hl 2 rfl) ?_
      refine lv_if_ne (tgt := 29) hx hb dX9_laneOf_21 rfl (fun c7 => ?_) (fun c7 => ?_)
      · replace hf := ifn c7 hf
        refine lv_bipush (v := (29 : Int32)) hx hb dX9_laneOf_29 rfl ?_
        refine lv_iload_n hx hb dX9_laneOf_31 rfl (lv_at hl 1 rfl) ?_
        refine lv_iadd hx hb dX9_laneOf_32 ?_
        replace hf := chkI_inv hf
        obtain ⟨hi8, hf⟩ := hf
        refine r_iald C h 1 rfl hi8 dX9_laneOf_33 ?_
        refine lv_goto (tgt := 38) hx hb dX9_laneOf_34 rfl ?_
        cases hf
        exact r_iret C h hr hlk rfl dX9_laneOf_38
      · replace hf := ifp c7 hf
        refine lv_bipush (v := (23 : Int32)) hx hb dX9_laneOf_24 rfl ?_
        refine lv_goto (tgt := 31) hx hb dX9_laneOf_26 rfl ?_
        refine lv_iload_n hx hb dX9_laneOf_31 rfl (lv_at hl 1 rfl) ?_
        refine lv_iadd hx hb dX9_laneOf_32 ?_
        replace hf := chkI_inv hf
        obtain ⟨hi9, hf⟩ := hf
        refine r_iald C h 1 rfl hi9 dX9_laneOf_33 ?_
        refine lv_goto (tgt := 38) hx hb dX9_laneOf_34 rfl ?_
        cases hf
        exact r_iret C h hr hlk rfl dX9_laneOf_38
