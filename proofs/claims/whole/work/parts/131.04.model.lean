set_option maxRecDepth 100000 in
set_option maxHeartbeats 4000000 in
theorem c_X9_bars {l : Launch} {G : Gt} {h_this h_this_s h_this_kept h_this_laid h_this_pile h_this_tape h_this_letters h_this_code0 h_this_read h_this_saved h_this_plan h_this_bestPlan h_this_offThen h_this_paidThen h_this_rows h_this_sorts h_this_sizes h_this_number h_this_holds h_this_heldOne h_this_trace : Nat} {p0 : Int32} {p1 : Int32} {x_this_isKept : Int32} {x_this_taped : Int32} {x_this_at : Int32} {x_this_begun : Int32} {x_this_token : Int32} {x_this_value : Int32} {x_this_opened : Int32} {x_this_steps : Int32} {x_this_most : Int32} {x_this_many : Int32} {x_this_few : Int32} {x_this_everHome : Int32} {x_this_firstFit : Int32} {x_this_rowMany : Int32} {x_this_traced : Int32} {x_this_own : Int32} {x_this_isParted : Int32} {f_this_bestPlan : Nat → Int32} {f_this_pile : Nat → Int32} {f_this_plan : Nat → Int32} {f_this_s : Nat → Int32} {f_this_saved : Nat → Int32} {r : Int32} {m_this_most : Int32} {m_this_many : Int32} {m_this_few : Int32} {m_this_everHome : Int32} {m_this_bestPlan : Nat → Int32} {m_this_pile : Nat → Int32} {m_this_plan : Nat → Int32} {m_this_s : Nat → Int32} {m_this_saved : Nat → Int32} (hf : f_X9_bars p0 p1 x_this_most x_this_many x_this_few x_this_everHome f_this_bestPlan f_this_pile f_this_plan f_this_s f_this_saved = some (r, m_this_most, m_this_many, m_this_few, m_this_everHome, m_this_bestPlan, m_this_pile, m_this_plan, m_this_s, m_this_saved)) : mFi l G yX9_bars cX9_bars 5 .int 44 [.ref h_this, .int p0, .int p1] [(h_this, ob 9 [.ref h_this_s, .ref h_this_kept, .ref h_this_laid, .int x_this_isKept, .ref h_this_pile, .ref h_this_tape, .int x_this_taped, .ref h_this_letters, .int x_this_at, .int x_this_begun, .int x_this_token, .int x_this_value, .int x_this_opened, .int x_this_steps, .ref h_this_code0, .ref h_this_read, .ref h_this_saved, .ref h_this_plan, .ref h_this_bestPlan, .int x_this_most, .int x_this_many, .int x_this_few, .int x_this_everHome, .ref h_this_offThen, .ref h_this_paidThen, .int x_this_firstFit, .ref h_this_rows, .int x_this_rowMany, .ref h_this_sorts, .ref h_this_sizes, .ref h_this_number, .ref h_this_holds, .ref h_this_heldOne, .ref h_this_trace, .int x_this_traced, .int x_this_own, .int x_this_isParted]), (h_this_bestPlan, ia G 4 f_this_bestPlan), (h_this_pile, ia G 200 f_this_pile), (h_this_plan, ia G 4 f_this_plan), (h_this_s, ia G 313 f_this_s), (h_this_saved, ia G 325 f_this_saved)] r [(h_this, ob 9 [.ref h_this_s, .ref h_this_kept, .ref h_this_laid, .int x_this_isKept, .ref h_this_pile, .ref h_this_tape, .int x_this_taped, .ref h_this_letters, .int x_this_at, .int x_this_begun, .int x_this_token, .int x_this_value, .int x_this_opened, .int x_this_steps, .ref h_this_code0, .ref h_this_read, .ref h_this_saved, .ref h_this_plan, .ref h_this_bestPlan, .int m_this_most, .int m_this_many, .int m_this_few, .int m_this_everHome, .ref h_this_offThen, .ref h_this_paidThen, .int x_this_firstFit, .ref h_this_rows, .int x_this_rowMany, .ref h_this_sorts, .ref h_this_sizes, .ref h_this_number, .ref h_this_holds, .ref h_this_heldOne, .ref h_this_trace, .int x_this_traced, .int x_this_own, .int x_this_isParted]), (h_this_bestPlan, ia G 4 m_this_bestPlan), (h_this_pile, ia G 200 m_this_pile), (h_this_plan, ia G 4 m_this_plan), (h_this_s, ia G 313 m_this_s), (h_this_saved, ia G 325 m_this_saved)] := by
  refine mFi.of (by decide +kernel) (Nat.le_of_ble_eq_true rfl) ?_
  intro p e s m below meth c A C hr hlk h ls hl
  obtain ⟨hx, hb, hml, hown, hts⟩ := id C
  replace hl : lv_has ls 5 [(0, .ref h_this), (1, .int p0), (2, .int p1)] := hl
  unfold f_X9_bars at hf
  refine with_K G A 5 (fun K hK1 hK2 => ?_)
  have B61 : ∀ (v4 : Int32) (y_this_most : Int32) (y_this_many : Int32) (y_this_few : Int32) (y_this_everHome : Int32) (g_this_bestPlan : Nat → Int32) (g_this_pile : Nat → Int32) (g_this_plan : Nat → Int32) (g_this_s : Nat → Int32) (g_this_saved : Nat → Int32), f_X9_bars_b61 v4 y_this_most y_this_many y_this_few y_this_everHome g_this_bestPlan g_this_pile g_this_plan g_this_s g_this_saved = some (r, m_this_most, m_this_many, m_this_few, m_this_everHome, m_this_bestPlan, m_this_pile, m_this_plan, m_this_s, m_this_saved) → K 61 ([] : List Value) [(h_this, ob 9 [.ref h_this_s, .ref h_this_kept, .ref h_this_laid, .int x_this_isKept, .ref h_this_pile, .ref h_this_tape, .int x_this_taped, .ref h_this_letters, .int x_this_at, .int x_this_begun, .int x_this_token, .int x_this_value, .int x_this_opened, .int x_this_steps, .ref h_this_code0, .ref h_this_read, .ref h_this_saved, .ref h_this_plan, .ref h_this_bestPlan, .int y_this_most, .int y_this_many, .int y_this_few, .int y_this_everHome, .ref h_this_offThen, .ref h_this_paidThen, .int x_this_firstFit, .ref h_this_rows, .int x_this_rowMany, .ref h_this_sorts, .ref h_this_sizes, .ref h_this_number, .ref h_this_holds, .ref h_this_heldOne, .ref h_this_trace, .int x_this_traced, .int x_this_own, .int x_this_isParted]), (h_this_bestPlan, ia G 4 g_this_bestPlan), (h_this_pile, ia G 200 g_this_pile), (h_this_plan, ia G 4 g_this_plan), (h_this_s, ia G 313 g_this_s), (h_this_saved, ia G 325 g_this_saved)] [(0, .ref h_this), (4, .int v4)] := by
    intro v4 y_this_most y_this_many y_this_few y_this_everHome g_this_bestPlan g_this_pile g_this_plan g_this_s g_this_saved hf
    unfold f_X9_bars_b61 at hf
    refine hK1 _ _ _ _ (fun H locs ls h hl => ?_)
    refine lv_iload hx hb dX9_bars_61 (lv_at hl 1 rfl) ?_
    refine lv_aload_n hx hb dX9_bars_63 rfl (lv_at hl 0 rfl) ?_
    refine r_get C h fk_X9_9 0 rfl rfl dX9_bars_64 ?_
    refine lv_iconst (v := (4 : Int32)) hx hb dX9_bars_67 rfl ?_
    refine r_ialdL C h 4 rfl (vlit rfl) 4 rfl dX9_bars_68 ?_
    refine lv_icmp_ge (tgt := 77) hx hb dX9_bars_69 rfl (fun c19 => ?_) (fun c19 => ?_)
    · replace hf := ifp c19 hf
      refine lv_bipush (v := (-3 : Int32)) hx hb dX9_bars_77 rfl ?_
      obtain ⟨rfl, rfl, rfl, rfl, rfl, rfl, rfl, rfl, rfl, rfl⟩ := sm10 hf
      exact r_iret C h hr hlk rfl dX9_bars_79
    · replace hf := ifn c19 hf
      refine lv_iload hx hb dX9_bars_72 (lv_at hl 1 rfl) ?_
      refine lv_goto (tgt := 79) hx hb dX9_bars_74 rfl ?_
      obtain ⟨rfl, rfl, rfl, rfl, rfl, rfl, rfl, rfl, rfl, rfl⟩ := sm10 hf
      exact r_iret C h hr hlk rfl dX9_bars_79
  have L35 : ∀ (n : Nat) (v3 : Int32) (v4 : Int32) (y_this_most : Int32) (y_this_many : Int32) (y_this_few : Int32) (y_this_everHome : Int32) (g_this_bestPlan : Nat → Int32) (g_this_pile : Nat → Int32) (g_this_plan : Nat → Int32) (g_this_s : Nat → Int32) (g_this_saved : Nat → Int32), f_X9_bars_L35 n v3 v4 y_this_most y_this_many y_this_few y_this_everHome g_this_bestPlan g_this_pile g_this_plan g_this_s g_this_saved = some (r, m_this_most, m_this_many, m_this_few, m_this_everHome, m_this_bestPlan, m_this_pile, m_this_plan, m_this_s, m_this_saved) → K 35 ([] : List Value) [(h_this, ob 9 [.ref h_this_s, .ref h_this_kept, .ref h_this_laid, .int x_this_isKept, .ref h_this_pile, .ref h_this_tape, .int x_this_taped, .ref h_this_letters, .int x_this_at, .int x_this_begun, .int x_this_token, .int x_this_value, .int x_this_opened, .int x_this_steps, .ref h_this_code0, .ref h_this_read, .ref h_this_saved, .ref h_this_plan, .ref h_this_bestPlan, .int y_this_most, .int y_this_many, .int y_this_few, .int y_this_everHome, .ref h_this_offThen, .ref h_this_paidThen, .int x_this_firstFit, .ref h_this_rows, .int x_this_rowMany, .ref h_this_sorts, .ref h_this_sizes, .ref h_this_number, .ref h_this_holds, .ref h_this_heldOne, .ref h_this_trace, .int x_this_traced, .int x_this_own, .int x_this_isParted]), (h_this_bestPlan, ia G 4 g_this_bestPlan), (h_this_pile, ia G 200 g_this_pile), (h_this_plan, ia G 4 g_this_plan), (h_this_s, ia G 313 g_this_s), (h_this_saved, ia G 325 g_this_saved)] [(0, .ref h_this), (3, .int v3), (4, .int v4)] := by
    intro n
    induction n with
    | zero =>
      intro v3 v4 y_this_most y_this_many y_this_few y_this_everHome g_this_bestPlan g_this_pile g_this_plan g_this_s g_this_saved hf
      replace hf : (none : Option _) = some _ := hf
      cases hf
    | succ n ih =>
      intro v3 v4 y_this_most y_this_many y_this_few y_this_everHome g_this_bestPlan g_this_pile g_this_plan g_this_s g_this_saved hf
      rw [f_X9_bars_L35] at hf
      refine hK1 _ _ _ _ (fun H locs ls h hl => ?_)
      refine lv_iload hx hb dX9_bars_35 (lv_at hl 2 rfl) ?_
      refine lv_aload_n hx hb dX9_bars_37 rfl (lv_at hl 0 rfl) ?_
      refine r_get C h fk_X9_9 0 rfl rfl dX9_bars_38 ?_
      refine lv_iconst (v := (4 : Int32)) hx hb dX9_bars_41 rfl ?_
      refine r_ialdL C h 4 rfl (vlit rfl) 4 rfl dX9_bars_42 ?_
      refine lv_icmp_ge (tgt := 61) hx hb dX9_bars_43 rfl (fun c18 => ?_) (fun c18 => ?_)
      · replace hf := ifp c18 hf
        exact hK2 _ _ _ _ (B61 v4 y_this_most y_this_many y_this_few y_this_everHome g_this_bestPlan g_this_pile g_this_plan g_this_s g_this_saved hf) _ _ _ h (lv_sub hl [0, 2] rfl)
      · replace hf := ifn c18 hf
        refine lv_iload_n hx hb dX9_bars_46 rfl (lv_at hl 1 rfl) ?_
        refine lv_iload hx hb dX9_bars_47 (lv_at hl 2 rfl) ?_
        refine lv_ishr hx hb dX9_bars_49 ?_
        refine lv_iconst (v := (1 : Int32)) hx hb dX9_bars_50 rfl ?_
        refine lv_iand hx hb dX9_bars_51 ?_
        refine lv_if_ne (tgt := 61) hx hb dX9_bars_52 rfl (fun c20 => ?_) (fun c20 => ?_)
        · replace hf := ifn c20 hf
          exact hK2 _ _ _ _ (B61 v4 y_this_most y_this_many y_this_few y_this_everHome g_this_bestPlan g_this_pile g_this_plan g_this_s g_this_saved hf) _ _ _ h (lv_sub hl [0, 2] rfl)
        · replace hf := ifp c20 hf
          obtain ⟨t21, et21⟩ : ∃ y : Int32, y = v4 + (1 : Int32) := ⟨_, rfl⟩
          replace hf := lt1_inv et21 hf
          refine lv_iinc (v := t21) (lv' := [(4, .int t21), (0, .ref h_this), (3, .int v3)]) hx hb dX9_bars_55 hl (k := 2) rfl (by rw [et21]; rfl) (by decide) rfl (fun ls hl => ?_)
          refine lv_goto (tgt := 35) hx hb dX9_bars_58 rfl ?_
          exact hK2 _ _ _ _ (ih v3 t21 y_this_most y_this_many y_this_few y_this_everHome g_this_bestPlan g_this_pile g_this_plan g_this_s g_this_saved hf) _ _ _ h (lv_sub hl [1, 2, 0] rfl)
  refine lv_iload_n hx hb dX9_bars_0 rfl (lv_at hl 1 rfl) ?_
  replace hf := bd1_inv hf
  obtain ⟨r1, hc2, hf⟩ := hf
  refine r_ciS0 C h (c_X9_isPlan hc2) ms_X9_291 rfl [] rfl rfl hl.1 rfl (Nat.le_of_ble_eq_true rfl) (rok (by decide)) dX9_bars_1 (fun H locs h => ?_)
  refine lv_if_eq (tgt := 15) hx hb dX9_bars_4 rfl (fun c3 => ?_) (fun c3 => ?_)
  · replace hf := ifp c3 hf
    refine lv_iconst (v := (-1 : Int32)) hx hb dX9_bars_15 rfl ?_
    clear L35 B61 hK2 hK1
    obtain ⟨rfl, rfl, rfl, rfl, rfl, rfl, rfl, rfl, rfl, rfl⟩ := sm10 hf
    exact r_iret C h hr hlk rfl dX9_bars_16
  · replace hf := ifn c3 hf
    refine lv_aload_n hx hb dX9_bars_7 rfl (lv_at hl 0 rfl) ?_
    refine lv_iload_n hx hb dX9_bars_8 rfl (lv_at hl 2 rfl) ?_
    replace hf := bd1_inv hf
    obtain ⟨r4, hc5, hf⟩ := hf
    refine r_ciV0 C h (c_X9_isSet hc5) mv_X9_298 rfl 0 rfl [0, 4] rfl rfl hl.1 rfl (Nat.le_of_ble_eq_true rfl) (rok (by decide)) dX9_bars_9 (fun H locs h => ?_)
    refine lv_if_ne (tgt := 17) hx hb dX9_bars_12 rfl (fun c6 => ?_) (fun c6 => ?_)
    · replace hf := ifn c6 hf
      refine lv_aload_n hx hb dX9_bars_17 rfl (lv_at hl 0 rfl) ?_
      refine lv_iload_n hx hb dX9_bars_18 rfl (lv_at hl 1 rfl) ?_
      refine lv_iload_n hx hb dX9_bars_19 rfl (lv_at hl 2 rfl) ?_
      replace hf := bd9_inv hf
      obtain ⟨y7, y8, y9, y10, g11, g12, g13, g14, g15, hc16, hf⟩ := hf
      refine r_cvV (ws' := [(h_this, ob 9 [.ref h_this_s, .ref h_this_kept, .ref h_this_laid, .int x_this_isKept, .ref h_this_pile, .ref h_this_tape, .int x_this_taped, .ref h_this_letters, .int x_this_at, .int x_this_begun, .int x_this_token, .int x_this_value, .int x_this_opened, .int x_this_steps, .ref h_this_code0, .ref h_this_read, .ref h_this_saved, .ref h_this_plan, .ref h_this_bestPlan, .int y7, .int y8, .int y9, .int y10, .ref h_this_offThen, .ref h_this_paidThen, .int x_this_firstFit, .ref h_this_rows, .int x_this_rowMany, .ref h_this_sorts, .ref h_this_sizes, .ref h_this_number, .ref h_this_holds, .ref h_this_heldOne, .ref h_this_trace, .int x_this_traced, .int x_this_own, .int x_this_isParted]), (h_this_bestPlan, ia G 4 g11), (h_this_pile, ia G 200 g12), (h_this_plan, ia G 4 g13), (h_this_s, ia G 313 g14), (h_this_saved, ia G 325 g15)]) C h (c_X9_triesAll hc16) mv_X9_294 rfl 0 rfl [0, 1, 2, 3, 4, 5] rfl rfl [0, 1, 2, 3, 4, 5] [(h_this, ob 9 [.ref h_this_s, .ref h_this_kept, .ref h_this_laid, .int x_this_isKept, .ref h_this_pile, .ref h_this_tape, .int x_this_taped, .ref h_this_letters, .int x_this_at, .int x_this_begun, .int x_this_token, .int x_this_value, .int x_this_opened, .int x_this_steps, .ref h_this_code0, .ref h_this_read, .ref h_this_saved, .ref h_this_plan, .ref h_this_bestPlan, .int y7, .int y8, .int y9, .int y10, .ref h_this_offThen, .ref h_this_paidThen, .int x_this_firstFit, .ref h_this_rows, .int x_this_rowMany, .ref h_this_sorts, .ref h_this_sizes, .ref h_this_number, .ref h_this_holds, .ref h_this_heldOne, .ref h_this_trace, .int x_this_traced, .int x_this_own, .int x_this_isParted]), (h_this_bestPlan, ia G 4 g11), (h_this_pile, ia G 200 g12), (h_this_plan, ia G 4 g13), (h_this_s, ia G 313 g14), (h_this_saved, ia G 325 g15)] rfl rfl (by decide +kernel) rfl hl.1 rfl (Nat.le_of_ble_eq_true rfl) (rok (by decide)) dX9_bars_20 (fun H locs h => ?_)
      refine lv_iload_n hx hb dX9_bars_23 rfl (lv_at hl 2 rfl) ?_
      refine lv_aload_n hx hb dX9_bars_24 rfl (lv_at hl 0 rfl) ?_
      refine r_get C h fk_X9_271 0 rfl rfl dX9_bars_25 ?_
      refine lv_iconst (v := (-1 : Int32)) hx hb dX9_bars_28 rfl ?_
      refine lv_ixor hx hb dX9_bars_29 ?_
      refine lv_iand hx hb dX9_bars_30 ?_
      refine lv_topi (fun t17 et17 => ?_)
      replace hf := lt1_inv et17 hf
      refine lv_istore_n (lv' := [(3, .int t17), (0, .ref h_this), (1, .int p0), (2, .int p1)]) hx hb dX9_bars_31 rfl hl (by decide) rfl (fun ls hl => ?_)
      refine lv_iconst (v := (0 : Int32)) hx hb dX9_bars_32 rfl ?_
      refine lv_istore (lv' := [(4, .int (0 : Int32)), (3, .int t17), (0, .ref h_this), (1, .int p0), (2, .int p1)]) hx hb dX9_bars_33 hl (by decide) rfl (fun ls hl => ?_)
      exact hK2 _ _ _ _ (L35 1000 t17 (0 : Int32) y7 y8 y9 y10 g11 g12 g13 g14 g15 hf) _ _ _ h (lv_sub hl [2, 1, 0] rfl)
    · replace hf := ifp c6 hf
      refine lv_iconst (v := (-1 : Int32)) hx hb dX9_bars_15 rfl ?_
      clear L35 B61 hK2 hK1
      obtain ⟨rfl, rfl, rfl, rfl, rfl, rfl, rfl, rfl, rfl, rfl⟩ := sm10 hf
      exact r_iret C h hr hlk rfl dX9_bars_16
