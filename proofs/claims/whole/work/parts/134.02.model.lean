set_option maxRecDepth 100000 in
set_option maxHeartbeats 4000000 in
theorem c_X9_sheet {l : Launch} {G : Gt} {h_this h_this_s h_this_kept h_this_laid h_this_pile h_this_tape h_this_letters h_this_code0 h_this_read h_this_saved h_this_plan h_this_bestPlan h_this_offThen h_this_paidThen h_this_rows h_this_sorts h_this_sizes h_this_number h_this_holds h_this_heldOne h_this_trace : Nat} {p0 : Int32} {p1 : Int32} {p2 : Int32} {x_this_isKept : Int32} {x_this_taped : Int32} {x_this_at : Int32} {x_this_begun : Int32} {x_this_token : Int32} {x_this_value : Int32} {x_this_opened : Int32} {x_this_steps : Int32} {x_this_most : Int32} {x_this_many : Int32} {x_this_few : Int32} {x_this_everHome : Int32} {x_this_firstFit : Int32} {x_this_rowMany : Int32} {x_this_traced : Int32} {x_this_own : Int32} {x_this_isParted : Int32} {f_this_number : Nat → Int32} {f_this_sizes : Nat → Int32} {f_this_sorts : Nat → Int32} {r : Int32} {m_this_number : Nat → Int32} {m_this_sizes : Nat → Int32} {m_this_sorts : Nat → Int32} (hf : f_X9_sheet p0 p1 p2 f_this_number f_this_sizes f_this_sorts = some (r, m_this_number, m_this_sizes, m_this_sorts)) : mFi l G yX9_sheet cX9_sheet 5 .int 2 [.ref h_this, .int p0, .int p1, .int p2] [(h_this, ob 9 [.ref h_this_s, .ref h_this_kept, .ref h_this_laid, .int x_this_isKept, .ref h_this_pile, .ref h_this_tape, .int x_this_taped, .ref h_this_letters, .int x_this_at, .int x_this_begun, .int x_this_token, .int x_this_value, .int x_this_opened, .int x_this_steps, .ref h_this_code0, .ref h_this_read, .ref h_this_saved, .ref h_this_plan, .ref h_this_bestPlan, .int x_this_most, .int x_this_many, .int x_this_few, .int x_this_everHome, .ref h_this_offThen, .ref h_this_paidThen, .int x_this_firstFit, .ref h_this_rows, .int x_this_rowMany, .ref h_this_sorts, .ref h_this_sizes, .ref h_this_number, .ref h_this_holds, .ref h_this_heldOne, .ref h_this_trace, .int x_this_traced, .int x_this_own, .int x_this_isParted]), (h_this_number, ia G 160 f_this_number), (h_this_sizes, ia G 4 f_this_sizes), (h_this_sorts, ia G 4 f_this_sorts)] r [(h_this, ob 9 [.ref h_this_s, .ref h_this_kept, .ref h_this_laid, .int x_this_isKept, .ref h_this_pile, .ref h_this_tape, .int x_this_taped, .ref h_this_letters, .int x_this_at, .int x_this_begun, .int x_this_token, .int x_this_value, .int x_this_opened, .int x_this_steps, .ref h_this_code0, .ref h_this_read, .ref h_this_saved, .ref h_this_plan, .ref h_this_bestPlan, .int x_this_most, .int x_this_many, .int x_this_few, .int x_this_everHome, .ref h_this_offThen, .ref h_this_paidThen, .int x_this_firstFit, .ref h_this_rows, .int x_this_rowMany, .ref h_this_sorts, .ref h_this_sizes, .ref h_this_number, .ref h_this_holds, .ref h_this_heldOne, .ref h_this_trace, .int x_this_traced, .int x_this_own, .int x_this_isParted]), (h_this_number, ia G 160 m_this_number), (h_this_sizes, ia G 4 m_this_sizes), (h_this_sorts, ia G 4 m_this_sorts)] := by
  refine mFi.of (by decide +kernel) (Nat.le_of_ble_eq_true rfl) ?_
  intro p e s m below meth c A C hr hlk h ls hl
  obtain ⟨hx, hb, hml, hown, hts⟩ := id C
  replace hl : lv_has ls 5 [(0, .ref h_this), (1, .int p0), (2, .int p1), (3, .int p2)] := hl
  unfold f_X9_sheet at hf
  refine with_K G A 5 (fun K hK1 hK2 => ?_)
  have L64 : ∀ (n : Nat) (v4 : Int32) (g_this_number : Nat → Int32) (g_this_sizes : Nat → Int32) (g_this_sorts : Nat → Int32), f_X9_sheet_L64 p0 n v4 g_this_number g_this_sizes g_this_sorts = some (r, m_this_number, m_this_sizes, m_this_sorts) → K 64 ([] : List Value) [(h_this, ob 9 [.ref h_this_s, .ref h_this_kept, .ref h_this_laid, .int x_this_isKept, .ref h_this_pile, .ref h_this_tape, .int x_this_taped, .ref h_this_letters, .int x_this_at, .int x_this_begun, .int x_this_token, .int x_this_value, .int x_this_opened, .int x_this_steps, .ref h_this_code0, .ref h_this_read, .ref h_this_saved, .ref h_this_plan, .ref h_this_bestPlan, .int x_this_most, .int x_this_many, .int x_this_few, .int x_this_everHome, .ref h_this_offThen, .ref h_this_paidThen, .int x_this_firstFit, .ref h_this_rows, .int x_this_rowMany, .ref h_this_sorts, .ref h_this_sizes, .ref h_this_number, .ref h_this_holds, .ref h_this_heldOne, .ref h_this_trace, .int x_this_traced, .int x_this_own, .int x_this_isParted]), (h_this_number, ia G 160 g_this_number), (h_this_sizes, ia G 4 g_this_sizes), (h_this_sorts, ia G 4 g_this_sorts)] [(0, .ref h_this), (1, .int p0), (4, .int v4)] := by
    intro n
    induction n with
    | zero =>
      intro v4 g_this_number g_this_sizes g_this_sorts hf
      replace hf : (none : Option _) = some _ := hf
      cases hf
    | succ n ih =>
      intro v4 g_this_number g_this_sizes g_this_sorts hf
      rw [f_X9_sheet_L64] at hf
      refine hK1 _ _ _ _ (fun H locs ls h hl => ?_)
      refine lv_iload hx hb dX9_sheet_64 (lv_at hl 2 rfl) ?_
      refine lv_bipush (v := (40 : Int32)) hx hb dX9_sheet_66 rfl ?_
      refine lv_icmp_ge (tgt := 90) hx hb dX9_sheet_68 rfl (fun c12 => ?_) (fun c12 => ?_)
      · replace hf := ifp c12 hf
        refine lv_iconst (v := (1 : Int32)) hx hb dX9_sheet_90 rfl ?_
        clear ih hK2 hK1
        cases hf
        exact r_iret C h hr hlk rfl dX9_sheet_91
      · replace hf := ifn c12 hf
        refine lv_aload_n hx hb dX9_sheet_71 rfl (lv_at hl 0 rfl) ?_
        refine r_get C h fk_X9_59 0 rfl rfl dX9_sheet_72 ?_
        refine lv_bipush (v := (40 : Int32)) hx hb dX9_sheet_75 rfl ?_
        refine lv_iload_n hx hb dX9_sheet_77 rfl (lv_at hl 1 rfl) ?_
        refine lv_imul hx hb dX9_sheet_78 ?_
        refine lv_iload hx hb dX9_sheet_79 (lv_at hl 2 rfl) ?_
        refine lv_iadd hx hb dX9_sheet_81 ?_
        refine lv_iconst (v := (0 : Int32)) hx hb dX9_sheet_82 rfl ?_
        replace hf := chkI_inv hf
        obtain ⟨hi13, hf⟩ := hf
        refine r_iast (ws' := [(h_this, ob 9 [.ref h_this_s, .ref h_this_kept, .ref h_this_laid, .int x_this_isKept, .ref h_this_pile, .ref h_this_tape, .int x_this_taped, .ref h_this_letters, .int x_this_at, .int x_this_begun, .int x_this_token, .int x_this_value, .int x_this_opened, .int x_this_steps, .ref h_this_code0, .ref h_this_read, .ref h_this_saved, .ref h_this_plan, .ref h_this_bestPlan, .int x_this_most, .int x_this_many, .int x_this_few, .int x_this_everHome, .ref h_this_offThen, .ref h_this_paidThen, .int x_this_firstFit, .ref h_this_rows, .int x_this_rowMany, .ref h_this_sorts, .ref h_this_sizes, .ref h_this_number, .ref h_this_holds, .ref h_this_heldOne, .ref h_this_trace, .int x_this_traced, .int x_this_own, .int x_this_isParted]), (h_this_number, ia G 160 (upd g_this_number (((40 : Int32) * p0) + v4).toNatClampNeg (0 : Int32))), (h_this_sizes, ia G 4 g_this_sizes), (h_this_sorts, ia G 4 g_this_sorts)]) C h 1 rfl hi13 dX9_sheet_83 rfl (fun H locs h => ?_)
        obtain ⟨t14, et14⟩ : ∃ y : Int32, y = v4 + (1 : Int32) := ⟨_, rfl⟩
        replace hf := lt1_inv et14 hf
        refine lv_iinc (v := t14) (lv' := [(4, .int t14), (0, .ref h_this), (1, .int p0)]) hx hb dX9_sheet_84 hl (k := 2) rfl (by rw [et14]; rfl) (by decide) rfl (fun ls hl => ?_)
        refine lv_goto (tgt := 64) hx hb dX9_sheet_87 rfl ?_
        exact hK2 _ _ _ _ (ih t14 (upd g_this_number (((40 : Int32) * p0) + v4).toNatClampNeg (0 : Int32)) g_this_sizes g_this_sorts hf) _ _ _ h (lv_sub hl [1, 2, 0] rfl)
  have B60 : ∀ (s1 : Int32) (s2 : Int32) (g_this_sorts : Nat → Int32), f_X9_sheet_b60 p0 f_this_number f_this_sizes s1 s2 g_this_sorts = some (r, m_this_number, m_this_sizes, m_this_sorts) → K 60 [.int s2, .int s1, .ref h_this_sizes] [(h_this, ob 9 [.ref h_this_s, .ref h_this_kept, .ref h_this_laid, .int x_this_isKept, .ref h_this_pile, .ref h_this_tape, .int x_this_taped, .ref h_this_letters, .int x_this_at, .int x_this_begun, .int x_this_token, .int x_this_value, .int x_this_opened, .int x_this_steps, .ref h_this_code0, .ref h_this_read, .ref h_this_saved, .ref h_this_plan, .ref h_this_bestPlan, .int x_this_most, .int x_this_many, .int x_this_few, .int x_this_everHome, .ref h_this_offThen, .ref h_this_paidThen, .int x_this_firstFit, .ref h_this_rows, .int x_this_rowMany, .ref h_this_sorts, .ref h_this_sizes, .ref h_this_number, .ref h_this_holds, .ref h_this_heldOne, .ref h_this_trace, .int x_this_traced, .int x_this_own, .int x_this_isParted]), (h_this_number, ia G 160 f_this_number), (h_this_sizes, ia G 4 f_this_sizes), (h_this_sorts, ia G 4 g_this_sorts)] [(0, .ref h_this), (1, .int p0)] := by
    intro s1 s2 g_this_sorts hf
    unfold f_X9_sheet_b60 at hf
    refine hK1 _ _ _ _ (fun H locs ls h hl => ?_)
    replace hf := chkI_inv hf
    obtain ⟨hi11, hf⟩ := hf
    refine r_iast (ws' := [(h_this, ob 9 [.ref h_this_s, .ref h_this_kept, .ref h_this_laid, .int x_this_isKept, .ref h_this_pile, .ref h_this_tape, .int x_this_taped, .ref h_this_letters, .int x_this_at, .int x_this_begun, .int x_this_token, .int x_this_value, .int x_this_opened, .int x_this_steps, .ref h_this_code0, .ref h_this_read, .ref h_this_saved, .ref h_this_plan, .ref h_this_bestPlan, .int x_this_most, .int x_this_many, .int x_this_few, .int x_this_everHome, .ref h_this_offThen, .ref h_this_paidThen, .int x_this_firstFit, .ref h_this_rows, .int x_this_rowMany, .ref h_this_sorts, .ref h_this_sizes, .ref h_this_number, .ref h_this_holds, .ref h_this_heldOne, .ref h_this_trace, .int x_this_traced, .int x_this_own, .int x_this_isParted]), (h_this_number, ia G 160 f_this_number), (h_this_sizes, ia G 4 (upd f_this_sizes s1.toNatClampNeg s2)), (h_this_sorts, ia G 4 g_this_sorts)]) C h 2 rfl hi11 dX9_sheet_60 rfl (fun H locs h => ?_)
    refine lv_iconst (v := (0 : Int32)) hx hb dX9_sheet_61 rfl ?_
    refine lv_istore (lv' := [(4, .int (0 : Int32)), (0, .ref h_this), (1, .int p0)]) hx hb dX9_sheet_62 hl (by decide) rfl (fun ls hl => ?_)
    exact hK2 _ _ _ _ (L64 1000 (0 : Int32) f_this_number (upd f_this_sizes s1.toNatClampNeg s2) g_this_sorts hf) _ _ _ h (lv_sub hl [1, 2, 0] rfl)
  have B39 : f_X9_sheet_b39 p0 p1 p2 f_this_number f_this_sizes f_this_sorts = some (r, m_this_number, m_this_sizes, m_this_sorts) → K 39 ([] : List Value) [(h_this, ob 9 [.ref h_this_s, .ref h_this_kept, .ref h_this_laid, .int x_this_isKept, .ref h_this_pile, .ref h_this_tape, .int x_this_taped, .ref h_this_letters, .int x_this_at, .int x_this_begun, .int x_this_token, .int x_this_value, .int x_this_opened, .int x_this_steps, .ref h_this_code0, .ref h_this_read, .ref h_this_saved, .ref h_this_plan, .ref h_this_bestPlan, .int x_this_most, .int x_this_many, .int x_this_few, .int x_this_everHome, .ref h_this_offThen, .ref h_this_paidThen, .int x_this_firstFit, .ref h_this_rows, .int x_this_rowMany, .ref h_this_sorts, .ref h_this_sizes, .ref h_this_number, .ref h_this_holds, .ref h_this_heldOne, .ref h_this_trace, .int x_this_traced, .int x_this_own, .int x_this_isParted]), (h_this_number, ia G 160 f_this_number), (h_this_sizes, ia G 4 f_this_sizes), (h_this_sorts, ia G 4 f_this_sorts)] [(0, .ref h_this), (1, .int p0), (2, .int p1), (3, .int p2)] := by
    intro hf
    unfold f_X9_sheet_b39 at hf
    refine hK1 _ _ _ _ (fun H locs ls h hl => ?_)
    refine lv_aload_n hx hb dX9_sheet_39 rfl (lv_at hl 0 rfl) ?_
    refine r_get C h fk_X9_53 0 rfl rfl dX9_sheet_40 ?_
    refine lv_iload_n hx hb dX9_sheet_43 rfl (lv_at hl 1 rfl) ?_
    refine lv_iload_n hx hb dX9_sheet_44 rfl (lv_at hl 2 rfl) ?_
    replace hf := chkI_inv hf
    obtain ⟨hi9, hf⟩ := hf
    refine r_iast (ws' := [(h_this, ob 9 [.ref h_this_s, .ref h_this_kept, .ref h_this_laid, .int x_this_isKept, .ref h_this_pile, .ref h_this_tape, .int x_this_taped, .ref h_this_letters, .int x_this_at, .int x_this_begun, .int x_this_token, .int x_this_value, .int x_this_opened, .int x_this_steps, .ref h_this_code0, .ref h_this_read, .ref h_this_saved, .ref h_this_plan, .ref h_this_bestPlan, .int x_this_most, .int x_this_many, .int x_this_few, .int x_this_everHome, .ref h_this_offThen, .ref h_this_paidThen, .int x_this_firstFit, .ref h_this_rows, .int x_this_rowMany, .ref h_this_sorts, .ref h_this_sizes, .ref h_this_number, .ref h_this_holds, .ref h_this_heldOne, .ref h_this_trace, .int x_this_traced, .int x_this_own, .int x_this_isParted]), (h_this_number, ia G 160 f_this_number), (h_this_sizes, ia G 4 f_this_sizes), (h_this_sorts, ia G 4 (upd f_this_sorts p0.toNatClampNeg p1))]) C h 3 rfl hi9 dX9_sheet_45 rfl (fun H locs h => ?_)
    refine lv_aload_n hx hb dX9_sheet_46 rfl (lv_at hl 0 rfl) ?_
    refine r_get C h fk_X9_56 0 rfl rfl dX9_sheet_47 ?_
    refine lv_iload_n hx hb dX9_sheet_50 rfl (lv_at hl 1 rfl) ?_
    refine lv_iload_n hx hb dX9_sheet_51 rfl (lv_at hl 2 rfl) ?_
    refine lv_if_ge (tgt := 59) hx hb dX9_sheet_52 rfl (fun c10 => ?_) (fun c10 => ?_)
    · replace hf := ifp c10 hf
      refine lv_iload_n hx hb dX9_sheet_59 rfl (lv_at hl 3 rfl) ?_
      exact hK2 _ _ _ _ (B60 p0 p2 (upd f_this_sorts p0.toNatClampNeg p1) hf) _ _ _ h (lv_sub hl [0, 1] rfl)
    · replace hf := ifn c10 hf
      refine lv_iconst (v := (0 : Int32)) hx hb dX9_sheet_55 rfl ?_
      refine lv_goto (tgt := 60) hx hb dX9_sheet_56 rfl ?_
      exact hK2 _ _ _ _ (B60 p0 (0 : Int32) (upd f_this_sorts p0.toNatClampNeg p1) hf) _ _ _ h (lv_sub hl [0, 1] rfl)
  have B28 : f_X9_sheet_b28 p0 p1 p2 f_this_number f_this_sizes f_this_sorts = some (r, m_this_number, m_this_sizes, m_this_sorts) → K 28 ([] : List Value) [(h_this, ob 9 [.ref h_this_s, .ref h_this_kept, .ref h_this_laid, .int x_this_isKept, .ref h_this_pile, .ref h_this_tape, .int x_this_taped, .ref h_this_letters, .int x_this_at, .int x_this_begun, .int x_this_token, .int x_this_value, .int x_this_opened, .int x_this_steps, .ref h_this_code0, .ref h_this_read, .ref h_this_saved, .ref h_this_plan, .ref h_this_bestPlan, .int x_this_most, .int x_this_many, .int x_this_few, .int x_this_everHome, .ref h_this_offThen, .ref h_this_paidThen, .int x_this_firstFit, .ref h_this_rows, .int x_this_rowMany, .ref h_this_sorts, .ref h_this_sizes, .ref h_this_number, .ref h_this_holds, .ref h_this_heldOne, .ref h_this_trace, .int x_this_traced, .int x_this_own, .int x_this_isParted]), (h_this_number, ia G 160 f_this_number), (h_this_sizes, ia G 4 f_this_sizes), (h_this_sorts, ia G 4 f_this_sorts)] [(0, .ref h_this), (1, .int p0), (2, .int p1), (3, .int p2)] := by
    intro hf
    unfold f_X9_sheet_b28 at hf
    refine hK1 _ _ _ _ (fun H locs ls h hl => ?_)
    refine lv_iload_n hx hb dX9_sheet_28 rfl (lv_at hl 2 rfl) ?_
    refine lv_if_lt (tgt := 39) hx hb dX9_sheet_29 rfl (fun c8 => ?_) (fun c8 => ?_)
    · replace hf := ifp c8 hf
      exact hK2 _ _ _ _ (B39 hf) _ _ _ h (lv_sub hl [0, 1, 2, 3] rfl)
    · replace hf := ifn c8 hf
      refine lv_iload_n hx hb dX9_sheet_32 rfl (lv_at hl 3 rfl) ?_
      refine lv_if_ge (tgt := 39) hx hb dX9_sheet_33 rfl (fun c15 => ?_) (fun c15 => ?_)
      · replace hf := ifp c15 hf
        exact hK2 _ _ _ _ (B39 hf) _ _ _ h (lv_sub hl [0, 1, 2, 3] rfl)
      · replace hf := ifn c15 hf
        refine lv_bipush (v := (-14 : Int32)) hx hb dX9_sheet_36 rfl ?_
        clear B39 B60 L64 hK2 hK1
        cases hf
        exact r_iret C h hr hlk rfl dX9_sheet_38
  refine lv_iload_n hx hb dX9_sheet_0 rfl (lv_at hl 1 rfl) ?_
  replace hf := bd1_inv hf
  obtain ⟨r1, hc2, hf⟩ := hf
  refine r_ciS0 C h (c_X9_isSheet hc2) ms_X9_329 rfl [] rfl rfl hl.1 rfl (Nat.le_of_ble_eq_true rfl) (rok (by decide)) dX9_sheet_1 (fun H locs h => ?_)
  refine lv_if_eq (tgt := 26) hx hb dX9_sheet_4 rfl (fun c3 => ?_) (fun c3 => ?_)
  · replace hf := ifp c3 hf
    refine lv_iconst (v := (-1 : Int32)) hx hb dX9_sheet_26 rfl ?_
    clear B28 B39 B60 L64 hK2 hK1
    cases hf
    exact r_iret C h hr hlk rfl dX9_sheet_27
  · replace hf := ifn c3 hf
    refine lv_iload_n hx hb dX9_sheet_7 rfl (lv_at hl 2 rfl) ?_
    refine lv_iconst (v := (-1 : Int32)) hx hb dX9_sheet_8 rfl ?_
    refine lv_iconst (v := (4 : Int32)) hx hb dX9_sheet_9 rfl ?_
    replace hf := bd1_inv hf
    obtain ⟨r4, hc5, hf⟩ := hf
    refine r_ciS0 C h (c_X9_in1 hc5) ms_X9_71 rfl [] rfl rfl hl.1 rfl (Nat.le_of_ble_eq_true rfl) (rok (by decide)) dX9_sheet_10 (fun H locs h => ?_)
    refine lv_if_eq (tgt := 26) hx hb dX9_sheet_13 rfl (fun c6 => ?_) (fun c6 => ?_)
    · replace hf := ifp c6 hf
      refine lv_iconst (v := (-1 : Int32)) hx hb dX9_sheet_26 rfl ?_
      clear B28 B39 B60 L64 hK2 hK1
      cases hf
      exact r_iret C h hr hlk rfl dX9_sheet_27
    · replace hf := ifn c6 hf
      refine lv_iload_n hx hb dX9_sheet_16 rfl (lv_at hl 2 rfl) ?_
      refine lv_if_lt (tgt := 28) hx hb dX9_sheet_17 rfl (fun c7 => ?_) (fun c7 => ?_)
      · replace hf := ifp c7 hf
        exact hK2 _ _ _ _ (B28 hf) _ _ _ h (lv_sub hl [0, 1, 2, 3] rfl)
      · replace hf := ifn c7 hf
        refine lv_iload_n hx hb dX9_sheet_20 rfl (lv_at hl 3 rfl) ?_
        refine lv_bipush (v := (40 : Int32)) hx hb dX9_sheet_21 rfl ?_
        refine lv_icmp_le (tgt := 28) hx hb dX9_sheet_23 rfl (fun c16 => ?_) (fun c16 => ?_)
        · replace hf := ifp c16 hf
          exact hK2 _ _ _ _ (B28 hf) _ _ _ h (lv_sub hl [0, 1, 2, 3] rfl)
        · replace hf := ifn c16 hf
          refine lv_iconst (v := (-1 : Int32)) hx hb dX9_sheet_26 rfl ?_
          clear B28 B39 B60 L64 hK2 hK1
          cases hf
          exact r_iret C h hr hlk rfl dX9_sheet_27
