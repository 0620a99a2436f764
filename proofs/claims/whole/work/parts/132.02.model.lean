set_option maxRecDepth 100000 in
set_option maxHeartbeats 4000000 in
theorem c_X9_tellsLone {l : Launch} {G : Gt} {h_this h_this_s h_this_kept h_this_laid h_this_pile h_this_tape h_this_letters h_this_code0 h_this_read h_this_saved h_this_plan h_this_bestPlan h_this_offThen h_this_paidThen h_this_rows h_this_sorts h_this_sizes h_this_number h_this_holds h_this_heldOne h_this_trace : Nat} {p0 : Int32} {p1 : Int32} {p2 : Int32} {x_this_isKept : Int32} {x_this_taped : Int32} {x_this_at : Int32} {x_this_begun : Int32} {x_this_token : Int32} {x_this_value : Int32} {x_this_opened : Int32} {x_this_steps : Int32} {x_this_most : Int32} {x_this_many : Int32} {x_this_few : Int32} {x_this_everHome : Int32} {x_this_firstFit : Int32} {x_this_rowMany : Int32} {x_this_traced : Int32} {x_this_own : Int32} {x_this_isParted : Int32} {f_this_offThen : Nat → Int32} {f_this_paidThen : Nat → Int32} {f_this_s : Nat → Int32} {m_this_offThen : Nat → Int32} {m_this_paidThen : Nat → Int32} (hf : f_X9_tellsLone p0 p1 p2 f_this_offThen f_this_paidThen f_this_s = some (m_this_offThen, m_this_paidThen)) : mFv l G yX9_tellsLone cX9_tellsLone 8 1 [.ref h_this, .int p0, .int p1, .int p2] [(h_this, ob 9 [.ref h_this_s, .ref h_this_kept, .ref h_this_laid, .int x_this_isKept, .ref h_this_pile, .ref h_this_tape, .int x_this_taped, .ref h_this_letters, .int x_this_at, .int x_this_begun, .int x_this_token, .int x_this_value, .int x_this_opened, .int x_this_steps, .ref h_this_code0, .ref h_this_read, .ref h_this_saved, .ref h_this_plan, .ref h_this_bestPlan, .int x_this_most, .int x_this_many, .int x_this_few, .int x_this_everHome, .ref h_this_offThen, .ref h_this_paidThen, .int x_this_firstFit, .ref h_this_rows, .int x_this_rowMany, .ref h_this_sorts, .ref h_this_sizes, .ref h_this_number, .ref h_this_holds, .ref h_this_heldOne, .ref h_this_trace, .int x_this_traced, .int x_this_own, .int x_this_isParted]), (h_this_offThen, ia G 16 f_this_offThen), (h_this_paidThen, ia G 16 f_this_paidThen), (h_this_s, ia G 313 f_this_s)] [(h_this, ob 9 [.ref h_this_s, .ref h_this_kept, .ref h_this_laid, .int x_this_isKept, .ref h_this_pile, .ref h_this_tape, .int x_this_taped, .ref h_this_letters, .int x_this_at, .int x_this_begun, .int x_this_token, .int x_this_value, .int x_this_opened, .int x_this_steps, .ref h_this_code0, .ref h_this_read, .ref h_this_saved, .ref h_this_plan, .ref h_this_bestPlan, .int x_this_most, .int x_this_many, .int x_this_few, .int x_this_everHome, .ref h_this_offThen, .ref h_this_paidThen, .int x_this_firstFit, .ref h_this_rows, .int x_this_rowMany, .ref h_this_sorts, .ref h_this_sizes, .ref h_this_number, .ref h_this_holds, .ref h_this_heldOne, .ref h_this_trace, .int x_this_traced, .int x_this_own, .int x_this_isParted]), (h_this_offThen, ia G 16 m_this_offThen), (h_this_paidThen, ia G 16 m_this_paidThen), (h_this_s, ia G 313 f_this_s)] := by
  refine mFv.of (by decide +kernel) (Nat.le_of_ble_eq_true rfl) ?_
  intro p e s m below meth c A C hr hlk h ls hl
  obtain ⟨hx, hb, hml, hown, hts⟩ := id C
  replace hl : lv_has ls 8 [(0, .ref h_this), (1, .int p0), (2, .int p1), (3, .int p2)] := hl
  unfold f_X9_tellsLone at hf
  refine with_K G A 8 (fun K hK1 hK2 => ?_)
  have B72 : ∀ (rec9 : Int32 → Int32 → Int32 → (Nat → Int32) → (Nat → Int32) → Option ((Nat → Int32) × (Nat → Int32))) (hrec9 : ∀ (v4 : Int32) (v5 : Int32) (v6 : Int32) (g_this_offThen : Nat → Int32) (g_this_paidThen : Nat → Int32), rec9 v4 v5 v6 g_this_offThen g_this_paidThen = some (m_this_offThen, m_this_paidThen) → K 9 ([] : List Value) [(h_this, ob 9 [.ref h_this_s, .ref h_this_kept, .ref h_this_laid, .int x_this_isKept, .ref h_this_pile, .ref h_this_tape, .int x_this_taped, .ref h_this_letters, .int x_this_at, .int x_this_begun, .int x_this_token, .int x_this_value, .int x_this_opened, .int x_this_steps, .ref h_this_code0, .ref h_this_read, .ref h_this_saved, .ref h_this_plan, .ref h_this_bestPlan, .int x_this_most, .int x_this_many, .int x_this_few, .int x_this_everHome, .ref h_this_offThen, .ref h_this_paidThen, .int x_this_firstFit, .ref h_this_rows, .int x_this_rowMany, .ref h_this_sorts, .ref h_this_sizes, .ref h_this_number, .ref h_this_holds, .ref h_this_heldOne, .ref h_this_trace, .int x_this_traced, .int x_this_own, .int x_this_isParted]), (h_this_offThen, ia G 16 g_this_offThen), (h_this_paidThen, ia G 16 g_this_paidThen), (h_this_s, ia G 313 f_this_s)] [(0, .ref h_this), (1, .int p0), (2, .int p1), (4, .int v4), (5, .int v5), (6, .int v6)]) (v4 : Int32) (v6 : Int32) (v7 : Int32) (s0 : Int32) (s1 : Int32) (g_this_offThen : Nat → Int32) (g_this_paidThen : Nat → Int32), f_X9_tellsLone_b72 rec9 p0 v4 v6 v7 s0 s1 g_this_offThen g_this_paidThen = some (m_this_offThen, m_this_paidThen) → K 72 [.int s1, .int s0] [(h_this, ob 9 [.ref h_this_s, .ref h_this_kept, .ref h_this_laid, .int x_this_isKept, .ref h_this_pile, .ref h_this_tape, .int x_this_taped, .ref h_this_letters, .int x_this_at, .int x_this_begun, .int x_this_token, .int x_this_value, .int x_this_opened, .int x_this_steps, .ref h_this_code0, .ref h_this_read, .ref h_this_saved, .ref h_this_plan, .ref h_this_bestPlan, .int x_this_most, .int x_this_many, .int x_this_few, .int x_this_everHome, .ref h_this_offThen, .ref h_this_paidThen, .int x_this_firstFit, .ref h_this_rows, .int x_this_rowMany, .ref h_this_sorts, .ref h_this_sizes, .ref h_this_number, .ref h_this_holds, .ref h_this_heldOne, .ref h_this_trace, .int x_this_traced, .int x_this_own, .int x_this_isParted]), (h_this_offThen, ia G 16 g_this_offThen), (h_this_paidThen, ia G 16 g_this_paidThen), (h_this_s, ia G 313 f_this_s)] [(0, .ref h_this), (1, .int p0), (2, .int p1), (4, .int v4), (6, .int v6), (7, .int v7)] := by
    intro rec9 hrec9 v4 v6 v7 s0 s1 g_this_offThen g_this_paidThen hf
    unfold f_X9_tellsLone_b72 at hf
    refine hK1 _ _ _ _ (fun H locs ls h hl => ?_)
    refine lv_iadd hx hb dX9_tellsLone_72 ?_
    refine lv_topi (fun t7 et7 => ?_)
    replace hf := lt1_inv et7 hf
    refine lv_istore (lv' := [(5, .int t7), (0, .ref h_this), (1, .int p0), (2, .int p1), (4, .int v4), (6, .int v6), (7, .int v7)]) hx hb dX9_tellsLone_73 hl (by decide) rfl (fun ls hl => ?_)
    refine lv_iload hx hb dX9_tellsLone_75 (lv_at hl 4 rfl) ?_
    refine lv_iload_n hx hb dX9_tellsLone_77 rfl (lv_at hl 2 rfl) ?_
    refine lv_iload hx hb dX9_tellsLone_78 (lv_at hl 6 rfl) ?_
    refine lv_iconst (v := (4 : Int32)) hx hb dX9_tellsLone_80 rfl ?_
    refine lv_idiv hx hb dX9_tellsLone_81 (by decide) ?_
    refine lv_iload hx hb dX9_tellsLone_82 (lv_at hl 6 rfl) ?_
    refine lv_iconst (v := (4 : Int32)) hx hb dX9_tellsLone_84 rfl ?_
    refine lv_irem hx hb dX9_tellsLone_85 (by decide) ?_
    refine lv_iload hx hb dX9_tellsLone_86 (lv_at hl 5 rfl) ?_
    replace hf := bd1_inv hf
    obtain ⟨r8, hc9, hf⟩ := hf
    refine r_ciS0 C h (c_X9_nearsBy hc9) ms_X9_87 rfl [] rfl rfl hl.1 rfl (Nat.le_of_ble_eq_true rfl) (rok (by decide)) dX9_tellsLone_88 (fun H locs h => ?_)
    refine lv_isub hx hb dX9_tellsLone_91 ?_
    refine lv_bipush (v := (99 : Int32)) hx hb dX9_tellsLone_92 rfl ?_
    replace hf := bd1_inv hf
    obtain ⟨r10, hc11, hf⟩ := hf
    refine r_ciS0 C h (c_X9_held hc11) ms_X9_202 rfl [] rfl rfl hl.1 rfl (Nat.le_of_ble_eq_true rfl) (rok (by decide)) dX9_tellsLone_94 (fun H locs h => ?_)
    refine lv_istore (lv' := [(4, .int r10), (5, .int t7), (0, .ref h_this), (1, .int p0), (2, .int p1), (6, .int v6), (7, .int v7)]) hx hb dX9_tellsLone_97 hl (by decide) rfl (fun ls hl => ?_)
    obtain ⟨t12, et12⟩ : ∃ y : Int32, y = v6 + (1 : Int32) := ⟨_, rfl⟩
    replace hf := lt1_inv et12 hf
    refine lv_iinc (v := t12) (lv' := [(6, .int t12), (4, .int r10), (5, .int t7), (0, .ref h_this), (1, .int p0), (2, .int p1), (7, .int v7)]) hx hb dX9_tellsLone_99 hl (k := 5) rfl (by rw [et12]; rfl) (by decide) rfl (fun ls hl => ?_)
    refine lv_goto (tgt := 9) hx hb dX9_tellsLone_102 rfl ?_
    exact hK2 _ _ _ _ (hrec9 r10 t7 t12 g_this_offThen g_this_paidThen hf) _ _ _ h (lv_sub hl [3, 4, 5, 1, 2, 0] rfl)
  have B71 : ∀ (rec9 : Int32 → Int32 → Int32 → (Nat → Int32) → (Nat → Int32) → Option ((Nat → Int32) × (Nat → Int32))) (hrec9 : ∀ (v4 : Int32) (v5 : Int32) (v6 : Int32) (g_this_offThen : Nat → Int32) (g_this_paidThen : Nat → Int32), rec9 v4 v5 v6 g_this_offThen g_this_paidThen = some (m_this_offThen, m_this_paidThen) → K 9 ([] : List Value) [(h_this, ob 9 [.ref h_this_s, .ref h_this_kept, .ref h_this_laid, .int x_this_isKept, .ref h_this_pile, .ref h_this_tape, .int x_this_taped, .ref h_this_letters, .int x_this_at, .int x_this_begun, .int x_this_token, .int x_this_value, .int x_this_opened, .int x_this_steps, .ref h_this_code0, .ref h_this_read, .ref h_this_saved, .ref h_this_plan, .ref h_this_bestPlan, .int x_this_most, .int x_this_many, .int x_this_few, .int x_this_everHome, .ref h_this_offThen, .ref h_this_paidThen, .int x_this_firstFit, .ref h_this_rows, .int x_this_rowMany, .ref h_this_sorts, .ref h_this_sizes, .ref h_this_number, .ref h_this_holds, .ref h_this_heldOne, .ref h_this_trace, .int x_this_traced, .int x_this_own, .int x_this_isParted]), (h_this_offThen, ia G 16 g_this_offThen), (h_this_paidThen, ia G 16 g_this_paidThen), (h_this_s, ia G 313 f_this_s)] [(0, .ref h_this), (1, .int p0), (2, .int p1), (4, .int v4), (5, .int v5), (6, .int v6)]) (v4 : Int32) (v6 : Int32) (v7 : Int32) (s0 : Int32) (g_this_offThen : Nat → Int32) (g_this_paidThen : Nat → Int32), f_X9_tellsLone_b71 rec9 p0 v4 v6 v7 s0 g_this_offThen g_this_paidThen = some (m_this_offThen, m_this_paidThen) → K 71 [.int s0] [(h_this, ob 9 [.ref h_this_s, .ref h_this_kept, .ref h_this_laid, .int x_this_isKept, .ref h_this_pile, .ref h_this_tape, .int x_this_taped, .ref h_this_letters, .int x_this_at, .int x_this_begun, .int x_this_token, .int x_this_value, .int x_this_opened, .int x_this_steps, .ref h_this_code0, .ref h_this_read, .ref h_this_saved, .ref h_this_plan, .ref h_this_bestPlan, .int x_this_most, .int x_this_many, .int x_this_few, .int x_this_everHome, .ref h_this_offThen, .ref h_this_paidThen, .int x_this_firstFit, .ref h_this_rows, .int x_this_rowMany, .ref h_this_sorts, .ref h_this_sizes, .ref h_this_number, .ref h_this_holds, .ref h_this_heldOne, .ref h_this_trace, .int x_this_traced, .int x_this_own, .int x_this_isParted]), (h_this_offThen, ia G 16 g_this_offThen), (h_this_paidThen, ia G 16 g_this_paidThen), (h_this_s, ia G 313 f_this_s)] [(0, .ref h_this), (1, .int p0), (2, .int p1), (4, .int v4), (6, .int v6), (7, .int v7)] := by
    intro rec9 hrec9 v4 v6 v7 s0 g_this_offThen g_this_paidThen hf
    unfold f_X9_tellsLone_b71 at hf
    refine hK1 _ _ _ _ (fun H locs ls h hl => ?_)
    refine lv_iconst (v := (0 : Int32)) hx hb dX9_tellsLone_71 rfl ?_
    exact hK2 _ _ _ _ (B72 _ hrec9 v4 v6 v7 s0 (0 : Int32) g_this_offThen g_this_paidThen hf) _ _ _ h (lv_sub hl [0, 1, 2, 3, 4, 5] rfl)
  have L9 : ∀ (n : Nat) (v4 : Int32) (v5 : Int32) (v6 : Int32) (g_this_offThen : Nat → Int32) (g_this_paidThen : Nat → Int32), f_X9_tellsLone_L9 p0 p1 f_this_s n v4 v5 v6 g_this_offThen g_this_paidThen = some (m_this_offThen, m_this_paidThen) → K 9 ([] : List Value) [(h_this, ob 9 [.ref h_this_s, .ref h_this_kept, .ref h_this_laid, .int x_this_isKept, .ref h_this_pile, .ref h_this_tape, .int x_this_taped, .ref h_this_letters, .int x_this_at, .int x_this_begun, .int x_this_token, .int x_this_value, .int x_this_opened, .int x_this_steps, .ref h_this_code0, .ref h_this_read, .ref h_this_saved, .ref h_this_plan, .ref h_this_bestPlan, .int x_this_most, .int x_this_many, .int x_this_few, .int x_this_everHome, .ref h_this_offThen, .ref h_this_paidThen, .int x_this_firstFit, .ref h_this_rows, .int x_this_rowMany, .ref h_this_sorts, .ref h_this_sizes, .ref h_this_number, .ref h_this_holds, .ref h_this_heldOne, .ref h_this_trace, .int x_this_traced, .int x_this_own, .int x_this_isParted]), (h_this_offThen, ia G 16 g_this_offThen), (h_this_paidThen, ia G 16 g_this_paidThen), (h_this_s, ia G 313 f_this_s)] [(0, .ref h_this), (1, .int p0), (2, .int p1), (4, .int v4), (5, .int v5), (6, .int v6)] := by
    intro n
    induction n with
    | zero =>
      intro v4 v5 v6 g_this_offThen g_this_paidThen hf
      replace hf : (none : Option _) = some _ := hf
      cases hf
    | succ n ih =>
      intro v4 v5 v6 g_this_offThen g_this_paidThen hf
      rw [f_X9_tellsLone_L9] at hf
      refine hK1 _ _ _ _ (fun H locs ls h hl => ?_)
      refine lv_iload hx hb dX9_tellsLone_9 (lv_at hl 5 rfl) ?_
      refine lv_bipush (v := (16 : Int32)) hx hb dX9_tellsLone_11 rfl ?_
      refine lv_icmp_ge (tgt := 105) hx hb dX9_tellsLone_13 rfl (fun c1 => ?_) (fun c1 => ?_)
      · replace hf := ifp c1 hf
        clear ih B71 B72 hK2 hK1
        cases hf
        exact r_vret C h hr hlk dX9_tellsLone_105
      · replace hf := ifn c1 hf
        refine lv_aload_n hx hb dX9_tellsLone_16 rfl (lv_at hl 0 rfl) ?_
        refine r_get C h fk_X9_44 0 rfl rfl dX9_tellsLone_17 ?_
        refine lv_iload hx hb dX9_tellsLone_20 (lv_at hl 5 rfl) ?_
        refine lv_iload hx hb dX9_tellsLone_22 (lv_at hl 3 rfl) ?_
        replace hf := chkI_inv hf
        obtain ⟨hi2, hf⟩ := hf
        refine r_iast (ws' := [(h_this, ob 9 [.ref h_this_s, .ref h_this_kept, .ref h_this_laid, .int x_this_isKept, .ref h_this_pile, .ref h_this_tape, .int x_this_taped, .ref h_this_letters, .int x_this_at, .int x_this_begun, .int x_this_token, .int x_this_value, .int x_this_opened, .int x_this_steps, .ref h_this_code0, .ref h_this_read, .ref h_this_saved, .ref h_this_plan, .ref h_this_bestPlan, .int x_this_most, .int x_this_many, .int x_this_few, .int x_this_everHome, .ref h_this_offThen, .ref h_this_paidThen, .int x_this_firstFit, .ref h_this_rows, .int x_this_rowMany, .ref h_this_sorts, .ref h_this_sizes, .ref h_this_number, .ref h_this_holds, .ref h_this_heldOne, .ref h_this_trace, .int x_this_traced, .int x_this_own, .int x_this_isParted]), (h_this_offThen, ia G 16 (upd g_this_offThen v6.toNatClampNeg v4)), (h_this_paidThen, ia G 16 g_this_paidThen), (h_this_s, ia G 313 f_this_s)]) C h 1 rfl hi2 dX9_tellsLone_24 rfl (fun H locs h => ?_)
        refine lv_aload_n hx hb dX9_tellsLone_25 rfl (lv_at hl 0 rfl) ?_
        refine r_get C h fk_X9_47 0 rfl rfl dX9_tellsLone_26 ?_
        refine lv_iload hx hb dX9_tellsLone_29 (lv_at hl 5 rfl) ?_
        refine lv_iload hx hb dX9_tellsLone_31 (lv_at hl 4 rfl) ?_
        replace hf := chkI_inv hf
        obtain ⟨hi3, hf⟩ := hf
        refine r_iast (ws' := [(h_this, ob 9 [.ref h_this_s, .ref h_this_kept, .ref h_this_laid, .int x_this_isKept, .ref h_this_pile, .ref h_this_tape, .int x_this_taped, .ref h_this_letters, .int x_this_at, .int x_this_begun, .int x_this_token, .int x_this_value, .int x_this_opened, .int x_this_steps, .ref h_this_code0, .ref h_this_read, .ref h_this_saved, .ref h_this_plan, .ref h_this_bestPlan, .int x_this_most, .int x_this_many, .int x_this_few, .int x_this_everHome, .ref h_this_offThen, .ref h_this_paidThen, .int x_this_firstFit, .ref h_this_rows, .int x_this_rowMany, .ref h_this_sorts, .ref h_this_sizes, .ref h_this_number, .ref h_this_holds, .ref h_this_heldOne, .ref h_this_trace, .int x_this_traced, .int x_this_own, .int x_this_isParted]), (h_this_offThen, ia G 16 (upd g_this_offThen v6.toNatClampNeg v4)), (h_this_paidThen, ia G 16 (upd g_this_paidThen v6.toNatClampNeg v5)), (h_this_s, ia G 313 f_this_s)]) C h 2 rfl hi3 dX9_tellsLone_33 rfl (fun H locs h => ?_)
        refine lv_aload_n hx hb dX9_tellsLone_34 rfl (lv_at hl 0 rfl) ?_
        refine r_get C h fk_X9_9 0 rfl rfl dX9_tellsLone_35 ?_
        refine lv_bipush (v := (7 : Int32)) hx hb dX9_tellsLone_38 rfl ?_
        refine lv_iload hx hb dX9_tellsLone_40 (lv_at hl 5 rfl) ?_
        refine lv_iadd hx hb dX9_tellsLone_42 ?_
        replace hf := chkI_inv hf
        obtain ⟨hi4, hf⟩ := hf
        refine r_iald C h 3 rfl hi4 dX9_tellsLone_43 ?_
        refine lv_topi (fun t5 et5 => ?_)
        replace hf := lt1_inv et5 hf
        refine lv_istore (lv' := [(7, .int t5), (0, .ref h_this), (1, .int p0), (2, .int p1), (4, .int v4), (5, .int v5), (6, .int v6)]) hx hb dX9_tellsLone_44 hl (by decide) rfl (fun ls hl => ?_)
        refine lv_iload hx hb dX9_tellsLone_46 (lv_at hl 5 rfl) ?_
        refine lv_iload hx hb dX9_tellsLone_48 (lv_at hl 4 rfl) ?_
        refine lv_if_le (tgt := 71) hx hb dX9_tellsLone_50 rfl (fun c6 => ?_) (fun c6 => ?_)
        · replace hf := ifp c6 hf
          exact hK2 _ _ _ _ (B71 _ ih v4 v6 t5 v5 (upd g_this_offThen v6.toNatClampNeg v4) (upd g_this_paidThen v6.toNatClampNeg v5) hf) _ _ _ h (lv_sub hl [1, 2, 3, 4, 6, 0] rfl)
        · replace hf := ifn c6 hf
          refine lv_iload hx hb dX9_tellsLone_53 (lv_at hl 4 rfl) ?_
          refine lv_iload_n hx hb dX9_tellsLone_55 rfl (lv_at hl 2 rfl) ?_
          refine lv_iload_n hx hb dX9_tellsLone_56 rfl (lv_at hl 3 rfl) ?_
          refine lv_iload hx hb dX9_tellsLone_57 (lv_at hl 0 rfl) ?_
          refine lv_iconst (v := (4 : Int32)) hx hb dX9_tellsLone_59 rfl ?_
          refine lv_idiv hx hb dX9_tellsLone_60 (by decide) ?_
          replace hf := bd1_inv hf
          obtain ⟨r13, hc14, hf⟩ := hf
          refine r_ciS0 C h (c_X9_reachesBy hc14) ms_X9_91 rfl [] rfl rfl hl.1 rfl (Nat.le_of_ble_eq_true rfl) (rok (by decide)) dX9_tellsLone_61 (fun H locs h => ?_)
          refine lv_icmp_gt (tgt := 71) hx hb dX9_tellsLone_64 rfl (fun c15 => ?_) (fun c15 => ?_)
          · replace hf := ifp c15 hf
            exact hK2 _ _ _ _ (B71 _ ih v4 v6 t5 v5 (upd g_this_offThen v6.toNatClampNeg v4) (upd g_this_paidThen v6.toNatClampNeg v5) hf) _ _ _ h (lv_sub hl [1, 2, 3, 4, 6, 0] rfl)
          · replace hf := ifn c15 hf
            refine lv_iconst (v := (1 : Int32)) hx hb dX9_tellsLone_67 rfl ?_
            refine lv_goto (tgt := 72) hx hb dX9_tellsLone_68 rfl ?_
            exact hK2 _ _ _ _ (B72 _ ih v4 v6 t5 v5 (1 : Int32) (upd g_this_offThen v6.toNatClampNeg v4) (upd g_this_paidThen v6.toNatClampNeg v5) hf) _ _ _ h (lv_sub hl [1, 2, 3, 4, 6, 0] rfl)
  refine lv_iload_n hx hb dX9_tellsLone_0 rfl (lv_at hl 3 rfl) ?_
  refine lv_istore (lv' := [(4, .int p2), (0, .ref h_this), (1, .int p0), (2, .int p1), (3, .int p2)]) hx hb dX9_tellsLone_1 hl (by decide) rfl (fun ls hl => ?_)
  refine lv_iconst (v := (0 : Int32)) hx hb dX9_tellsLone_3 rfl ?_
  refine lv_istore (lv' := [(5, .int (0 : Int32)), (4, .int p2), (0, .ref h_this), (1, .int p0), (2, .int p1), (3, .int p2)]) hx hb dX9_tellsLone_4 hl (by decide) rfl (fun ls hl => ?_)
  refine lv_iconst (v := (0 : Int32)) hx hb dX9_tellsLone_6 rfl ?_
  refine lv_istore (lv' := [(6, .int (0 : Int32)), (5, .int (0 : Int32)), (4, .int p2), (0, .ref h_this), (1, .int p0), (2, .int p1), (3, .int p2)]) hx hb dX9_tellsLone_7 hl (by decide) rfl (fun ls hl => ?_)
  exact hK2 _ _ _ _ (L9 1000 p2 (0 : Int32) (0 : Int32) f_this_offThen f_this_paidThen hf) _ _ _ h (lv_sub hl [3, 4, 5, 2, 1, 0] rfl)
