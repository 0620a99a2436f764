set_option maxRecDepth 100000 in
set_option maxHeartbeats 4000000 in
theorem c_X9_forget {l : Launch} {G : Gt} {h_this h_this_s h_this_kept h_this_laid h_this_pile h_this_tape h_this_letters h_this_code0 h_this_read h_this_saved h_this_plan h_this_bestPlan h_this_offThen h_this_paidThen h_this_rows h_this_sorts h_this_sizes h_this_number h_this_holds h_this_heldOne h_this_trace : Nat} {x_this_isKept : Int32} {x_this_taped : Int32} {x_this_at : Int32} {x_this_begun : Int32} {x_this_token : Int32} {x_this_value : Int32} {x_this_opened : Int32} {x_this_steps : Int32} {x_this_most : Int32} {x_this_many : Int32} {x_this_few : Int32} {x_this_everHome : Int32} {x_this_firstFit : Int32} {x_this_rowMany : Int32} {x_this_traced : Int32} {x_this_own : Int32} {x_this_isParted : Int32} {f_this_s : Nat → Int32} {r : Int32} {m_this_s : Nat → Int32} (hf : f_X9_forget f_this_s = some (r, m_this_s)) : mFi l G yX9_forget cX9_forget 1 .int 1 [.ref h_this] [(h_this, ob 9 [.ref h_this_s, .ref h_this_kept, .ref h_this_laid, .int x_this_isKept, .ref h_this_pile, .ref h_this_tape, .int x_this_taped, .ref h_this_letters, .int x_this_at, .int x_this_begun, .int x_this_token, .int x_this_value, .int x_this_opened, .int x_this_steps, .ref h_this_code0, .ref h_this_read, .ref h_this_saved, .ref h_this_plan, .ref h_this_bestPlan, .int x_this_most, .int x_this_many, .int x_this_few, .int x_this_everHome, .ref h_this_offThen, .ref h_this_paidThen, .int x_this_firstFit, .ref h_this_rows, .int x_this_rowMany, .ref h_this_sorts, .ref h_this_sizes, .ref h_this_number, .ref h_this_holds, .ref h_this_heldOne, .ref h_this_trace, .int x_this_traced, .int x_this_own, .int x_this_isParted]), (h_this_s, ia G 313 f_this_s)] r [(h_this, ob 9 [.ref h_this_s, .ref h_this_kept, .ref h_this_laid, .int x_this_isKept, .ref h_this_pile, .ref h_this_tape, .int x_this_taped, .ref h_this_letters, .int x_this_at, .int x_this_begun, .int x_this_token, .int x_this_value, .int x_this_opened, .int x_this_steps, .ref h_this_code0, .ref h_this_read, .ref h_this_saved, .ref h_this_plan, .ref h_this_bestPlan, .int x_this_most, .int x_this_many, .int x_this_few, .int x_this_everHome, .ref h_this_offThen, .ref h_this_paidThen, .int x_this_firstFit, .ref h_this_rows, .int x_this_rowMany, .ref h_this_sorts, .ref h_this_sizes, .ref h_this_number, .ref h_this_holds, .ref h_this_heldOne, .ref h_this_trace, .int x_this_traced, .int x_this_own, .int x_this_isParted]), (h_this_s, ia G 313 m_this_s)] := by
  refine mFi.of (by decide +kernel) (Nat.le_of_ble_eq_true rfl) ?_
  intro p e s m below meth c A C hr hlk h ls hl
  obtain ⟨hx, hb, hml, hown, hts⟩ := id C
  replace hl : lv_has ls 1 [(0, .ref h_this)] := hl
  unfold f_X9_forget at hf
  refine lv_aload_n hx hb dX9_forget_0 rfl (lv_at hl 0 rfl) ?_
  refine lv_bipush (v := (6 : Int32)) hx hb dX9_forget_1 rfl ?_
  refine lv_iconst (v := (0 : Int32)) hx hb dX9_forget_3 rfl ?_
  replace hf := bd2_inv hf
  obtain ⟨r1, g2, hc3, hf⟩ := hf
  refine r_ciV (ws' := [(h_this, ob 9 [.ref h_this_s, .ref h_this_kept, .ref h_this_laid, .int x_this_isKept, .ref h_this_pile, .ref h_this_tape, .int x_this_taped, .ref h_this_letters, .int x_this_at, .int x_this_begun, .int x_this_token, .int x_this_value, .int x_this_opened, .int x_this_steps, .ref h_this_code0, .ref h_this_read, .ref h_this_saved, .ref h_this_plan, .ref h_this_bestPlan, .int x_this_most, .int x_this_many, .int x_this_few, .int x_this_everHome, .ref h_this_offThen, .ref h_this_paidThen, .int x_this_firstFit, .ref h_this_rows, .int x_this_rowMany, .ref h_this_sorts, .ref h_this_sizes, .ref h_this_number, .ref h_this_holds, .ref h_this_heldOne, .ref h_this_trace, .int x_this_traced, .int x_this_own, .int x_this_isParted]), (h_this_s, ia G 313 g2)]) C h (c_X9_becomes hc3) mv_X9_229 rfl 0 rfl [0, 1] rfl rfl [1] [(h_this_s, ia G 313 g2)] rfl rfl (by decide +kernel) rfl hl.1 rfl (Nat.le_of_ble_eq_true rfl) (rok (by decide)) dX9_forget_4 (fun H locs h => ?_)
  cases hf
  exact r_iret C h hr hlk rfl dX9_forget_7
set_option maxRecDepth 100000 in
set_option maxHeartbeats 4000000 in
theorem c_X9_tellsLone {l : Launch} {G : Gt} {h_this h_this_s h_this_kept h_this_laid h_this_pile h_this_tape h_this_letters h_this_code0 h_this_read h_this_saved h_this_plan h_this_bestPlan h_this_offThen h_this_paidThen h_this_rows h_this_sorts h_this_sizes h_this_number h_this_holds h_this_heldOne h_this_trace : Nat} {p0 : Int32} {p1 : Int32} {p2 : Int32} {x_this_isKept : Int32} {x_this_taped : Int32} {x_this_at : Int32} {x_this_begun : Int32} {x_this_token : Int32} {x_this_value : Int32} {x_this_opened : Int32} {x_this_steps : Int32} {x_this_most : Int32} {x_this_many : Int32} {x_this_few : Int32} {x_this_everHome : Int32} {x_this_firstFit : Int32} {x_this_rowMany : Int32} {x_this_traced : Int32} {x_this_own : Int32} {x_this_isParted : Int32} {f_this_offThen : Nat → Int32} {f_this_paidThen : Nat → Int32} {f_this_s : Nat → Int32} {m_this_offThen : Nat → Int32} {m_this_paidThen : Nat → Int32} (hf : f_X9_tellsLone p0 p1 p2 f_this_offThen f_this_paidThen f_this_s = some (m_this_offThen, m_this_paidThen)) : mFv l G yX9_tellsLone cX9_tellsLone 8 1 [.ref h_this, .int p0, .int p1, .int p2] [(h_this, ob 9 [.ref h_this_s, .ref h_this_kept, .ref h_this_laid, .int x_this_isKept, .ref h_this_pile, .ref h_this_tape, .int x_this_taped, .ref h_this_letters, .int x_this_at, .int x_this_begun, .int x_this_token, .int x_this_value, .int x_this_opened, .int x_this_steps, .ref h_this_code0, .ref h_this_read, .ref h_this_saved, .ref h_this_plan, .ref h_this_bestPlan, .int x_this_most, .int x_this_many, .int x_this_few, .int x_this_everHome, .ref h_this_offThen, .ref h_this_paidThen, .int x_this_firstFit, .ref h_this_rows, .int x_this_rowMany, .ref h_this_sorts, .ref h_this_sizes, .ref h_this_number, .ref h_this_holds, .ref h_this_heldOne, .ref h_this_trace, .int x_this_traced, .int x_this_own, .int x_this_isParted]), (h_this_offThen, ia G 16 f_this_offThen), (h_this_paidThen, ia G 16 f_this_paidThen), (h_this_s, ia G 313 f_this_s)] [(h_this, ob 9 [.ref h_this_s, .ref h_this_kept, .ref h_this_laid, .int x_this_isKept, .ref h_this_pile, .ref h_this_tape, .int x_this_taped, .ref h_this_letters, .int x_this_at, .int x_this_begun, .int x_this_token, .int x_this_value, .int x_this_opened, .int x_this_steps, .ref h_this_code0, .ref h_this_read, .ref h_this_saved, .ref h_this_plan, .ref h_this_bestPlan, .int x_this_most, .int x_this_many, .int x_this_few, .int x_this_everHome, .ref h_this_offThen, .ref h_this_paidThen, .int x_this_firstFit, .ref h_this_rows, .int x_this_rowMany, .ref h_this_sorts, .ref h_this_sizes, .ref h_this_number, .ref h_this_holds, .ref h_this_heldOne, .ref h_this_trace, .int x_this_traced, .int x_this_own, .int x_this_isParted]), (h_this_offThen, ia G 16 m_this_offThen), (h_this_paidThen, ia G 16 m_this_paidThen), (h_this_s, ia G 313 f_this_s)] := by
  refine mFv.of (by decide +kernel) (Nat.le_of_ble_eq_true rfl) ?_
  intro p e s m below meth c A C hr hlk h ls hl
  obtain ⟨hx, hb, hml, hown, hts⟩ := id C
  replace hl : lv_has ls 8 [(0, .ref h_this), (1, .int p0), (2, .int p1), (3, .int p2)] := hl
  unfold f_X9_tellsLone at hf
  refine with_K G A 8 (fun K hK1 hK2 => ?_)
  have B72 : ∀ (rec9 : Int32 → Int32 → Int32 → (Nat → Int32) → (Nat → Int32) → Option ((Nat → Int32) × (Nat → Int32))) (hrec9 : ∀ (v4 : Int32) (v5 : Int32) (v6 : Int32) (g_this_offThen : Nat → Int32) (g_this_paidThen : Nat → Int32), rec9 v4 v5 v6 g_this_offThen g_this_paidThen = some (m_this_offThen, m_this_paidThen) → K 9 ([] : List Value) [(h_this, ob 9 [.ref h_this_s, .ref h_this_kept, .ref h_this_laid, .int x_this_isKept, .ref h_this_pile, .ref h_this_tape, .int x_this_taped, .ref h_this_letters, .int x_this_at, .int x_this_begun, .int x_this_token, .int x_this_value, .int x_this_opened, .int x_this_steps, .ref h_this_code0, .ref h_this_read, .ref h_this_saved, .ref h_this_plan, .ref h_this_bestPlan, .int x_this_most, .int x_this_many, .int x_this_few, .int x_this_everHome, .ref h_this_offThen, .ref h_this_paidThen, .int x_this_firstFit, .ref h_this_rows, .int x_this_rowMany, .ref h_this_sorts, .ref h_this_sizes, .ref h_this_number, .ref h_this_holds, .ref h_this_heldOne, .ref h_this_trace, .int x_this_traced, .int x_this_own, .int x_this_isParted]), (h_this_offThen, ia G 16 g_this_offThen), (h_this_paidThen, ia G 16 g_this_paidThen), (h_this_s, ia G 313 f_this_s)] [(0, .ref h_this), (1, .int p0), (2, .int p1), (4, .int v4), (5, .int v5), (6, .int v6)]) (v4 : Int32) (v6 : Int32) (v7 : Int32) (s0 : Int32) (s1 : Int32) (g_this_offThen : Nat → Int32) (g_this_paidThen : Nat → Int32), f_X9_tellsLone_b72 rec9 p0 v4 v6 v7 s0 s1 g_this_offThen g_this_paidThen = some (m_this_offThen, m_this_paidThen) → K 72 [.int s1, .int s0] [(h_this, ob 9 [.ref h_this_s, .ref h_this_kept, .ref h_this_laid, .int x_this_isKept, .ref h_this_pile, .ref h_this_tape, .int x_this_taped, .ref h_this_letters, .int x_this_at, .int x_this_begun, .int x_this_token, .int x_this_value, .int x_this_opened, .int x_this_steps, .ref h_this_code0, .ref h_this_read, .ref h_this_saved, .ref h_this_plan, .ref h_this_bestPlan, .int x_this_most, .int x_this_many, .int x_this_few, .int x_this_everHome, .ref h_this_offThen, .ref h_this_paidThen, .int x_this_firstFit, .ref h_this_rows, .int x_this_rowMany, .ref h_this_sorts, .ref h_this_sizes, .ref h_this_number, .ref h_this_holds, .ref h_this_heldOne, .ref h_this_trace, .int x_this_traced, .int x_this_own, .int x_this_isParted]), (h_this_offThen, ia G 16 g_this_offThen), (h_this_paidThen, ia G 16 g_this_paidThen), (h_this_s, ia G 313 f_this_s)] [(0, .ref h_this), (1, .int p0), (2, .int p1), (4, .int v4), (6, .int v6), (7, .int v7)] := by
    intro rec9 hrec9 v4 v6 v7 s0 s1 g_this_offThen g_this_paidThen hf
    unfold f_X9_tellsLone_b72 at hf
    refine hK1 _ _ _ _ (fun H locs ls h hl => ?_)
    refine lv_iadd hx hb dX9_tellsLone_72 ?_
    refine lv_topi (fun t7 et7 => ?_)
    replace hf := lt1_inv et7 hf
    refine lv_istore (lv' := [(5, .int t7), (0, .ref h_this), (1, .int p0), (2, .int p1), (4, .int v4), (6, .int v6), (7, .int v7)]) hx hb dX9_tellsLone_73 hl (by decide) rfl (fun ls hl => ?_)
    refine lv_iload hx hb dX9_tellsLone_75 (lv_at hl 4 rfl) ?_
    refine lv_iload_n hx hb dX9_tellsLone_77 rfl (lv_at hl 2 rfl) ?_
    refine lv_iload hx hb dX9_tellsLone_78 (lv_at hl 6 rfl) ?_
    refine lv_iconst (v := (4 : Int32)) hx hb dX9_tellsLone_80 rfl ?_
    refine lv_idiv hx hb dX9_tellsLone_81 (by decide) ?_
    refine lv_iload hx hb dX9_tellsLone_82 (lv_at hl 6 rfl) ?_
    refine lv_iconst (v := (4 : Int32)) hx hb dX9_tellsLone_84 rfl ?_
    refine lv_irem hx hb dX9_tellsLone_85 (by decide) ?_
    refine lv_iload hx hb dX9_tellsLone_86 (lv_at hl 5 rfl) ?_
    replace hf := bd1_inv hf
    obtain ⟨r8, hc9, hf⟩ := hf
    refine r_ciS0 C h (c_X9_nearsBy hc9) ms_X9_87 rfl [] rfl rfl hl.1 rfl (Nat.le_of_ble_eq_true rfl) (rok (by decide)) dX9_tellsLone_88 (fun H locs h => ?_)
    refine lv_isub hx hb dX9_tellsLone_91 ?_
    refine lv_bipush (v := (99 : Int32)) hx hb dX9_tellsLone_92 rfl ?_
    replace hf := bd1_inv hf
    obtain ⟨r10, hc11, hf⟩ := hf
    refine r_ciS0 C h (c_X9_held hc11) ms_X9_202 rfl [] rfl rfl hl.1 rfl (Nat.le_of_ble_eq_true rfl) (rok (by decide)) dX9_tellsLone_94 (fun H locs h => ?_)
    refine lv_istore (lv' := [(4, .int r10), (5, .int t7), (0, .ref h_this), (1, .int p0), (2, .int p1), (6, .int v6), (7, .int v7)]) hx hb dX9_tellsLone_97 hl (by decide) rfl (fun ls hl => ?_)
    obtain ⟨t12, et12⟩ : ∃ y : Int32, y = v6 + (1 : Int32) := ⟨_, rfl⟩
    replace hf := lt1_inv et12 hf
    refine lv_iinc (v := t12) (lv' := [(6, .int t12), (4, .int r10), (5, .int t7), (0, .ref h_this), (1, .int p0), (2, .int p1), (7, .int v7)]) hx hb dX9_tellsLone_99 hl (k := 5) rfl (by rw [et12]; rfl) (by decide) rfl (fun ls hl => ?_)
    refine lv_goto (tgt := 9) hx hb dX9_tellsLone_102 rfl ?_
    exact hK2 _ _ _ _ (hrec9 r10 t7 t12 g_this_offThen g_this_paidThen hf) _ _ _ h (lv_sub hl [3, 4, 5, 1, 2, 0] rfl)
  have B71 : ∀ (rec9 : Int32 → Int32 → Int32 → (Nat → Int32) → (Nat → Int32) → Option ((Nat → Int32) × (Nat → Int32))) (hrec9 : ∀ (v4 : Int32) (v5 : Int32) (v6 : Int32) (g_this_offThen : Nat → Int32) (g_this_paidThen : Nat → Int32), rec9 v4 v5 v6 g_this_offThen g_this_paidThen = some (m_this_offThen, m_this_paidThen) → K 9 ([] : List Value) [(h_this, ob 9 [.ref h_this_s, .ref h_this_kept, .ref h_this_laid, .int x_this_isKept, .ref h_this_pile, .ref h_this_tape, .int x_this_taped, .ref h_this_letters, .int x_this_at, .int x_this_begun, .int x_this_token, .int x_this_value, .int x_this_opened, .int x_this_steps, .ref h_this_code0, .ref h_this_read, .ref h_this_saved, .ref h_this_plan, .ref h_this_bestPlan, .int x_this_most, .int x_this_many, .int x_this_few, .int x_this_everHome, .ref h_this_offThen, .ref h_this_paidThen, .int x_this_firstFit, .ref h_this_rows, .int x_this_rowMany, .ref h_this_sorts, .ref h_this_sizes, .ref h_this_number, .ref h_this_holds, .ref h_this_heldOne, .ref h_this_trace, .int x_this_traced, .int x_this_own, .int x_this_isParted]), (h_this_offThen, ia G 16 g_this_offThen), (h_this_paidThen, ia G 16 g_this_paidThen), (h_this_s, ia G 313 f_this_s)] [(0, .ref h_this), (1, .int p0), (2, .int p1), (4, .int v4), (5, .int v5), (6, .int v6)]) (v4 : Int32) (v6 : Int32) (v7 : Int32) (s0 : Int32) (g_this_offThen : Nat → Int32) (g_this_paidThen : Nat → Int32), f_X9_tellsLone_b71 rec9 p0 v4 v6 v7 s0 g_this_offThen g_this_paidThen = some (m_this_offThen, m_this_paidThen) → K 71 [.int s0] [(h_this, ob 9 [.ref h_this_s, .ref h_this_kept, .ref h_this_laid, .int x_this_isKept, .ref h_this_pile, .ref h_this_tape, .int x_this_taped, .ref h_this_letters, .int x_this_at, .int x_this_begun, .int x_this_token, .int x_this_value, .int x_this_opened, .int x_this_steps, .ref h_this_code0, .ref h_this_read, .ref h_this_saved, .ref h_this_plan, .ref h_this_bestPlan, .int x_this_most, .int x_this_many, .int x_this_few, .int x_this_everHome, .ref h_this_offThen, .ref h_this_paidThen, .int x_this_firstFit, .ref h_this_rows, .int x_this_rowMany, .ref h_this_sorts, .ref h_this_sizes, .ref h_this_number, .ref h_this_holds, .ref h_this_heldOne, .ref h_this_trace, .int x_this_traced, .int x_this_own, .int x_this_isParted]), (h_this_offThen, ia G 16 g_this_offThen), (h_this_paidThen, ia G 16 g_this_paidThen), (h_this_s, ia G 313 f_this_s)] [(0, .ref h_this), (1, .int p0), (2, .int p1), (4, .int v4), (6, .int v6), (7, .int v7)] := by
    intro rec9 hrec9 v4 v6 v7 s0 g_this_offThen g_this_paidThen hf
    unfold f_X9_tellsLone_b71 at hf
    refine hK1 _ _ _ _ (fun H locs ls h hl => ?_)
    refine lv_iconst (v := (0 : Int32)) hx hb dX9_tellsLone_71 rfl ?_
    exact hK2 _ _ _ _ (B72 _ hrec9 v4 v6 v7 s0 (0 : Int32) g_this_offThen g_this_paidThen hf) _ _ _ h (lv_sub hl [0, 1, 2, 3, 4, 5] rfl)
  have L9 : ∀ (n : Nat) (v4 : Int32) (v5 : Int32) (v6 : Int32) (g_this_offThen : Nat → Int32) (g_this_paidThen : Nat → Int32), f_X9_tellsLone_L9 p0 p1 f_this_s n v4 v5 v6 g_this_offThen g_this_paidThen = some (m_this_offThen, m_this_paidThen) → K 9 ([] : List Value) [(h_this, ob 9 [.ref h_this_s, .ref h_this_kept, .ref h_this_laid, .int x_this_isKept, .ref h_this_pile, .ref h_this_tape, .int x_this_taped, .ref h_this_letters, .int x_this_at, .int x_this_begun, .int x_this_token, .int x_this_value, .int x_this_opened, .int x_this_steps, .ref h_this_code0, .ref h_this_read, .ref h_this_saved, .ref h_this_plan, .ref h_this_bestPlan, .int x_this_most, .int x_this_many, .int x_this_few, .int x_this_everHome, .ref h_this_offThen, .ref h_this_paidThen, .int x_this_firstFit, .ref h_this_rows, .int x_this_rowMany, .ref h_this_sorts, .ref h_this_sizes, .ref h_this_number, .ref h_this_holds, .ref h_this_heldOne, .ref h_this_trace, .int x_this_traced, .int x_this_own, .int x_this_isParted]), (h_this_offThen, ia G 16 g_this_offThen), (h_this_paidThen, ia G 16 g_this_paidThen), (h_this_s, ia G 313 f_this_s)] [(0, .ref h_this), (1, .int p0), (2, .int p1), (4, .int v4), (5, .int v5), (6, .int v6)] := by
    intro n
    induction n with
    | zero =>
      intro v4 v5 v6 g_this_offThen g_this_paidThen hf
      replace hf : (none : Option _) = some _ := hf
      cases hf
    | succ n ih =>
      intro v4 v5 v6 g_this_offThen g_this_paidThen hf
      rw [f_X9_tellsLone_L9] at hf
      refine hK1 _ _ _ _ (fun H locs ls h hl => ?_)
      refine lv_iload hx hb dX9_tellsLone_9 (lv_at hl 5 rfl) ?_
      refine lv_bipush (v := (16 : Int32)) hx hb dX9_tellsLone_11 rfl ?_
      refine lv_icmp_ge (tgt := 105) hx hb dX9_tellsLone_13 rfl (fun c1 => ?_) (fun c1 => ?_)
      · replace hf := ifp c1 hf
        cases hf
        exact r_vret C h hr hlk dX9_tellsLone_105
      · replace hf := ifn c1 hf
        refine lv_aload_n hx hb dX9_tellsLone_16 rfl (lv_at hl 0 rfl) ?_
        refine r_get C h fk_X9_44 0 rfl rfl dX9_tellsLone_17 ?_
        refine lv_iload hx hb dX9_tellsLone_20 (lv_at hl 5 rfl) ?_
        refine lv_iload hx hb dX9_tellsLone_22 (lv_at hl 3 rfl) ?_
        replace hf := chkI_inv hf
        obtain ⟨hi2, hf⟩ := hf
        refine r_iast (ws' := [(h_this, ob 9 [.ref h_this_s, .ref h_this_kept, .ref h_this_laid, .int x_this_isKept, .ref h_this_pile, .ref h_this_tape, .int x_this_taped, .ref h_this_letters, .int x_this_at, .int x_this_begun, .int x_this_token, .int x_this_value, .int x_this_opened, .int x_this_steps, .ref h_this_code0, .ref h_this_read, .ref h_this_saved, .ref h_this_plan, .ref h_this_bestPlan, .int x_this_most, .int x_this_many, .int x_this_few, .int x_this_everHome, .ref h_this_offThen, .ref h_this_paidThen, .int x_this_firstFit, .ref h_this_rows, .int x_this_rowMany, .ref h_this_sorts, .ref h_this_sizes, .ref h_this_number, .ref h_this_holds, .ref h_this_heldOne, .ref h_this_trace, .int x_this_traced, .int x_this_own, .int x_this_isParted]), (h_this_offThen, ia G 16 (upd g_this_offThen v6.toNatClampNeg v4)), (h_this_paidThen, ia G 16 g_this_paidThen), (h_this_s, ia G 313 f_this_s)]) C h 1 rfl hi2 dX9_tellsLone_24 rfl (fun H locs h => ?_)
        refine lv_aload_n hx hb dX9_tellsLone_25 rfl (lv_at hl 0 rfl) ?_
        refine r_get C h fk_X9_47 0 rfl rfl dX9_tellsLone_26 ?_
        refine lv_iload hx hb dX9_tellsLone_29 (lv_at hl 5 rfl) ?_
        refine lv_iload hx hb dX9_tellsLone_31 (lv_at hl 4 rfl) ?_
        replace hf := chkI_inv hf
        obtain ⟨hi3, hf⟩ := hf
        refine r_iast (ws' := [(h_this, ob 9 [.ref h_this_s, .ref h_this_kept, .ref h_this_laid, .int x_this_isKept, .ref h_this_pile, .ref h_this_tape, .int x_this_taped, .ref h_this_letters, .int x_this_at, .int x_this_begun, .int x_this_token, .int x_this_value, .int x_this_opened, .int x_this_steps, .ref h_this_code0, .ref h_this_read, .ref h_this_saved, .ref h_this_plan, .ref h_this_bestPlan, .int x_this_most, .int x_this_many, .int x_this_few, .int x_this_everHome, .ref h_this_offThen, .ref h_this_paidThen, .int x_this_firstFit, .ref h_this_rows, .int x_this_rowMany, .ref h_this_sorts, .ref h_this_sizes, .ref h_this_number, .ref h_this_holds, .ref h_this_heldOne, .ref h_this_trace, .int x_this_traced, .int x_this_own, .int x_this_isParted]), (h_this_offThen, ia G 16 (upd g_this_offThen v6.toNatClampNeg v4)), (h_this_paidThen, ia G 16 (upd g_this_paidThen v6.toNatClampNeg v5)), (h_this_s, ia G 313 f_this_s)]) C h 2 rfl hi3 dX9_tellsLone_33 rfl (fun H locs h => ?_)
        refine lv_aload_n hx hb dX9_tellsLone_34 rfl (lv_at hl 0 rfl) ?_
        refine r_get C h fk_X9_9 0 rfl rfl dX9_tellsLone_35 ?_
        refine lv_bipush (v := (7 : Int32)) hx hb dX9_tellsLone_38 rfl ?_
        refine lv_iload hx hb dX9_tellsLone_40 (lv_at hl 5 rfl) ?_
        refine lv_iadd hx hb dX9_tellsLone_42 ?_
        replace hf := chkI_inv hf
        obtain ⟨hi4, hf⟩ := hf
        refine r_iald C h 3 rfl hi4 dX9_tellsLone_43 ?_
        refine lv_topi (fun t5 et5 => ?_)
        replace hf := lt1_inv et5 hf
        refine lv_istore (lv' := [(7, .int t5), (0, .ref h_this), (1, .int p0), (2, .int p1), (4, .int v4), (5, .int v5), (6, .int v6)]) hx hb dX9_tellsLone_44 hl (by decide) rfl (fun ls hl => ?_)
        refine lv_iload hx hb dX9_tellsLone_46 (lv_at hl 5 rfl) ?_
        refine lv_iload hx hb dX9_tellsLone_48 (lv_at hl 4 rfl) ?_
        refine lv_if_le (tgt := 71) hx hb dX9_tellsLone_50 rfl (fun c6 => ?_) (fun c6 => ?_)
        · replace hf := ifp c6 hf
          exact hK2 _ _ _ _ (B71 _ ih v4 v6 t5 v5 (upd g_this_offThen v6.toNatClampNeg v4) (upd g_this_paidThen v6.toNatClampNeg v5) hf) _ _ _ h (lv_sub hl [1, 2, 3, 4, 6, 0] rfl)
        · replace hf := ifn c6 hf
          refine lv_iload hx hb dX9_tellsLone_53 (lv_at hl 4 rfl) ?_
          refine lv_iload_n hx hb dX9_tellsLone_55 rfl (lv_at hl 2 rfl) ?_
          refine lv_iload_n hx hb dX9_tellsLone_56 rfl (lv_at hl 3 rfl) ?_
          refine lv_iload hx hb dX9_tellsLone_57 (lv_at hl 0 rfl) ?_
          refine lv_iconst (v := (4 : Int32)) hx hb dX9_tellsLone_59 rfl ?_
          refine lv_idiv hx hb dX9_tellsLone_60 (by decide) ?_
          replace hf := bd1_inv hf
          obtain ⟨r13, hc14, hf⟩ := hf
          refine r_ciS0 C h (c_X9_reachesBy hc14) ms_X9_91 rfl [] rfl rfl hl.1 rfl (Nat.le_of_ble_eq_true rfl) (rok (by decide)) dX9_tellsLone_61 (fun H locs h => ?_)
          refine lv_icmp_gt (tgt := 71) hx hb dX9_tellsLone_64 rfl (fun c15 => ?_) (fun c15 => ?_)
          · replace hf := ifp c15 hf
            exact hK2 _ _ _ _ (B71 _ ih v4 v6 t5 v5 (upd g_this_offThen v6.toNatClampNeg v4) (upd g_this_paidThen v6.toNatClampNeg v5) hf) _ _ _ h (lv_sub hl [1, 2, 3, 4, 6, 0] rfl)
          · replace hf := ifn c15 hf
            refine lv_iconst (v := (1 : Int32)) hx hb dX9_tellsLone_67 rfl ?_
            refine lv_goto (tgt := 72) hx hb dX9_tellsLone_68 rfl ?_
            exact hK2 _ _ _ _ (B72 _ ih v4 v6 t5 v5 (1 : Int32) (upd g_this_offThen v6.toNatClampNeg v4) (upd g_this_paidThen v6.toNatClampNeg v5) hf) _ _ _ h (lv_sub hl [1, 2, 3, 4, 6, 0] rfl)
  refine lv_iload_n hx hb dX9_tellsLone_0 rfl (lv_at hl 3 rfl) ?_
  refine lv_istore (lv' := [(4, .int p2), (0, .ref h_this), (1, .int p0), (2, .int p1), (3, .int p2)]) hx hb dX9_tellsLone_1 hl (by decide) rfl (fun ls hl => ?_)
  refine lv_iconst (v := (0 : Int32)) hx hb dX9_tellsLone_3 rfl ?_
  refine lv_istore (lv' := [(5, .int (0 : Int32)), (4, .int p2), (0, .ref h_this), (1, .int p0), (2, .int p1), (3, .int p2)]) hx hb dX9_tellsLone_4 hl (by decide) rfl (fun ls hl => ?_)
  refine lv_iconst (v := (0 : Int32)) hx hb dX9_tellsLone_6 rfl ?_
  refine lv_istore (lv' := [(6, .int (0 : Int32)), (5, .int (0 : Int32)), (4, .int p2), (0, .ref h_this), (1, .int p0), (2, .int p1), (3, .int p2)]) hx hb dX9_tellsLone_7 hl (by decide) rfl (fun ls hl => ?_)
  exact hK2 _ _ _ _ (L9 1000 p2 (0 : Int32) (0 : Int32) f_this_offThen f_this_paidThen hf) _ _ _ h (lv_sub hl [3, 4, 5, 2, 1, 0] rfl)
set_option maxRecDepth 100000 in
set_option maxHeartbeats 4000000 in
theorem c_X9_isSo {l : Launch} {G : Gt} {h_this h_this_s h_this_kept h_this_laid h_this_pile h_this_tape h_this_letters h_this_code0 h_this_read h_this_saved h_this_plan h_this_bestPlan h_this_offThen h_this_paidThen h_this_rows h_this_sorts h_this_sizes h_this_number h_this_holds h_this_heldOne h_this_trace : Nat} {p0 : Int32} {x_this_isKept : Int32} {x_this_taped : Int32} {x_this_at : Int32} {x_this_begun : Int32} {x_this_token : Int32} {x_this_value : Int32} {x_this_opened : Int32} {x_this_steps : Int32} {x_this_most : Int32} {x_this_many : Int32} {x_this_few : Int32} {x_this_everHome : Int32} {x_this_firstFit : Int32} {x_this_rowMany : Int32} {x_this_traced : Int32} {x_this_own : Int32} {x_this_isParted : Int32} {f_this_offThen : Nat → Int32} {f_this_paidThen : Nat → Int32} {f_this_s : Nat → Int32} {r : Int32} (hf : f_X9_isSo p0 f_this_offThen f_this_paidThen f_this_s = some r) : mFi l G yX9_isSo cX9_isSo 3 .boolean 1 [.ref h_this, .int p0] [(h_this, ob 9 [.ref h_this_s, .ref h_this_kept, .ref h_this_laid, .int x_this_isKept, .ref h_this_pile, .ref h_this_tape, .int x_this_taped, .ref h_this_letters, .int x_this_at, .int x_this_begun, .int x_this_token, .int x_this_value, .int x_this_opened, .int x_this_steps, .ref h_this_code0, .ref h_this_read, .ref h_this_saved, .ref h_this_plan, .ref h_this_bestPlan, .int x_this_most, .int x_this_many, .int x_this_few, .int x_this_everHome, .ref h_this_offThen, .ref h_this_paidThen, .int x_this_firstFit, .ref h_this_rows, .int x_this_rowMany, .ref h_this_sorts, .ref h_this_sizes, .ref h_this_number, .ref h_this_holds, .ref h_this_heldOne, .ref h_this_trace, .int x_this_traced, .int x_this_own, .int x_this_isParted]), (h_this_offThen, ia G 16 f_this_offThen), (h_this_paidThen, ia G 16 f_this_paidThen), (h_this_s, ia G 313 f_this_s)] r [(h_this, ob 9 [.ref h_this_s, .ref h_this_kept, .ref h_this_laid, .int x_this_isKept, .ref h_this_pile, .ref h_this_tape, .int x_this_taped, .ref h_this_letters, .int x_this_at, .int x_this_begun, .int x_this_token, .int x_this_value, .int x_this_opened, .int x_this_steps, .ref h_this_code0, .ref h_this_read, .ref h_this_saved, .ref h_this_plan, .ref h_this_bestPlan, .int x_this_most, .int x_this_many, .int x_this_few, .int x_this_everHome, .ref h_this_offThen, .ref h_this_paidThen, .int x_this_firstFit, .ref h_this_rows, .int x_this_rowMany, .ref h_this_sorts, .ref h_this_sizes, .ref h_this_number, .ref h_this_holds, .ref h_this_heldOne, .ref h_this_trace, .int x_this_traced, .int x_this_own, .int x_this_isParted]), (h_this_offThen, ia G 16 f_this_offThen), (h_this_paidThen, ia G 16 f_this_paidThen), (h_this_s, ia G 313 f_this_s)] := by
  refine mFi.of (by decide +kernel) (Nat.le_of_ble_eq_true rfl) ?_
  intro p e s m below meth c A C hr hlk h ls hl
  obtain ⟨hx, hb, hml, hown, hts⟩ := id C
  replace hl : lv_has ls 3 [(0, .ref h_this), (1, .int p0)] := hl
  unfold f_X9_isSo at hf
  refine with_K G A 3 (fun K hK1 hK2 => ?_)
  have B43 : ∀ (v2 : Int32) (s0 : Int32), f_X9_isSo_b43 f_this_s v2 s0 = some r → K 43 [.int s0] [(h_this, ob 9 [.ref h_this_s, .ref h_this_kept, .ref h_this_laid, .int x_this_isKept, .ref h_this_pile, .ref h_this_tape, .int x_this_taped, .ref h_this_letters, .int x_this_at, .int x_this_begun, .int x_this_token, .int x_this_value, .int x_this_opened, .int x_this_steps, .ref h_this_code0, .ref h_this_read, .ref h_this_saved, .ref h_this_plan, .ref h_this_bestPlan, .int x_this_most, .int x_this_many, .int x_this_few, .int x_this_everHome, .ref h_this_offThen, .ref h_this_paidThen, .int x_this_firstFit, .ref h_this_rows, .int x_this_rowMany, .ref h_this_sorts, .ref h_this_sizes, .ref h_this_number, .ref h_this_holds, .ref h_this_heldOne, .ref h_this_trace, .int x_this_traced, .int x_this_own, .int x_this_isParted]), (h_this_offThen, ia G 16 f_this_offThen), (h_this_paidThen, ia G 16 f_this_paidThen), (h_this_s, ia G 313 f_this_s)] [(0, .ref h_this), (2, .int v2)] := by
    intro v2 s0 hf
    unfold f_X9_isSo_b43 at hf
    refine hK1 _ _ _ _ (fun H locs ls h hl => ?_)
    refine lv_aload_n hx hb dX9_isSo_43 rfl (lv_at hl 0 rfl) ?_
    refine r_get C h fk_X9_9 0 rfl rfl dX9_isSo_44 ?_
    refine lv_iload_n hx hb dX9_isSo_47 rfl (lv_at hl 1 rfl) ?_
    refine lv_iconst (v := (2 : Int32)) hx hb dX9_isSo_48 rfl ?_
    refine lv_iadd hx hb dX9_isSo_49 ?_
    replace hf := chkI_inv hf
    obtain ⟨hi6, hf⟩ := hf
    refine r_iald C h 3 rfl hi6 dX9_isSo_50 ?_
    refine lv_aload_n hx hb dX9_isSo_51 rfl (lv_at hl 0 rfl) ?_
    refine r_get C h fk_X9_9 0 rfl rfl dX9_isSo_52 ?_
    refine lv_iload_n hx hb dX9_isSo_55 rfl (lv_at hl 1 rfl) ?_
    refine lv_iconst (v := (3 : Int32)) hx hb dX9_isSo_56 rfl ?_
    refine lv_iadd hx hb dX9_isSo_57 ?_
    replace hf := chkI_inv hf
    obtain ⟨hi7, hf⟩ := hf
    refine r_iald C h 3 rfl hi7 dX9_isSo_58 ?_
    replace hf := bd1_inv hf
    obtain ⟨r8, hc9, hf⟩ := hf
    refine r_ciS0 C h (c_X9_in1 hc9) ms_X9_71 rfl [] rfl rfl hl.1 rfl (Nat.le_of_ble_eq_true rfl) (rok (by decide)) dX9_isSo_59 (fun H locs h => ?_)
    replace hf := chkB_inv hf
    obtain ⟨hb10, hf⟩ := hf
    cases hf
    exact r_iret C h hr hlk hb10 dX9_isSo_62
  refine lv_bipush (v := (65 : Int32)) hx hb dX9_isSo_0 rfl ?_
  refine lv_iconst (v := (4 : Int32)) hx hb dX9_isSo_2 rfl ?_
  refine lv_iload_n hx hb dX9_isSo_3 rfl (lv_at hl 1 rfl) ?_
  refine lv_imul hx hb dX9_isSo_4 ?_
  refine lv_iadd hx hb dX9_isSo_5 ?_
  refine lv_topi (fun t1 et1 => ?_)
  replace hf := lt1_inv et1 hf
  refine lv_istore_n (lv' := [(2, .int t1), (0, .ref h_this), (1, .int p0)]) hx hb dX9_isSo_6 rfl hl (by decide) rfl (fun ls hl => ?_)
  refine lv_aload_n hx hb dX9_isSo_7 rfl (lv_at hl 1 rfl) ?_
  refine r_get C h fk_X9_9 0 rfl rfl dX9_isSo_8 ?_
  refine lv_iload_n hx hb dX9_isSo_11 rfl (lv_at hl 0 rfl) ?_
  refine lv_iconst (v := (1 : Int32)) hx hb dX9_isSo_12 rfl ?_
  refine lv_iadd hx hb dX9_isSo_13 ?_
  replace hf := chkI_inv hf
  obtain ⟨hi2, hf⟩ := hf
  refine r_iald C h 3 rfl hi2 dX9_isSo_14 ?_
  refine lv_if_ne (tgt := 32) hx hb dX9_isSo_15 rfl (fun c3 => ?_) (fun c3 => ?_)
  · replace hf := ifn c3 hf
    refine lv_aload_n hx hb dX9_isSo_32 rfl (lv_at hl 1 rfl) ?_
    refine r_get C h fk_X9_47 0 rfl rfl dX9_isSo_33 ?_
    refine lv_aload_n hx hb dX9_isSo_36 rfl (lv_at hl 1 rfl) ?_
    refine r_get C h fk_X9_9 0 rfl rfl dX9_isSo_37 ?_
    refine lv_iload_n hx hb dX9_isSo_40 rfl (lv_at hl 0 rfl) ?_
    replace hf := chkI_inv hf
    obtain ⟨hi4, hf⟩ := hf
    refine r_iald C h 3 rfl hi4 dX9_isSo_41 ?_
    replace hf := chkI_inv hf
    obtain ⟨hi5, hf⟩ := hf
    refine r_iald C h 2 rfl hi5 dX9_isSo_42 ?_
    exact hK2 _ _ _ _ (B43 t1 (f_this_paidThen (f_this_s t1.toNatClampNeg).toNatClampNeg) hf) _ _ _ h (lv_sub hl [1, 0] rfl)
  · replace hf := ifp c3 hf
    refine lv_aload_n hx hb dX9_isSo_18 rfl (lv_at hl 1 rfl) ?_
    refine r_get C h fk_X9_44 0 rfl rfl dX9_isSo_19 ?_
    refine lv_aload_n hx hb dX9_isSo_22 rfl (lv_at hl 1 rfl) ?_
    refine r_get C h fk_X9_9 0 rfl rfl dX9_isSo_23 ?_
    refine lv_iload_n hx hb dX9_isSo_26 rfl (lv_at hl 0 rfl) ?_
    replace hf := chkI_inv hf
    obtain ⟨hi11, hf⟩ := hf
    refine r_iald C h 3 rfl hi11 dX9_isSo_27 ?_
    replace hf := chkI_inv hf
    obtain ⟨hi12, hf⟩ := hf
    refine r_iald C h 1 rfl hi12 dX9_isSo_28 ?_
    refine lv_goto (tgt := 43) hx hb dX9_isSo_29 rfl ?_
    exact hK2 _ _ _ _ (B43 t1 (f_this_offThen (f_this_s t1.toNatClampNeg).toNatClampNeg) hf) _ _ _ h (lv_sub hl [1, 0] rfl)
set_option maxRecDepth 100000 in
set_option maxHeartbeats 4000000 in
theorem c_X9_fitting {l : Launch} {G : Gt} {h_this h_this_s h_this_kept h_this_laid h_this_pile h_this_tape h_this_letters h_this_code0 h_this_read h_this_saved h_this_plan h_this_bestPlan h_this_offThen h_this_paidThen h_this_rows h_this_sorts h_this_sizes h_this_number h_this_holds h_this_heldOne h_this_trace : Nat} {p0 : Int32} {x_this_isKept : Int32} {x_this_taped : Int32} {x_this_at : Int32} {x_this_begun : Int32} {x_this_token : Int32} {x_this_value : Int32} {x_this_opened : Int32} {x_this_steps : Int32} {x_this_most : Int32} {x_this_many : Int32} {x_this_few : Int32} {x_this_everHome : Int32} {x_this_firstFit : Int32} {x_this_rowMany : Int32} {x_this_traced : Int32} {x_this_own : Int32} {x_this_isParted : Int32} {f_this_offThen : Nat → Int32} {f_this_paidThen : Nat → Int32} {f_this_s : Nat → Int32} {r : Int32} {m_this_firstFit : Int32} {m_this_offThen : Nat → Int32} {m_this_paidThen : Nat → Int32} (hf : f_X9_fitting p0 f_this_offThen f_this_paidThen f_this_s = some (r, m_this_firstFit, m_this_offThen, m_this_paidThen)) : mFi l G yX9_fitting cX9_fitting 6 .int 2 [.ref h_this, .int p0] [(h_this, ob 9 [.ref h_this_s, .ref h_this_kept, .ref h_this_laid, .int x_this_isKept, .ref h_this_pile, .ref h_this_tape, .int x_this_taped, .ref h_this_letters, .int x_this_at, .int x_this_begun, .int x_this_token, .int x_this_value, .int x_this_opened, .int x_this_steps, .ref h_this_code0, .ref h_this_read, .ref h_this_saved, .ref h_this_plan, .ref h_this_bestPlan, .int x_this_most, .int x_this_many, .int x_this_few, .int x_this_everHome, .ref h_this_offThen, .ref h_this_paidThen, .int x_this_firstFit, .ref h_this_rows, .int x_this_rowMany, .ref h_this_sorts, .ref h_this_sizes, .ref h_this_number, .ref h_this_holds, .ref h_this_heldOne, .ref h_this_trace, .int x_this_traced, .int x_this_own, .int x_this_isParted]), (h_this_offThen, ia G 16 f_this_offThen), (h_this_paidThen, ia G 16 f_this_paidThen), (h_this_s, ia G 313 f_this_s)] r [(h_this, ob 9 [.ref h_this_s, .ref h_this_kept, .ref h_this_laid, .int x_this_isKept, .ref h_this_pile, .ref h_this_tape, .int x_this_taped, .ref h_this_letters, .int x_this_at, .int x_this_begun, .int x_this_token, .int x_this_value, .int x_this_opened, .int x_this_steps, .ref h_this_code0, .ref h_this_read, .ref h_this_saved, .ref h_this_plan, .ref h_this_bestPlan, .int x_this_most, .int x_this_many, .int x_this_few, .int x_this_everHome, .ref h_this_offThen, .ref h_this_paidThen, .int m_this_firstFit, .ref h_this_rows, .int x_this_rowMany, .ref h_this_sorts, .ref h_this_sizes, .ref h_this_number, .ref h_this_holds, .ref h_this_heldOne, .ref h_this_trace, .int x_this_traced, .int x_this_own, .int x_this_isParted]), (h_this_offThen, ia G 16 m_this_offThen), (h_this_paidThen, ia G 16 m_this_paidThen), (h_this_s, ia G 313 f_this_s)] := by
  refine mFi.of (by decide +kernel) (Nat.le_of_ble_eq_true rfl) ?_
  intro p e s m below meth c A C hr hlk h ls hl
  obtain ⟨hx, hb, hml, hown, hts⟩ := id C
  replace hl : lv_has ls 6 [(0, .ref h_this), (1, .int p0)] := hl
  unfold f_X9_fitting at hf
  refine with_K G A 6 (fun K hK1 hK2 => ?_)
  have B105 : ∀ (rec9 : Int32 → Int32 → Int32 → (Nat → Int32) → (Nat → Int32) → Option (Int32 × Int32 × (Nat → Int32) × (Nat → Int32))) (hrec9 : ∀ (v2 : Int32) (v3 : Int32) (y_this_firstFit : Int32) (g_this_offThen : Nat → Int32) (g_this_paidThen : Nat → Int32), rec9 v2 v3 y_this_firstFit g_this_offThen g_this_paidThen = some (r, m_this_firstFit, m_this_offThen, m_this_paidThen) → K 9 ([] : List Value) [(h_this, ob 9 [.ref h_this_s, .ref h_this_kept, .ref h_this_laid, .int x_this_isKept, .ref h_this_pile, .ref h_this_tape, .int x_this_taped, .ref h_this_letters, .int x_this_at, .int x_this_begun, .int x_this_token, .int x_this_value, .int x_this_opened, .int x_this_steps, .ref h_this_code0, .ref h_this_read, .ref h_this_saved, .ref h_this_plan, .ref h_this_bestPlan, .int x_this_most, .int x_this_many, .int x_this_few, .int x_this_everHome, .ref h_this_offThen, .ref h_this_paidThen, .int y_this_firstFit, .ref h_this_rows, .int x_this_rowMany, .ref h_this_sorts, .ref h_this_sizes, .ref h_this_number, .ref h_this_holds, .ref h_this_heldOne, .ref h_this_trace, .int x_this_traced, .int x_this_own, .int x_this_isParted]), (h_this_offThen, ia G 16 g_this_offThen), (h_this_paidThen, ia G 16 g_this_paidThen), (h_this_s, ia G 313 f_this_s)] [(0, .ref h_this), (1, .int p0), (2, .int v2), (3, .int v3)]) (v3 : Int32) (v4 : Int32) (s0 : Int32) (s1 : Int32) (y_this_firstFit : Int32) (g_this_offThen : Nat → Int32) (g_this_paidThen : Nat → Int32), f_X9_fitting_b105 rec9 v3 v4 s0 s1 y_this_firstFit g_this_offThen g_this_paidThen = some (r, m_this_firstFit, m_this_offThen, m_this_paidThen) → K 105 [.int s1, .int s0] [(h_this, ob 9 [.ref h_this_s, .ref h_this_kept, .ref h_this_laid, .int x_this_isKept, .ref h_this_pile, .ref h_this_tape, .int x_this_taped, .ref h_this_letters, .int x_this_at, .int x_this_begun, .int x_this_token, .int x_this_value, .int x_this_opened, .int x_this_steps, .ref h_this_code0, .ref h_this_read, .ref h_this_saved, .ref h_this_plan, .ref h_this_bestPlan, .int x_this_most, .int x_this_many, .int x_this_few, .int x_this_everHome, .ref h_this_offThen, .ref h_this_paidThen, .int y_this_firstFit, .ref h_this_rows, .int x_this_rowMany, .ref h_this_sorts, .ref h_this_sizes, .ref h_this_number, .ref h_this_holds, .ref h_this_heldOne, .ref h_this_trace, .int x_this_traced, .int x_this_own, .int x_this_isParted]), (h_this_offThen, ia G 16 g_this_offThen), (h_this_paidThen, ia G 16 g_this_paidThen), (h_this_s, ia G 313 f_this_s)] [(0, .ref h_this), (1, .int p0), (3, .int v3), (4, .int v4)] := by
    intro rec9 hrec9 v3 v4 s0 s1 y_this_firstFit g_this_offThen g_this_paidThen hf
    unfold f_X9_fitting_b105 at hf
    refine hK1 _ _ _ _ (fun H locs ls h hl => ?_)
    refine lv_iadd hx hb dX9_fitting_105 ?_
    refine lv_topi (fun t7 et7 => ?_)
    replace hf := lt1_inv et7 hf
    refine lv_istore_n (lv' := [(2, .int t7), (0, .ref h_this), (1, .int p0), (3, .int v3), (4, .int v4)]) hx hb dX9_fitting_106 rfl hl (by decide) rfl (fun ls hl => ?_)
    refine lv_aload_n hx hb dX9_fitting_107 rfl (lv_at hl 1 rfl) ?_
    refine lv_iload hx hb dX9_fitting_108 (lv_at hl 4 rfl) ?_
    refine lv_if_eq (tgt := 124) hx hb dX9_fitting_110 rfl (fun c8 => ?_) (fun c8 => ?_)
    · replace hf := ifp c8 hf
      refine lv_aload_n hx hb dX9_fitting_124 rfl (lv_at hl 1 rfl) ?_
      refine r_get C h fk_X9_304 0 rfl rfl dX9_fitting_125 ?_
      refine r_put (ws' := [(h_this, ob 9 [.ref h_this_s, .ref h_this_kept, .ref h_this_laid, .int x_this_isKept, .ref h_this_pile, .ref h_this_tape, .int x_this_taped, .ref h_this_letters, .int x_this_at, .int x_this_begun, .int x_this_token, .int x_this_value, .int x_this_opened, .int x_this_steps, .ref h_this_code0, .ref h_this_read, .ref h_this_saved, .ref h_this_plan, .ref h_this_bestPlan, .int x_this_most, .int x_this_many, .int x_this_few, .int x_this_everHome, .ref h_this_offThen, .ref h_this_paidThen, .int y_this_firstFit, .ref h_this_rows, .int x_this_rowMany, .ref h_this_sorts, .ref h_this_sizes, .ref h_this_number, .ref h_this_holds, .ref h_this_heldOne, .ref h_this_trace, .int x_this_traced, .int x_this_own, .int x_this_isParted]), (h_this_offThen, ia G 16 g_this_offThen), (h_this_paidThen, ia G 16 g_this_paidThen), (h_this_s, ia G 313 f_this_s)]) C h fw_X9_304 0 rfl rfl rfl (Nat.le_of_ble_eq_true rfl) dX9_fitting_128 rfl (fun H locs h => ?_)
      obtain ⟨t9, et9⟩ : ∃ y : Int32, y = v3 + (1 : Int32) := ⟨_, rfl⟩
      replace hf := lt1_inv et9 hf
      refine lv_iinc (v := t9) (lv' := [(3, .int t9), (2, .int t7), (0, .ref h_this), (1, .int p0), (4, .int v4)]) hx hb dX9_fitting_131 hl (k := 3) rfl (by rw [et9]; rfl) (by decide) rfl (fun ls hl => ?_)
      refine lv_goto (tgt := 9) hx hb dX9_fitting_134 rfl ?_
      exact hK2 _ _ _ _ (hrec9 t7 t9 y_this_firstFit g_this_offThen g_this_paidThen hf) _ _ _ h (lv_sub hl [2, 3, 1, 0] rfl)
    · replace hf := ifn c8 hf
      refine lv_aload_n hx hb dX9_fitting_113 rfl (lv_at hl 1 rfl) ?_
      refine r_get C h fk_X9_304 0 rfl rfl dX9_fitting_114 ?_
      refine lv_if_ge (tgt := 124) hx hb dX9_fitting_117 rfl (fun c10 => ?_) (fun c10 => ?_)
      · replace hf := ifp c10 hf
        refine lv_aload_n hx hb dX9_fitting_124 rfl (lv_at hl 1 rfl) ?_
        refine r_get C h fk_X9_304 0 rfl rfl dX9_fitting_125 ?_
        refine r_put (ws' := [(h_this, ob 9 [.ref h_this_s, .ref h_this_kept, .ref h_this_laid, .int x_this_isKept, .ref h_this_pile, .ref h_this_tape, .int x_this_taped, .ref h_this_letters, .int x_this_at, .int x_this_begun, .int x_this_token, .int x_this_value, .int x_this_opened, .int x_this_steps, .ref h_this_code0, .ref h_this_read, .ref h_this_saved, .ref h_this_plan, .ref h_this_bestPlan, .int x_this_most, .int x_this_many, .int x_this_few, .int x_this_everHome, .ref h_this_offThen, .ref h_this_paidThen, .int y_this_firstFit, .ref h_this_rows, .int x_this_rowMany, .ref h_this_sorts, .ref h_this_sizes, .ref h_this_number, .ref h_this_holds, .ref h_this_heldOne, .ref h_this_trace, .int x_this_traced, .int x_this_own, .int x_this_isParted]), (h_this_offThen, ia G 16 g_this_offThen), (h_this_paidThen, ia G 16 g_this_paidThen), (h_this_s, ia G 313 f_this_s)]) C h fw_X9_304 0 rfl rfl rfl (Nat.le_of_ble_eq_true rfl) dX9_fitting_128 rfl (fun H locs h => ?_)
        obtain ⟨t11, et11⟩ : ∃ y : Int32, y = v3 + (1 : Int32) := ⟨_, rfl⟩
        replace hf := lt1_inv et11 hf
        refine lv_iinc (v := t11) (lv' := [(3, .int t11), (2, .int t7), (0, .ref h_this), (1, .int p0), (4, .int v4)]) hx hb dX9_fitting_131 hl (k := 3) rfl (by rw [et11]; rfl) (by decide) rfl (fun ls hl => ?_)
        refine lv_goto (tgt := 9) hx hb dX9_fitting_134 rfl ?_
        exact hK2 _ _ _ _ (hrec9 t7 t11 y_this_firstFit g_this_offThen g_this_paidThen hf) _ _ _ h (lv_sub hl [2, 3, 1, 0] rfl)
      · replace hf := ifn c10 hf
        refine lv_iload_n hx hb dX9_fitting_120 rfl (lv_at hl 3 rfl) ?_
        refine lv_goto (tgt := 128) hx hb dX9_fitting_121 rfl ?_
        refine r_put (ws' := [(h_this, ob 9 [.ref h_this_s, .ref h_this_kept, .ref h_this_laid, .int x_this_isKept, .ref h_this_pile, .ref h_this_tape, .int x_this_taped, .ref h_this_letters, .int x_this_at, .int x_this_begun, .int x_this_token, .int x_this_value, .int x_this_opened, .int x_this_steps, .ref h_this_code0, .ref h_this_read, .ref h_this_saved, .ref h_this_plan, .ref h_this_bestPlan, .int x_this_most, .int x_this_many, .int x_this_few, .int x_this_everHome, .ref h_this_offThen, .ref h_this_paidThen, .int v3, .ref h_this_rows, .int x_this_rowMany, .ref h_this_sorts, .ref h_this_sizes, .ref h_this_number, .ref h_this_holds, .ref h_this_heldOne, .ref h_this_trace, .int x_this_traced, .int x_this_own, .int x_this_isParted]), (h_this_offThen, ia G 16 g_this_offThen), (h_this_paidThen, ia G 16 g_this_paidThen), (h_this_s, ia G 313 f_this_s)]) C h fw_X9_304 0 rfl rfl rfl (Nat.le_of_ble_eq_true rfl) dX9_fitting_128 rfl (fun H locs h => ?_)
        obtain ⟨t12, et12⟩ : ∃ y : Int32, y = v3 + (1 : Int32) := ⟨_, rfl⟩
        replace hf := lt1_inv et12 hf
        refine lv_iinc (v := t12) (lv' := [(3, .int t12), (2, .int t7), (0, .ref h_this), (1, .int p0), (4, .int v4)]) hx hb dX9_fitting_131 hl (k := 3) rfl (by rw [et12]; rfl) (by decide) rfl (fun ls hl => ?_)
        refine lv_goto (tgt := 9) hx hb dX9_fitting_134 rfl ?_
        exact hK2 _ _ _ _ (hrec9 t7 t12 v3 g_this_offThen g_this_paidThen hf) _ _ _ h (lv_sub hl [2, 3, 1, 0] rfl)
  have B94 : ∀ (rec9 : Int32 → Int32 → Int32 → (Nat → Int32) → (Nat → Int32) → Option (Int32 × Int32 × (Nat → Int32) × (Nat → Int32))) (hrec9 : ∀ (v2 : Int32) (v3 : Int32) (y_this_firstFit : Int32) (g_this_offThen : Nat → Int32) (g_this_paidThen : Nat → Int32), rec9 v2 v3 y_this_firstFit g_this_offThen g_this_paidThen = some (r, m_this_firstFit, m_this_offThen, m_this_paidThen) → K 9 ([] : List Value) [(h_this, ob 9 [.ref h_this_s, .ref h_this_kept, .ref h_this_laid, .int x_this_isKept, .ref h_this_pile, .ref h_this_tape, .int x_this_taped, .ref h_this_letters, .int x_this_at, .int x_this_begun, .int x_this_token, .int x_this_value, .int x_this_opened, .int x_this_steps, .ref h_this_code0, .ref h_this_read, .ref h_this_saved, .ref h_this_plan, .ref h_this_bestPlan, .int x_this_most, .int x_this_many, .int x_this_few, .int x_this_everHome, .ref h_this_offThen, .ref h_this_paidThen, .int y_this_firstFit, .ref h_this_rows, .int x_this_rowMany, .ref h_this_sorts, .ref h_this_sizes, .ref h_this_number, .ref h_this_holds, .ref h_this_heldOne, .ref h_this_trace, .int x_this_traced, .int x_this_own, .int x_this_isParted]), (h_this_offThen, ia G 16 g_this_offThen), (h_this_paidThen, ia G 16 g_this_paidThen), (h_this_s, ia G 313 f_this_s)] [(0, .ref h_this), (1, .int p0), (2, .int v2), (3, .int v3)]) (v2 : Int32) (v3 : Int32) (v4 : Int32) (y_this_firstFit : Int32) (g_this_offThen : Nat → Int32) (g_this_paidThen : Nat → Int32), f_X9_fitting_b94 rec9 v2 v3 v4 y_this_firstFit g_this_offThen g_this_paidThen = some (r, m_this_firstFit, m_this_offThen, m_this_paidThen) → K 94 ([] : List Value) [(h_this, ob 9 [.ref h_this_s, .ref h_this_kept, .ref h_this_laid, .int x_this_isKept, .ref h_this_pile, .ref h_this_tape, .int x_this_taped, .ref h_this_letters, .int x_this_at, .int x_this_begun, .int x_this_token, .int x_this_value, .int x_this_opened, .int x_this_steps, .ref h_this_code0, .ref h_this_read, .ref h_this_saved, .ref h_this_plan, .ref h_this_bestPlan, .int x_this_most, .int x_this_many, .int x_this_few, .int x_this_everHome, .ref h_this_offThen, .ref h_this_paidThen, .int y_this_firstFit, .ref h_this_rows, .int x_this_rowMany, .ref h_this_sorts, .ref h_this_sizes, .ref h_this_number, .ref h_this_holds, .ref h_this_heldOne, .ref h_this_trace, .int x_this_traced, .int x_this_own, .int x_this_isParted]), (h_this_offThen, ia G 16 g_this_offThen), (h_this_paidThen, ia G 16 g_this_paidThen), (h_this_s, ia G 313 f_this_s)] [(0, .ref h_this), (1, .int p0), (2, .int v2), (3, .int v3), (4, .int v4)] := by
    intro rec9 hrec9 v2 v3 v4 y_this_firstFit g_this_offThen g_this_paidThen hf
    unfold f_X9_fitting_b94 at hf
    refine hK1 _ _ _ _ (fun H locs ls h hl => ?_)
    refine lv_iload_n hx hb dX9_fitting_94 rfl (lv_at hl 2 rfl) ?_
    refine lv_iload hx hb dX9_fitting_95 (lv_at hl 4 rfl) ?_
    refine lv_if_eq (tgt := 104) hx hb dX9_fitting_97 rfl (fun c6 => ?_) (fun c6 => ?_)
    · replace hf := ifp c6 hf
      refine lv_iconst (v := (0 : Int32)) hx hb dX9_fitting_104 rfl ?_
      exact hK2 _ _ _ _ (B105 _ hrec9 v3 v4 v2 (0 : Int32) y_this_firstFit g_this_offThen g_this_paidThen hf) _ _ _ h (lv_sub hl [0, 1, 3, 4] rfl)
    · replace hf := ifn c6 hf
      refine lv_iconst (v := (1 : Int32)) hx hb dX9_fitting_100 rfl ?_
      refine lv_goto (tgt := 105) hx hb dX9_fitting_101 rfl ?_
      exact hK2 _ _ _ _ (B105 _ hrec9 v3 v4 v2 (1 : Int32) y_this_firstFit g_this_offThen g_this_paidThen hf) _ _ _ h (lv_sub hl [0, 1, 3, 4] rfl)
  have L49 : ∀ (rec9 : Int32 → Int32 → Int32 → (Nat → Int32) → (Nat → Int32) → Option (Int32 × Int32 × (Nat → Int32) × (Nat → Int32))) (hrec9 : ∀ (v2 : Int32) (v3 : Int32) (y_this_firstFit : Int32) (g_this_offThen : Nat → Int32) (g_this_paidThen : Nat → Int32), rec9 v2 v3 y_this_firstFit g_this_offThen g_this_paidThen = some (r, m_this_firstFit, m_this_offThen, m_this_paidThen) → K 9 ([] : List Value) [(h_this, ob 9 [.ref h_this_s, .ref h_this_kept, .ref h_this_laid, .int x_this_isKept, .ref h_this_pile, .ref h_this_tape, .int x_this_taped, .ref h_this_letters, .int x_this_at, .int x_this_begun, .int x_this_token, .int x_this_value, .int x_this_opened, .int x_this_steps, .ref h_this_code0, .ref h_this_read, .ref h_this_saved, .ref h_this_plan, .ref h_this_bestPlan, .int x_this_most, .int x_this_many, .int x_this_few, .int x_this_everHome, .ref h_this_offThen, .ref h_this_paidThen, .int y_this_firstFit, .ref h_this_rows, .int x_this_rowMany, .ref h_this_sorts, .ref h_this_sizes, .ref h_this_number, .ref h_this_holds, .ref h_this_heldOne, .ref h_this_trace, .int x_this_traced, .int x_this_own, .int x_this_isParted]), (h_this_offThen, ia G 16 g_this_offThen), (h_this_paidThen, ia G 16 g_this_paidThen), (h_this_s, ia G 313 f_this_s)] [(0, .ref h_this), (1, .int p0), (2, .int v2), (3, .int v3)]) (n : Nat) (v2 : Int32) (v3 : Int32) (v4 : Int32) (v5 : Int32) (y_this_firstFit : Int32) (g_this_offThen : Nat → Int32) (g_this_paidThen : Nat → Int32), f_X9_fitting_L49 rec9 p0 f_this_s n v2 v3 v4 v5 y_this_firstFit g_this_offThen g_this_paidThen = some (r, m_this_firstFit, m_this_offThen, m_this_paidThen) → K 49 ([] : List Value) [(h_this, ob 9 [.ref h_this_s, .ref h_this_kept, .ref h_this_laid, .int x_this_isKept, .ref h_this_pile, .ref h_this_tape, .int x_this_taped, .ref h_this_letters, .int x_this_at, .int x_this_begun, .int x_this_token, .int x_this_value, .int x_this_opened, .int x_this_steps, .ref h_this_code0, .ref h_this_read, .ref h_this_saved, .ref h_this_plan, .ref h_this_bestPlan, .int x_this_most, .int x_this_many, .int x_this_few, .int x_this_everHome, .ref h_this_offThen, .ref h_this_paidThen, .int y_this_firstFit, .ref h_this_rows, .int x_this_rowMany, .ref h_this_sorts, .ref h_this_sizes, .ref h_this_number, .ref h_this_holds, .ref h_this_heldOne, .ref h_this_trace, .int x_this_traced, .int x_this_own, .int x_this_isParted]), (h_this_offThen, ia G 16 g_this_offThen), (h_this_paidThen, ia G 16 g_this_paidThen), (h_this_s, ia G 313 f_this_s)] [(0, .ref h_this), (1, .int p0), (2, .int v2), (3, .int v3), (4, .int v4), (5, .int v5)] := by
    intro rec9 hrec9 n
    induction n with
    | zero =>
      intro v2 v3 v4 v5 y_this_firstFit g_this_offThen g_this_paidThen hf
      replace hf : (none : Option _) = some _ := hf
      cases hf
    | succ n ih =>
      intro v2 v3 v4 v5 y_this_firstFit g_this_offThen g_this_paidThen hf
      rw [f_X9_fitting_L49] at hf
      refine hK1 _ _ _ _ (fun H locs ls h hl => ?_)
      refine lv_iload hx hb dX9_fitting_49 (lv_at hl 5 rfl) ?_
      refine lv_aload_n hx hb dX9_fitting_51 rfl (lv_at hl 0 rfl) ?_
      refine r_get C h fk_X9_9 0 rfl rfl dX9_fitting_52 ?_
      refine lv_bipush (v := (6 : Int32)) hx hb dX9_fitting_55 rfl ?_
      refine r_ialdL C h 3 rfl (vlit rfl) 6 rfl dX9_fitting_57 ?_
      refine lv_icmp_ge (tgt := 94) hx hb dX9_fitting_58 rfl (fun c5 => ?_) (fun c5 => ?_)
      · replace hf := ifp c5 hf
        exact hK2 _ _ _ _ (B94 _ hrec9 v2 v3 v4 y_this_firstFit g_this_offThen g_this_paidThen hf) _ _ _ h (lv_sub hl [0, 1, 2, 3, 4] rfl)
      · replace hf := ifn c5 hf
        refine lv_iload hx hb dX9_fitting_61 (lv_at hl 4 rfl) ?_
        refine lv_if_eq (tgt := 94) hx hb dX9_fitting_63 rfl (fun c13 => ?_) (fun c13 => ?_)
        · replace hf := ifp c13 hf
          exact hK2 _ _ _ _ (B94 _ hrec9 v2 v3 v4 y_this_firstFit g_this_offThen g_this_paidThen hf) _ _ _ h (lv_sub hl [0, 1, 2, 3, 4] rfl)
        · replace hf := ifn c13 hf
          refine lv_iload hx hb dX9_fitting_66 (lv_at hl 5 rfl) ?_
          refine lv_iload_n hx hb dX9_fitting_68 rfl (lv_at hl 1 rfl) ?_
          refine lv_icmp_eq (tgt := 81) hx hb dX9_fitting_69 rfl (fun c14 => ?_) (fun c14 => ?_)
          · replace hf := ifp c14 hf
            refine lv_iconst (v := (1 : Int32)) hx hb dX9_fitting_81 rfl ?_
            refine lv_goto (tgt := 86) hx hb dX9_fitting_82 rfl ?_
            refine lv_istore (lv' := [(4, .int (1 : Int32)), (0, .ref h_this), (1, .int p0), (2, .int v2), (3, .int v3), (5, .int v5)]) hx hb dX9_fitting_86 hl (by decide) rfl (fun ls hl => ?_)
            obtain ⟨t15, et15⟩ : ∃ y : Int32, y = v5 + (1 : Int32) := ⟨_, rfl⟩
            replace hf := lt1_inv et15 hf
            refine lv_iinc (v := t15) (lv' := [(5, .int t15), (4, .int (1 : Int32)), (0, .ref h_this), (1, .int p0), (2, .int v2), (3, .int v3)]) hx hb dX9_fitting_88 hl (k := 5) rfl (by rw [et15]; rfl) (by decide) rfl (fun ls hl => ?_)
            refine lv_goto (tgt := 49) hx hb dX9_fitting_91 rfl ?_
            exact hK2 _ _ _ _ (ih v2 v3 (1 : Int32) t15 y_this_firstFit g_this_offThen g_this_paidThen hf) _ _ _ h (lv_sub hl [2, 3, 4, 5, 1, 0] rfl)
          · replace hf := ifn c14 hf
            refine lv_aload_n hx hb dX9_fitting_72 rfl (lv_at hl 0 rfl) ?_
            refine lv_iload hx hb dX9_fitting_73 (lv_at hl 5 rfl) ?_
            replace hf := bd1_inv hf
            obtain ⟨r16, hc17, hf⟩ := hf
            refine r_ciV0 C h (c_X9_isSo hc17) mv_X9_310 rfl 0 rfl [0, 1, 2, 3] rfl rfl hl.1 rfl (Nat.le_of_ble_eq_true rfl) (rok (by decide)) dX9_fitting_75 (fun H locs h => ?_)
            refine lv_if_eq (tgt := 85) hx hb dX9_fitting_78 rfl (fun c18 => ?_) (fun c18 => ?_)
            · replace hf := ifp c18 hf
              refine lv_iconst (v := (0 : Int32)) hx hb dX9_fitting_85 rfl ?_
              refine lv_istore (lv' := [(4, .int (0 : Int32)), (0, .ref h_this), (1, .int p0), (2, .int v2), (3, .int v3), (5, .int v5)]) hx hb dX9_fitting_86 hl (by decide) rfl (fun ls hl => ?_)
              obtain ⟨t19, et19⟩ : ∃ y : Int32, y = v5 + (1 : Int32) := ⟨_, rfl⟩
              replace hf := lt1_inv et19 hf
              refine lv_iinc (v := t19) (lv' := [(5, .int t19), (4, .int (0 : Int32)), (0, .ref h_this), (1, .int p0), (2, .int v2), (3, .int v3)]) hx hb dX9_fitting_88 hl (k := 5) rfl (by rw [et19]; rfl) (by decide) rfl (fun ls hl => ?_)
              refine lv_goto (tgt := 49) hx hb dX9_fitting_91 rfl ?_
              exact hK2 _ _ _ _ (ih v2 v3 (0 : Int32) t19 y_this_firstFit g_this_offThen g_this_paidThen hf) _ _ _ h (lv_sub hl [2, 3, 4, 5, 1, 0] rfl)
            · replace hf := ifn c18 hf
              refine lv_iconst (v := (1 : Int32)) hx hb dX9_fitting_81 rfl ?_
              refine lv_goto (tgt := 86) hx hb dX9_fitting_82 rfl ?_
              refine lv_istore (lv' := [(4, .int (1 : Int32)), (0, .ref h_this), (1, .int p0), (2, .int v2), (3, .int v3), (5, .int v5)]) hx hb dX9_fitting_86 hl (by decide) rfl (fun ls hl => ?_)
              obtain ⟨t20, et20⟩ : ∃ y : Int32, y = v5 + (1 : Int32) := ⟨_, rfl⟩
              replace hf := lt1_inv et20 hf
              refine lv_iinc (v := t20) (lv' := [(5, .int t20), (4, .int (1 : Int32)), (0, .ref h_this), (1, .int p0), (2, .int v2), (3, .int v3)]) hx hb dX9_fitting_88 hl (k := 5) rfl (by rw [et20]; rfl) (by decide) rfl (fun ls hl => ?_)
              refine lv_goto (tgt := 49) hx hb dX9_fitting_91 rfl ?_
              exact hK2 _ _ _ _ (ih v2 v3 (1 : Int32) t20 y_this_firstFit g_this_offThen g_this_paidThen hf) _ _ _ h (lv_sub hl [2, 3, 4, 5, 1, 0] rfl)
  have L9 : ∀ (n : Nat) (v2 : Int32) (v3 : Int32) (y_this_firstFit : Int32) (g_this_offThen : Nat → Int32) (g_this_paidThen : Nat → Int32), f_X9_fitting_L9 p0 f_this_s n v2 v3 y_this_firstFit g_this_offThen g_this_paidThen = some (r, m_this_firstFit, m_this_offThen, m_this_paidThen) → K 9 ([] : List Value) [(h_this, ob 9 [.ref h_this_s, .ref h_this_kept, .ref h_this_laid, .int x_this_isKept, .ref h_this_pile, .ref h_this_tape, .int x_this_taped, .ref h_this_letters, .int x_this_at, .int x_this_begun, .int x_this_token, .int x_this_value, .int x_this_opened, .int x_this_steps, .ref h_this_code0, .ref h_this_read, .ref h_this_saved, .ref h_this_plan, .ref h_this_bestPlan, .int x_this_most, .int x_this_many, .int x_this_few, .int x_this_everHome, .ref h_this_offThen, .ref h_this_paidThen, .int y_this_firstFit, .ref h_this_rows, .int x_this_rowMany, .ref h_this_sorts, .ref h_this_sizes, .ref h_this_number, .ref h_this_holds, .ref h_this_heldOne, .ref h_this_trace, .int x_this_traced, .int x_this_own, .int x_this_isParted]), (h_this_offThen, ia G 16 g_this_offThen), (h_this_paidThen, ia G 16 g_this_paidThen), (h_this_s, ia G 313 f_this_s)] [(0, .ref h_this), (1, .int p0), (2, .int v2), (3, .int v3)] := by
    intro n
    induction n with
    | zero =>
      intro v2 v3 y_this_firstFit g_this_offThen g_this_paidThen hf
      replace hf : (none : Option _) = some _ := hf
      cases hf
    | succ n ih =>
      intro v2 v3 y_this_firstFit g_this_offThen g_this_paidThen hf
      rw [f_X9_fitting_L9] at hf
      refine hK1 _ _ _ _ (fun H locs ls h hl => ?_)
      refine lv_iload_n hx hb dX9_fitting_9 rfl (lv_at hl 3 rfl) ?_
      refine lv_sipush (v := (500 : Int32)) hx hb dX9_fitting_10 rfl ?_
      refine lv_icmp_ge (tgt := 137) hx hb dX9_fitting_13 rfl (fun c1 => ?_) (fun c1 => ?_)
      · replace hf := ifp c1 hf
        refine lv_iload_n hx hb dX9_fitting_137 rfl (lv_at hl 2 rfl) ?_
        cases hf
        exact r_iret C h hr hlk rfl dX9_fitting_138
      · replace hf := ifn c1 hf
        refine lv_aload_n hx hb dX9_fitting_16 rfl (lv_at hl 0 rfl) ?_
        refine lv_iconst (v := (1 : Int32)) hx hb dX9_fitting_17 rfl ?_
        refine lv_iload_n hx hb dX9_fitting_18 rfl (lv_at hl 3 rfl) ?_
        refine lv_bipush (v := (100 : Int32)) hx hb dX9_fitting_19 rfl ?_
        refine lv_idiv hx hb dX9_fitting_21 (by decide) ?_
        refine lv_iadd hx hb dX9_fitting_22 ?_
        refine lv_iload_n hx hb dX9_fitting_23 rfl (lv_at hl 3 rfl) ?_
        refine lv_bipush (v := (10 : Int32)) hx hb dX9_fitting_24 rfl ?_
        refine lv_idiv hx hb dX9_fitting_26 (by decide) ?_
        refine lv_bipush (v := (10 : Int32)) hx hb dX9_fitting_27 rfl ?_
        refine lv_irem hx hb dX9_fitting_29 (by decide) ?_
        refine lv_bipush (v := (9 : Int32)) hx hb dX9_fitting_30 rfl ?_
        refine lv_iload_n hx hb dX9_fitting_32 rfl (lv_at hl 3 rfl) ?_
        refine lv_bipush (v := (10 : Int32)) hx hb dX9_fitting_33 rfl ?_
        refine lv_irem hx hb dX9_fitting_35 (by decide) ?_
        refine lv_imul hx hb dX9_fitting_36 ?_
        refine lv_bipush (v := (9 : Int32)) hx hb dX9_fitting_37 rfl ?_
        refine lv_iadd hx hb dX9_fitting_39 ?_
        replace hf := bd2_inv hf
        obtain ⟨g2, g3, hc4, hf⟩ := hf
        refine r_cvV (ws' := [(h_this, ob 9 [.ref h_this_s, .ref h_this_kept, .ref h_this_laid, .int x_this_isKept, .ref h_this_pile, .ref h_this_tape, .int x_this_taped, .ref h_this_letters, .int x_this_at, .int x_this_begun, .int x_this_token, .int x_this_value, .int x_this_opened, .int x_this_steps, .ref h_this_code0, .ref h_this_read, .ref h_this_saved, .ref h_this_plan, .ref h_this_bestPlan, .int x_this_most, .int x_this_many, .int x_this_few, .int x_this_everHome, .ref h_this_offThen, .ref h_this_paidThen, .int y_this_firstFit, .ref h_this_rows, .int x_this_rowMany, .ref h_this_sorts, .ref h_this_sizes, .ref h_this_number, .ref h_this_holds, .ref h_this_heldOne, .ref h_this_trace, .int x_this_traced, .int x_this_own, .int x_this_isParted]), (h_this_offThen, ia G 16 g2), (h_this_paidThen, ia G 16 g3), (h_this_s, ia G 313 f_this_s)]) C h (c_X9_tellsLone hc4) mv_X9_307 rfl 0 rfl [0, 1, 2, 3] rfl rfl [1, 2] [(h_this_offThen, ia G 16 g2), (h_this_paidThen, ia G 16 g3)] rfl rfl (by decide +kernel) rfl hl.1 rfl (Nat.le_of_ble_eq_true rfl) (rok (by decide)) dX9_fitting_40 (fun H locs h => ?_)
        refine lv_iconst (v := (1 : Int32)) hx hb dX9_fitting_43 rfl ?_
        refine lv_istore (lv' := [(4, .int (1 : Int32)), (0, .ref h_this), (1, .int p0), (2, .int v2), (3, .int v3)]) hx hb dX9_fitting_44 hl (by decide) rfl (fun ls hl => ?_)
        refine lv_iconst (v := (0 : Int32)) hx hb dX9_fitting_46 rfl ?_
        refine lv_istore (lv' := [(5, .int (0 : Int32)), (4, .int (1 : Int32)), (0, .ref h_this), (1, .int p0), (2, .int v2), (3, .int v3)]) hx hb dX9_fitting_47 hl (by decide) rfl (fun ls hl => ?_)
        exact hK2 _ _ _ _ (L49 _ ih 1000 v2 v3 (1 : Int32) (0 : Int32) y_this_firstFit g2 g3 hf) _ _ _ h (lv_sub hl [2, 3, 4, 5, 1, 0] rfl)
  refine lv_iconst (v := (0 : Int32)) hx hb dX9_fitting_0 rfl ?_
  refine lv_istore_n (lv' := [(2, .int (0 : Int32)), (0, .ref h_this), (1, .int p0)]) hx hb dX9_fitting_1 rfl hl (by decide) rfl (fun ls hl => ?_)
  refine lv_aload_n hx hb dX9_fitting_2 rfl (lv_at hl 1 rfl) ?_
  refine lv_iconst (v := (-1 : Int32)) hx hb dX9_fitting_3 rfl ?_
  refine r_put (ws' := [(h_this, ob 9 [.ref h_this_s, .ref h_this_kept, .ref h_this_laid, .int x_this_isKept, .ref h_this_pile, .ref h_this_tape, .int x_this_taped, .ref h_this_letters, .int x_this_at, .int x_this_begun, .int x_this_token, .int x_this_value, .int x_this_opened, .int x_this_steps, .ref h_this_code0, .ref h_this_read, .ref h_this_saved, .ref h_this_plan, .ref h_this_bestPlan, .int x_this_most, .int x_this_many, .int x_this_few, .int x_this_everHome, .ref h_this_offThen, .ref h_this_paidThen, .int (-1 : Int32), .ref h_this_rows, .int x_this_rowMany, .ref h_this_sorts, .ref h_this_sizes, .ref h_this_number, .ref h_this_holds, .ref h_this_heldOne, .ref h_this_trace, .int x_this_traced, .int x_this_own, .int x_this_isParted]), (h_this_offThen, ia G 16 f_this_offThen), (h_this_paidThen, ia G 16 f_this_paidThen), (h_this_s, ia G 313 f_this_s)]) C h fw_X9_304 0 rfl rfl rfl (Nat.le_of_ble_eq_true rfl) dX9_fitting_4 rfl (fun H locs h => ?_)
  refine lv_iconst (v := (0 : Int32)) hx hb dX9_fitting_7 rfl ?_
  refine lv_istore_n (lv' := [(3, .int (0 : Int32)), (2, .int (0 : Int32)), (0, .ref h_this), (1, .int p0)]) hx hb dX9_fitting_8 rfl hl (by decide) rfl (fun ls hl => ?_)
  exact hK2 _ _ _ _ (L9 1000 (0 : Int32) (0 : Int32) (-1 : Int32) f_this_offThen f_this_paidThen hf) _ _ _ h (lv_sub hl [2, 3, 1, 0] rfl)
set_option maxRecDepth 100000 in
set_option maxHeartbeats 4000000 in
theorem c_X9_lone {l : Launch} {G : Gt} {h_this h_this_s h_this_kept h_this_laid h_this_pile h_this_tape h_this_letters h_this_code0 h_this_read h_this_saved h_this_plan h_this_bestPlan h_this_offThen h_this_paidThen h_this_rows h_this_sorts h_this_sizes h_this_number h_this_holds h_this_heldOne h_this_trace : Nat} {p0 : Int32} {x_this_isKept : Int32} {x_this_taped : Int32} {x_this_at : Int32} {x_this_begun : Int32} {x_this_token : Int32} {x_this_value : Int32} {x_this_opened : Int32} {x_this_steps : Int32} {x_this_most : Int32} {x_this_many : Int32} {x_this_few : Int32} {x_this_everHome : Int32} {x_this_firstFit : Int32} {x_this_rowMany : Int32} {x_this_traced : Int32} {x_this_own : Int32} {x_this_isParted : Int32} {f_this_offThen : Nat → Int32} {f_this_paidThen : Nat → Int32} {f_this_s : Nat → Int32} {r : Int32} {m_this_firstFit : Int32} {m_this_offThen : Nat → Int32} {m_this_paidThen : Nat → Int32} (hf : f_X9_lone p0 x_this_firstFit f_this_offThen f_this_paidThen f_this_s = some (r, m_this_firstFit, m_this_offThen, m_this_paidThen)) : mFi l G yX9_lone cX9_lone 3 .int 3 [.ref h_this, .int p0] [(h_this, ob 9 [.ref h_this_s, .ref h_this_kept, .ref h_this_laid, .int x_this_isKept, .ref h_this_pile, .ref h_this_tape, .int x_this_taped, .ref h_this_letters, .int x_this_at, .int x_this_begun, .int x_this_token, .int x_this_value, .int x_this_opened, .int x_this_steps, .ref h_this_code0, .ref h_this_read, .ref h_this_saved, .ref h_this_plan, .ref h_this_bestPlan, .int x_this_most, .int x_this_many, .int x_this_few, .int x_this_everHome, .ref h_this_offThen, .ref h_this_paidThen, .int x_this_firstFit, .ref h_this_rows, .int x_this_rowMany, .ref h_this_sorts, .ref h_this_sizes, .ref h_this_number, .ref h_this_holds, .ref h_this_heldOne, .ref h_this_trace, .int x_this_traced, .int x_this_own, .int x_this_isParted]), (h_this_offThen, ia G 16 f_this_offThen), (h_this_paidThen, ia G 16 f_this_paidThen), (h_this_s, ia G 313 f_this_s)] r [(h_this, ob 9 [.ref h_this_s, .ref h_this_kept, .ref h_this_laid, .int x_this_isKept, .ref h_this_pile, .ref h_this_tape, .int x_this_taped, .ref h_this_letters, .int x_this_at, .int x_this_begun, .int x_this_token, .int x_this_value, .int x_this_opened, .int x_this_steps, .ref h_this_code0, .ref h_this_read, .ref h_this_saved, .ref h_this_plan, .ref h_this_bestPlan, .int x_this_most, .int x_this_many, .int x_this_few, .int x_this_everHome, .ref h_this_offThen, .ref h_this_paidThen, .int m_this_firstFit, .ref h_this_rows, .int x_this_rowMany, .ref h_this_sorts, .ref h_this_sizes, .ref h_this_number, .ref h_this_holds, .ref h_this_heldOne, .ref h_this_trace, .int x_this_traced, .int x_this_own, .int x_this_isParted]), (h_this_offThen, ia G 16 m_this_offThen), (h_this_paidThen, ia G 16 m_this_paidThen), (h_this_s, ia G 313 f_this_s)] := by
  refine mFi.of (by decide +kernel) (Nat.le_of_ble_eq_true rfl) ?_
  intro p e s m below meth c A C hr hlk h ls hl
  obtain ⟨hx, hb, hml, hown, hts⟩ := id C
  replace hl : lv_has ls 3 [(0, .ref h_this), (1, .int p0)] := hl
  unfold f_X9_lone at hf
  refine with_K G A 3 (fun K hK1 hK2 => ?_)
  have B28 : ∀ (v2 : Int32) (y_this_firstFit : Int32) (g_this_offThen : Nat → Int32) (g_this_paidThen : Nat → Int32), f_X9_lone_b28 p0 v2 y_this_firstFit g_this_offThen g_this_paidThen = some (r, m_this_firstFit, m_this_offThen, m_this_paidThen) → K 28 ([] : List Value) [(h_this, ob 9 [.ref h_this_s, .ref h_this_kept, .ref h_this_laid, .int x_this_isKept, .ref h_this_pile, .ref h_this_tape, .int x_this_taped, .ref h_this_letters, .int x_this_at, .int x_this_begun, .int x_this_token, .int x_this_value, .int x_this_opened, .int x_this_steps, .ref h_this_code0, .ref h_this_read, .ref h_this_saved, .ref h_this_plan, .ref h_this_bestPlan, .int x_this_most, .int x_this_many, .int x_this_few, .int x_this_everHome, .ref h_this_offThen, .ref h_this_paidThen, .int y_this_firstFit, .ref h_this_rows, .int x_this_rowMany, .ref h_this_sorts, .ref h_this_sizes, .ref h_this_number, .ref h_this_holds, .ref h_this_heldOne, .ref h_this_trace, .int x_this_traced, .int x_this_own, .int x_this_isParted]), (h_this_offThen, ia G 16 g_this_offThen), (h_this_paidThen, ia G 16 g_this_paidThen), (h_this_s, ia G 313 f_this_s)] [(0, .ref h_this), (1, .int p0), (2, .int v2)] := by
    intro v2 y_this_firstFit g_this_offThen g_this_paidThen hf
    unfold f_X9_lone_b28 at hf
    refine hK1 _ _ _ _ (fun H locs ls h hl => ?_)
    refine lv_iload_n hx hb dX9_lone_28 rfl (lv_at hl 1 rfl) ?_
    refine lv_if_ne (tgt := 36) hx hb dX9_lone_29 rfl (fun c10 => ?_) (fun c10 => ?_)
    · replace hf := ifn c10 hf
      refine lv_iload_n hx hb dX9_lone_36 rfl (lv_at hl 1 rfl) ?_
      refine lv_iconst (v := (1 : Int32)) hx hb dX9_lone_37 rfl ?_
      refine lv_icmp_ne (tgt := 53) hx hb dX9_lone_38 rfl (fun c11 => ?_) (fun c11 => ?_)
      · replace hf := ifn c11 hf
        refine lv_iload_n hx hb dX9_lone_53 rfl (lv_at hl 1 rfl) ?_
        refine lv_iconst (v := (2 : Int32)) hx hb dX9_lone_54 rfl ?_
        refine lv_icmp_ne (tgt := 71) hx hb dX9_lone_55 rfl (fun c12 => ?_) (fun c12 => ?_)
        · replace hf := ifn c12 hf
          refine lv_bipush (v := (9 : Int32)) hx hb dX9_lone_71 rfl ?_
          refine lv_aload_n hx hb dX9_lone_73 rfl (lv_at hl 0 rfl) ?_
          refine r_get C h fk_X9_304 0 rfl rfl dX9_lone_74 ?_
          refine lv_bipush (v := (10 : Int32)) hx hb dX9_lone_77 rfl ?_
          refine lv_irem hx hb dX9_lone_79 (by decide) ?_
          refine lv_imul hx hb dX9_lone_80 ?_
          refine lv_bipush (v := (9 : Int32)) hx hb dX9_lone_81 rfl ?_
          refine lv_iadd hx hb dX9_lone_83 ?_
          cases hf
          exact r_iret C h hr hlk rfl dX9_lone_84
        · replace hf := ifp c12 hf
          refine lv_aload_n hx hb dX9_lone_58 rfl (lv_at hl 0 rfl) ?_
          refine r_get C h fk_X9_304 0 rfl rfl dX9_lone_59 ?_
          refine lv_bipush (v := (10 : Int32)) hx hb dX9_lone_62 rfl ?_
          refine lv_idiv hx hb dX9_lone_64 (by decide) ?_
          refine lv_bipush (v := (10 : Int32)) hx hb dX9_lone_65 rfl ?_
          refine lv_irem hx hb dX9_lone_67 (by decide) ?_
          refine lv_goto (tgt := 84) hx hb dX9_lone_68 rfl ?_
          cases hf
          exact r_iret C h hr hlk rfl dX9_lone_84
      · replace hf := ifp c11 hf
        refine lv_iconst (v := (1 : Int32)) hx hb dX9_lone_41 rfl ?_
        refine lv_aload_n hx hb dX9_lone_42 rfl (lv_at hl 0 rfl) ?_
        refine r_get C h fk_X9_304 0 rfl rfl dX9_lone_43 ?_
        refine lv_bipush (v := (100 : Int32)) hx hb dX9_lone_46 rfl ?_
        refine lv_idiv hx hb dX9_lone_48 (by decide) ?_
        refine lv_iadd hx hb dX9_lone_49 ?_
        refine lv_goto (tgt := 84) hx hb dX9_lone_50 rfl ?_
        cases hf
        exact r_iret C h hr hlk rfl dX9_lone_84
    · replace hf := ifp c10 hf
      refine lv_iload_n hx hb dX9_lone_32 rfl (lv_at hl 2 rfl) ?_
      refine lv_goto (tgt := 84) hx hb dX9_lone_33 rfl ?_
      cases hf
      exact r_iret C h hr hlk rfl dX9_lone_84
  refine lv_iload_n hx hb dX9_lone_0 rfl (lv_at hl 1 rfl) ?_
  refine lv_iconst (v := (0 : Int32)) hx hb dX9_lone_1 rfl ?_
  refine lv_iconst (v := (3 : Int32)) hx hb dX9_lone_2 rfl ?_
  replace hf := bd1_inv hf
  obtain ⟨r1, hc2, hf⟩ := hf
  refine r_ciS0 C h (c_X9_in1 hc2) ms_X9_71 rfl [] rfl rfl hl.1 rfl (Nat.le_of_ble_eq_true rfl) (rok (by decide)) dX9_lone_3 (fun H locs h => ?_)
  refine lv_if_ne (tgt := 11) hx hb dX9_lone_6 rfl (fun c3 => ?_) (fun c3 => ?_)
  · replace hf := ifn c3 hf
    refine lv_aload_n hx hb dX9_lone_11 rfl (lv_at hl 0 rfl) ?_
    refine lv_iconst (v := (-1 : Int32)) hx hb dX9_lone_12 rfl ?_
    replace hf := bd4_inv hf
    obtain ⟨r4, y5, g6, g7, hc8, hf⟩ := hf
    refine r_ciV (ws' := [(h_this, ob 9 [.ref h_this_s, .ref h_this_kept, .ref h_this_laid, .int x_this_isKept, .ref h_this_pile, .ref h_this_tape, .int x_this_taped, .ref h_this_letters, .int x_this_at, .int x_this_begun, .int x_this_token, .int x_this_value, .int x_this_opened, .int x_this_steps, .ref h_this_code0, .ref h_this_read, .ref h_this_saved, .ref h_this_plan, .ref h_this_bestPlan, .int x_this_most, .int x_this_many, .int x_this_few, .int x_this_everHome, .ref h_this_offThen, .ref h_this_paidThen, .int y5, .ref h_this_rows, .int x_this_rowMany, .ref h_this_sorts, .ref h_this_sizes, .ref h_this_number, .ref h_this_holds, .ref h_this_heldOne, .ref h_this_trace, .int x_this_traced, .int x_this_own, .int x_this_isParted]), (h_this_offThen, ia G 16 g6), (h_this_paidThen, ia G 16 g7), (h_this_s, ia G 313 f_this_s)]) C h (c_X9_fitting hc8) mv_X9_313 rfl 0 rfl [0, 1, 2, 3] rfl rfl [0, 1, 2] [(h_this, ob 9 [.ref h_this_s, .ref h_this_kept, .ref h_this_laid, .int x_this_isKept, .ref h_this_pile, .ref h_this_tape, .int x_this_taped, .ref h_this_letters, .int x_this_at, .int x_this_begun, .int x_this_token, .int x_this_value, .int x_this_opened, .int x_this_steps, .ref h_this_code0, .ref h_this_read, .ref h_this_saved, .ref h_this_plan, .ref h_this_bestPlan, .int x_this_most, .int x_this_many, .int x_this_few, .int x_this_everHome, .ref h_this_offThen, .ref h_this_paidThen, .int y5, .ref h_this_rows, .int x_this_rowMany, .ref h_this_sorts, .ref h_this_sizes, .ref h_this_number, .ref h_this_holds, .ref h_this_heldOne, .ref h_this_trace, .int x_this_traced, .int x_this_own, .int x_this_isParted]), (h_this_offThen, ia G 16 g6), (h_this_paidThen, ia G 16 g7)] rfl rfl (by decide +kernel) rfl hl.1 rfl (Nat.le_of_ble_eq_true rfl) (rok (by decide)) dX9_lone_13 (fun H locs h => ?_)
    refine lv_istore_n (lv' := [(2, .int r4), (0, .ref h_this), (1, .int p0)]) hx hb dX9_lone_16 rfl hl (by decide) rfl (fun ls hl => ?_)
    refine lv_iload_n hx hb dX9_lone_17 rfl (lv_at hl 2 rfl) ?_
    refine lv_if_le (tgt := 28) hx hb dX9_lone_18 rfl (fun c9 => ?_) (fun c9 => ?_)
    · replace hf := ifp c9 hf
      exact hK2 _ _ _ _ (B28 r4 y5 g6 g7 hf) _ _ _ h (lv_sub hl [1, 2, 0] rfl)
    · replace hf := ifn c9 hf
      refine lv_iload_n hx hb dX9_lone_21 rfl (lv_at hl 0 rfl) ?_
      refine lv_if_ne (tgt := 28) hx hb dX9_lone_22 rfl (fun c13 => ?_) (fun c13 => ?_)
      · replace hf := ifn c13 hf
        exact hK2 _ _ _ _ (B28 r4 y5 g6 g7 hf) _ _ _ h (lv_sub hl [1, 2, 0] rfl)
      · replace hf := ifp c13 hf
        refine lv_bipush (v := (-3 : Int32)) hx hb dX9_lone_25 rfl ?_
        cases hf
        exact r_iret C h hr hlk rfl dX9_lone_27
  · replace hf := ifp c3 hf
    refine lv_iconst (v := (-1 : Int32)) hx hb dX9_lone_9 rfl ?_
    cases hf
    exact r_iret C h hr hlk rfl dX9_lone_10
set_option maxRecDepth 100000 in
set_option maxHeartbeats 4000000 in
theorem c_X9_liar {l : Launch} {G : Gt} {h_this h_this_s h_this_kept h_this_laid h_this_pile h_this_tape h_this_letters h_this_code0 h_this_read h_this_saved h_this_plan h_this_bestPlan h_this_offThen h_this_paidThen h_this_rows h_this_sorts h_this_sizes h_this_number h_this_holds h_this_heldOne h_this_trace : Nat} {x_this_isKept : Int32} {x_this_taped : Int32} {x_this_at : Int32} {x_this_begun : Int32} {x_this_token : Int32} {x_this_value : Int32} {x_this_opened : Int32} {x_this_steps : Int32} {x_this_most : Int32} {x_this_many : Int32} {x_this_few : Int32} {x_this_everHome : Int32} {x_this_firstFit : Int32} {x_this_rowMany : Int32} {x_this_traced : Int32} {x_this_own : Int32} {x_this_isParted : Int32} {f_this_offThen : Nat → Int32} {f_this_paidThen : Nat → Int32} {f_this_s : Nat → Int32} {r : Int32} {m_this_firstFit : Int32} {m_this_offThen : Nat → Int32} {m_this_paidThen : Nat → Int32} (hf : f_X9_liar f_this_offThen f_this_paidThen f_this_s = some (r, m_this_firstFit, m_this_offThen, m_this_paidThen)) : mFi l G yX9_liar cX9_liar 2 .int 3 [.ref h_this] [(h_this, ob 9 [.ref h_this_s, .ref h_this_kept, .ref h_this_laid, .int x_this_isKept, .ref h_this_pile, .ref h_this_tape, .int x_this_taped, .ref h_this_letters, .int x_this_at, .int x_this_begun, .int x_this_token, .int x_this_value, .int x_this_opened, .int x_this_steps, .ref h_this_code0, .ref h_this_read, .ref h_this_saved, .ref h_this_plan, .ref h_this_bestPlan, .int x_this_most, .int x_this_many, .int x_this_few, .int x_this_everHome, .ref h_this_offThen, .ref h_this_paidThen, .int x_this_firstFit, .ref h_this_rows, .int x_this_rowMany, .ref h_this_sorts, .ref h_this_sizes, .ref h_this_number, .ref h_this_holds, .ref h_this_heldOne, .ref h_this_trace, .int x_this_traced, .int x_this_own, .int x_this_isParted]), (h_this_offThen, ia G 16 f_this_offThen), (h_this_paidThen, ia G 16 f_this_paidThen), (h_this_s, ia G 313 f_this_s)] r [(h_this, ob 9 [.ref h_this_s, .ref h_this_kept, .ref h_this_laid, .int x_this_isKept, .ref h_this_pile, .ref h_this_tape, .int x_this_taped, .ref h_this_letters, .int x_this_at, .int x_this_begun, .int x_this_token, .int x_this_value, .int x_this_opened, .int x_this_steps, .ref h_this_code0, .ref h_this_read, .ref h_this_saved, .ref h_this_plan, .ref h_this_bestPlan, .int x_this_most, .int x_this_many, .int x_this_few, .int x_this_everHome, .ref h_this_offThen, .ref h_this_paidThen, .int m_this_firstFit, .ref h_this_rows, .int x_this_rowMany, .ref h_this_sorts, .ref h_this_sizes, .ref h_this_number, .ref h_this_holds, .ref h_this_heldOne, .ref h_this_trace, .int x_this_traced, .int x_this_own, .int x_this_isParted]), (h_this_offThen, ia G 16 m_this_offThen), (h_this_paidThen, ia G 16 m_this_paidThen), (h_this_s, ia G 313 f_this_s)] := by
  refine mFi.of (by decide +kernel) (Nat.le_of_ble_eq_true rfl) ?_
  intro p e s m below meth c A C hr hlk h ls hl
  obtain ⟨hx, hb, hml, hown, hts⟩ := id C
  replace hl : lv_has ls 2 [(0, .ref h_this)] := hl
  unfold f_X9_liar at hf
  refine with_K G A 2 (fun K hK1 hK2 => ?_)
  have L13 : ∀ (n : Nat) (v1 : Int32) (y_this_firstFit : Int32) (g_this_offThen : Nat → Int32) (g_this_paidThen : Nat → Int32), f_X9_liar_L13 f_this_s n v1 y_this_firstFit g_this_offThen g_this_paidThen = some (r, m_this_firstFit, m_this_offThen, m_this_paidThen) → K 13 ([] : List Value) [(h_this, ob 9 [.ref h_this_s, .ref h_this_kept, .ref h_this_laid, .int x_this_isKept, .ref h_this_pile, .ref h_this_tape, .int x_this_taped, .ref h_this_letters, .int x_this_at, .int x_this_begun, .int x_this_token, .int x_this_value, .int x_this_opened, .int x_this_steps, .ref h_this_code0, .ref h_this_read, .ref h_this_saved, .ref h_this_plan, .ref h_this_bestPlan, .int x_this_most, .int x_this_many, .int x_this_few, .int x_this_everHome, .ref h_this_offThen, .ref h_this_paidThen, .int y_this_firstFit, .ref h_this_rows, .int x_this_rowMany, .ref h_this_sorts, .ref h_this_sizes, .ref h_this_number, .ref h_this_holds, .ref h_this_heldOne, .ref h_this_trace, .int x_this_traced, .int x_this_own, .int x_this_isParted]), (h_this_offThen, ia G 16 g_this_offThen), (h_this_paidThen, ia G 16 g_this_paidThen), (h_this_s, ia G 313 f_this_s)] [(0, .ref h_this), (1, .int v1)] := by
    intro n
    induction n with
    | zero =>
      intro v1 y_this_firstFit g_this_offThen g_this_paidThen hf
      replace hf : (none : Option _) = some _ := hf
      cases hf
    | succ n ih =>
      intro v1 y_this_firstFit g_this_offThen g_this_paidThen hf
      rw [f_X9_liar_L13] at hf
      refine hK1 _ _ _ _ (fun H locs ls h hl => ?_)
      refine lv_iload_n hx hb dX9_liar_13 rfl (lv_at hl 1 rfl) ?_
      refine lv_aload_n hx hb dX9_liar_14 rfl (lv_at hl 0 rfl) ?_
      refine r_get C h fk_X9_9 0 rfl rfl dX9_liar_15 ?_
      refine lv_bipush (v := (6 : Int32)) hx hb dX9_liar_18 rfl ?_
      refine r_ialdL C h 3 rfl (vlit rfl) 6 rfl dX9_liar_20 ?_
      refine lv_icmp_ge (tgt := 40) hx hb dX9_liar_21 rfl (fun c7 => ?_) (fun c7 => ?_)
      · replace hf := ifp c7 hf
        refine lv_bipush (v := (-3 : Int32)) hx hb dX9_liar_40 rfl ?_
        cases hf
        exact r_iret C h hr hlk rfl dX9_liar_42
      · replace hf := ifn c7 hf
        refine lv_aload_n hx hb dX9_liar_24 rfl (lv_at hl 0 rfl) ?_
        refine lv_iload_n hx hb dX9_liar_25 rfl (lv_at hl 1 rfl) ?_
        replace hf := bd4_inv hf
        obtain ⟨r8, y9, g10, g11, hc12, hf⟩ := hf
        refine r_ciV (ws' := [(h_this, ob 9 [.ref h_this_s, .ref h_this_kept, .ref h_this_laid, .int x_this_isKept, .ref h_this_pile, .ref h_this_tape, .int x_this_taped, .ref h_this_letters, .int x_this_at, .int x_this_begun, .int x_this_token, .int x_this_value, .int x_this_opened, .int x_this_steps, .ref h_this_code0, .ref h_this_read, .ref h_this_saved, .ref h_this_plan, .ref h_this_bestPlan, .int x_this_most, .int x_this_many, .int x_this_few, .int x_this_everHome, .ref h_this_offThen, .ref h_this_paidThen, .int y9, .ref h_this_rows, .int x_this_rowMany, .ref h_this_sorts, .ref h_this_sizes, .ref h_this_number, .ref h_this_holds, .ref h_this_heldOne, .ref h_this_trace, .int x_this_traced, .int x_this_own, .int x_this_isParted]), (h_this_offThen, ia G 16 g10), (h_this_paidThen, ia G 16 g11), (h_this_s, ia G 313 f_this_s)]) C h (c_X9_fitting hc12) mv_X9_313 rfl 0 rfl [0, 1, 2, 3] rfl rfl [0, 1, 2] [(h_this, ob 9 [.ref h_this_s, .ref h_this_kept, .ref h_this_laid, .int x_this_isKept, .ref h_this_pile, .ref h_this_tape, .int x_this_taped, .ref h_this_letters, .int x_this_at, .int x_this_begun, .int x_this_token, .int x_this_value, .int x_this_opened, .int x_this_steps, .ref h_this_code0, .ref h_this_read, .ref h_this_saved, .ref h_this_plan, .ref h_this_bestPlan, .int x_this_most, .int x_this_many, .int x_this_few, .int x_this_everHome, .ref h_this_offThen, .ref h_this_paidThen, .int y9, .ref h_this_rows, .int x_this_rowMany, .ref h_this_sorts, .ref h_this_sizes, .ref h_this_number, .ref h_this_holds, .ref h_this_heldOne, .ref h_this_trace, .int x_this_traced, .int x_this_own, .int x_this_isParted]), (h_this_offThen, ia G 16 g10), (h_this_paidThen, ia G 16 g11)] rfl rfl (by decide +kernel) rfl hl.1 rfl (Nat.le_of_ble_eq_true rfl) (rok (by decide)) dX9_liar_26 (fun H locs h => ?_)
        refine lv_if_le (tgt := 34) hx hb dX9_liar_29 rfl (fun c13 => ?_) (fun c13 => ?_)
        · replace hf := ifp c13 hf
          obtain ⟨t14, et14⟩ : ∃ y : Int32, y = v1 + (1 : Int32) := ⟨_, rfl⟩
          replace hf := lt1_inv et14 hf
          refine lv_iinc (v := t14) (lv' := [(1, .int t14), (0, .ref h_this)]) hx hb dX9_liar_34 hl (k := 1) rfl (by rw [et14]; rfl) (by decide) rfl (fun ls hl => ?_)
          refine lv_goto (tgt := 13) hx hb dX9_liar_37 rfl ?_
          exact hK2 _ _ _ _ (ih t14 y9 g10 g11 hf) _ _ _ h (lv_sub hl [1, 0] rfl)
        · replace hf := ifn c13 hf
          refine lv_iload_n hx hb dX9_liar_32 rfl (lv_at hl 1 rfl) ?_
          cases hf
          exact r_iret C h hr hlk rfl dX9_liar_33
  refine lv_aload_n hx hb dX9_liar_0 rfl (lv_at hl 0 rfl) ?_
  refine lv_iconst (v := (-1 : Int32)) hx hb dX9_liar_1 rfl ?_
  replace hf := bd4_inv hf
  obtain ⟨r1, y2, g3, g4, hc5, hf⟩ := hf
  refine r_ciV (ws' := [(h_this, ob 9 [.ref h_this_s, .ref h_this_kept, .ref h_this_laid, .int x_this_isKept, .ref h_this_pile, .ref h_this_tape, .int x_this_taped, .ref h_this_letters, .int x_this_at, .int x_this_begun, .int x_this_token, .int x_this_value, .int x_this_opened, .int x_this_steps, .ref h_this_code0, .ref h_this_read, .ref h_this_saved, .ref h_this_plan, .ref h_this_bestPlan, .int x_this_most, .int x_this_many, .int x_this_few, .int x_this_everHome, .ref h_this_offThen, .ref h_this_paidThen, .int y2, .ref h_this_rows, .int x_this_rowMany, .ref h_this_sorts, .ref h_this_sizes, .ref h_this_number, .ref h_this_holds, .ref h_this_heldOne, .ref h_this_trace, .int x_this_traced, .int x_this_own, .int x_this_isParted]), (h_this_offThen, ia G 16 g3), (h_this_paidThen, ia G 16 g4), (h_this_s, ia G 313 f_this_s)]) C h (c_X9_fitting hc5) mv_X9_313 rfl 0 rfl [0, 1, 2, 3] rfl rfl [0, 1, 2] [(h_this, ob 9 [.ref h_this_s, .ref h_this_kept, .ref h_this_laid, .int x_this_isKept, .ref h_this_pile, .ref h_this_tape, .int x_this_taped, .ref h_this_letters, .int x_this_at, .int x_this_begun, .int x_this_token, .int x_this_value, .int x_this_opened, .int x_this_steps, .ref h_this_code0, .ref h_this_read, .ref h_this_saved, .ref h_this_plan, .ref h_this_bestPlan, .int x_this_most, .int x_this_many, .int x_this_few, .int x_this_everHome, .ref h_this_offThen, .ref h_this_paidThen, .int y2, .ref h_this_rows, .int x_this_rowMany, .ref h_this_sorts, .ref h_this_sizes, .ref h_this_number, .ref h_this_holds, .ref h_this_heldOne, .ref h_this_trace, .int x_this_traced, .int x_this_own, .int x_this_isParted]), (h_this_offThen, ia G 16 g3), (h_this_paidThen, ia G 16 g4)] rfl rfl (by decide +kernel) rfl hl.1 rfl (Nat.le_of_ble_eq_true rfl) (rok (by decide)) dX9_liar_2 (fun H locs h => ?_)
  refine lv_if_le (tgt := 11) hx hb dX9_liar_5 rfl (fun c6 => ?_) (fun c6 => ?_)
  · replace hf := ifp c6 hf
    refine lv_iconst (v := (0 : Int32)) hx hb dX9_liar_11 rfl ?_
    refine lv_istore_n (lv' := [(1, .int (0 : Int32)), (0, .ref h_this)]) hx hb dX9_liar_12 rfl hl (by decide) rfl (fun ls hl => ?_)
    exact hK2 _ _ _ _ (L13 1000 (0 : Int32) y2 g3 g4 hf) _ _ _ h (lv_sub hl [1, 0] rfl)
  · replace hf := ifn c6 hf
    refine lv_bipush (v := (-3 : Int32)) hx hb dX9_liar_8 rfl ?_
    cases hf
    exact r_iret C h hr hlk rfl dX9_liar_10
