set_option maxRecDepth 100000 in
set_option maxHeartbeats 4000000 in
theorem c_X9_wouldBe {l : Launch} {G : Gt} {h_this h_this_s h_this_kept h_this_laid h_this_pile h_this_tape h_this_letters h_this_code0 h_this_read h_this_saved h_this_plan h_this_bestPlan h_this_offThen h_this_paidThen h_this_rows h_this_sorts h_this_sizes h_this_number h_this_holds h_this_heldOne h_this_trace : Nat} {p0 : Int32} {p1 : Int32} {p2 : Int32} {x_this_isKept : Int32} {x_this_taped : Int32} {x_this_at : Int32} {x_this_begun : Int32} {x_this_token : Int32} {x_this_value : Int32} {x_this_opened : Int32} {x_this_steps : Int32} {x_this_most : Int32} {x_this_many : Int32} {x_this_few : Int32} {x_this_everHome : Int32} {x_this_firstFit : Int32} {x_this_rowMany : Int32} {x_this_traced : Int32} {x_this_own : Int32} {x_this_isParted : Int32} {f_this_laid : Nat → Int32} {f_this_number : Nat → Int32} {f_this_pile : Nat → Int32} {f_this_s : Nat → Int32} {f_this_sizes : Nat → Int32} {f_this_sorts : Nat → Int32} {r : Int32} {m_this_laid : Nat → Int32} {m_this_pile : Nat → Int32} {m_this_s : Nat → Int32} (hf : f_X9_wouldBe p0 p1 p2 f_this_laid f_this_number f_this_pile f_this_s f_this_sizes f_this_sorts = some (r, m_this_laid, m_this_pile, m_this_s)) : mFi l G yX9_wouldBe cX9_wouldBe 8 .int 7 [.ref h_this, .int p0, .int p1, .int p2] [(h_this, ob 9 [.ref h_this_s, .ref h_this_kept, .ref h_this_laid, .int x_this_isKept, .ref h_this_pile, .ref h_this_tape, .int x_this_taped, .ref h_this_letters, .int x_this_at, .int x_this_begun, .int x_this_token, .int x_this_value, .int x_this_opened, .int x_this_steps, .ref h_this_code0, .ref h_this_read, .ref h_this_saved, .ref h_this_plan, .ref h_this_bestPlan, .int x_this_most, .int x_this_many, .int x_this_few, .int x_this_everHome, .ref h_this_offThen, .ref h_this_paidThen, .int x_this_firstFit, .ref h_this_rows, .int x_this_rowMany, .ref h_this_sorts, .ref h_this_sizes, .ref h_this_number, .ref h_this_holds, .ref h_this_heldOne, .ref h_this_trace, .int x_this_traced, .int x_this_own, .int x_this_isParted]), (h_this_laid, ia G 65 f_this_laid), (h_this_number, ia G 160 f_this_number), (h_this_pile, ia G 200 f_this_pile), (h_this_s, ia G 313 f_this_s), (h_this_sizes, ia G 4 f_this_sizes), (h_this_sorts, ia G 4 f_this_sorts)] r [(h_this, ob 9 [.ref h_this_s, .ref h_this_kept, .ref h_this_laid, .int x_this_isKept, .ref h_this_pile, .ref h_this_tape, .int x_this_taped, .ref h_this_letters, .int x_this_at, .int x_this_begun, .int x_this_token, .int x_this_value, .int x_this_opened, .int x_this_steps, .ref h_this_code0, .ref h_this_read, .ref h_this_saved, .ref h_this_plan, .ref h_this_bestPlan, .int x_this_most, .int x_this_many, .int x_this_few, .int x_this_everHome, .ref h_this_offThen, .ref h_this_paidThen, .int x_this_firstFit, .ref h_this_rows, .int x_this_rowMany, .ref h_this_sorts, .ref h_this_sizes, .ref h_this_number, .ref h_this_holds, .ref h_this_heldOne, .ref h_this_trace, .int x_this_traced, .int x_this_own, .int x_this_isParted]), (h_this_laid, ia G 65 m_this_laid), (h_this_number, ia G 160 f_this_number), (h_this_pile, ia G 200 m_this_pile), (h_this_s, ia G 313 m_this_s), (h_this_sizes, ia G 4 f_this_sizes), (h_this_sorts, ia G 4 f_this_sorts)] := by
  refine mFi.of (by decide +kernel) (Nat.le_of_ble_eq_true rfl) ?_
  intro p e s m below meth c A C hr hlk h ls hl
  obtain ⟨hx, hb, hml, hown, hts⟩ := id C
  replace hl : lv_has ls 8 [(0, .ref h_this), (1, .int p0), (2, .int p1), (3, .int p2)] := hl
  unfold f_X9_wouldBe at hf
  refine with_K G A 8 (fun K hK1 hK2 => ?_)
  have B145 : ∀ (v4 : Int32) (v5 : Int32) (g_this_laid : Nat → Int32) (g_this_pile : Nat → Int32) (g_this_s : Nat → Int32), f_X9_wouldBe_b145 v4 v5 g_this_laid g_this_pile g_this_s = some (r, m_this_laid, m_this_pile, m_this_s) → K 145 ([] : List Value) [(h_this, ob 9 [.ref h_this_s, .ref h_this_kept, .ref h_this_laid, .int x_this_isKept, .ref h_this_pile, .ref h_this_tape, .int x_this_taped, .ref h_this_letters, .int x_this_at, .int x_this_begun, .int x_this_token, .int x_this_value, .int x_this_opened, .int x_this_steps, .ref h_this_code0, .ref h_this_read, .ref h_this_saved, .ref h_this_plan, .ref h_this_bestPlan, .int x_this_most, .int x_this_many, .int x_this_few, .int x_this_everHome, .ref h_this_offThen, .ref h_this_paidThen, .int x_this_firstFit, .ref h_this_rows, .int x_this_rowMany, .ref h_this_sorts, .ref h_this_sizes, .ref h_this_number, .ref h_this_holds, .ref h_this_heldOne, .ref h_this_trace, .int x_this_traced, .int x_this_own, .int x_this_isParted]), (h_this_laid, ia G 65 g_this_laid), (h_this_number, ia G 160 f_this_number), (h_this_pile, ia G 200 g_this_pile), (h_this_s, ia G 313 g_this_s), (h_this_sizes, ia G 4 f_this_sizes), (h_this_sorts, ia G 4 f_this_sorts)] [(0, .ref h_this), (4, .int v4), (5, .int v5)] := by
    intro v4 v5 g_this_laid g_this_pile g_this_s hf
    unfold f_X9_wouldBe_b145 at hf
    refine hK1 _ _ _ _ (fun H locs ls h hl => ?_)
    refine lv_aload_n hx hb dX9_wouldBe_145 rfl (lv_at hl 0 rfl) ?_
    replace hf := bd1_inv hf
    obtain ⟨g12, hc13, hf⟩ := hf
    refine r_cvV (ws' := [(h_this, ob 9 [.ref h_this_s, .ref h_this_kept, .ref h_this_laid, .int x_this_isKept, .ref h_this_pile, .ref h_this_tape, .int x_this_taped, .ref h_this_letters, .int x_this_at, .int x_this_begun, .int x_this_token, .int x_this_value, .int x_this_opened, .int x_this_steps, .ref h_this_code0, .ref h_this_read, .ref h_this_saved, .ref h_this_plan, .ref h_this_bestPlan, .int x_this_most, .int x_this_many, .int x_this_few, .int x_this_everHome, .ref h_this_offThen, .ref h_this_paidThen, .int x_this_firstFit, .ref h_this_rows, .int x_this_rowMany, .ref h_this_sorts, .ref h_this_sizes, .ref h_this_number, .ref h_this_holds, .ref h_this_heldOne, .ref h_this_trace, .int x_this_traced, .int x_this_own, .int x_this_isParted]), (h_this_laid, ia G 65 g_this_laid), (h_this_number, ia G 160 f_this_number), (h_this_pile, ia G 200 g_this_pile), (h_this_s, ia G 313 g12), (h_this_sizes, ia G 4 f_this_sizes), (h_this_sorts, ia G 4 f_this_sorts)]) C h (c_X9_layBack hc13) mv_X9_247 rfl 0 rfl [0, 1, 4] rfl rfl [4] [(h_this_s, ia G 313 g12)] rfl rfl (by decide +kernel) rfl hl.1 rfl (Nat.le_of_ble_eq_true rfl) (rok (by decide)) dX9_wouldBe_146 (fun H locs h => ?_)
    refine lv_iload hx hb dX9_wouldBe_149 (lv_at hl 1 rfl) ?_
    refine lv_if_eq (tgt := 159) hx hb dX9_wouldBe_151 rfl (fun c14 => ?_) (fun c14 => ?_)
    · replace hf := ifp c14 hf
      refine lv_iload hx hb dX9_wouldBe_159 (lv_at hl 2 rfl) ?_
      clear  hK2 hK1
      cases hf
      exact r_iret C h hr hlk rfl dX9_wouldBe_161
    · replace hf := ifn c14 hf
      refine lv_iload hx hb dX9_wouldBe_154 (lv_at hl 1 rfl) ?_
      refine lv_goto (tgt := 161) hx hb dX9_wouldBe_156 rfl ?_
      clear  hK2 hK1
      cases hf
      exact r_iret C h hr hlk rfl dX9_wouldBe_161
  have B117 : ∀ (rec37 : Int32 → Int32 → Int32 → (Nat → Int32) → (Nat → Int32) → (Nat → Int32) → Option (Int32 × (Nat → Int32) × (Nat → Int32) × (Nat → Int32))) (hrec37 : ∀ (v4 : Int32) (v5 : Int32) (v6 : Int32) (g_this_laid : Nat → Int32) (g_this_pile : Nat → Int32) (g_this_s : Nat → Int32), rec37 v4 v5 v6 g_this_laid g_this_pile g_this_s = some (r, m_this_laid, m_this_pile, m_this_s) → K 37 ([] : List Value) [(h_this, ob 9 [.ref h_this_s, .ref h_this_kept, .ref h_this_laid, .int x_this_isKept, .ref h_this_pile, .ref h_this_tape, .int x_this_taped, .ref h_this_letters, .int x_this_at, .int x_this_begun, .int x_this_token, .int x_this_value, .int x_this_opened, .int x_this_steps, .ref h_this_code0, .ref h_this_read, .ref h_this_saved, .ref h_this_plan, .ref h_this_bestPlan, .int x_this_most, .int x_this_many, .int x_this_few, .int x_this_everHome, .ref h_this_offThen, .ref h_this_paidThen, .int x_this_firstFit, .ref h_this_rows, .int x_this_rowMany, .ref h_this_sorts, .ref h_this_sizes, .ref h_this_number, .ref h_this_holds, .ref h_this_heldOne, .ref h_this_trace, .int x_this_traced, .int x_this_own, .int x_this_isParted]), (h_this_laid, ia G 65 g_this_laid), (h_this_number, ia G 160 f_this_number), (h_this_pile, ia G 200 g_this_pile), (h_this_s, ia G 313 g_this_s), (h_this_sizes, ia G 4 f_this_sizes), (h_this_sorts, ia G 4 f_this_sorts)] [(0, .ref h_this), (1, .int p0), (2, .int p1), (3, .int p2), (4, .int v4), (5, .int v5), (6, .int v6)]) (v5 : Int32) (v6 : Int32) (v7 : Int32) (s0 : Int32) (g_this_laid : Nat → Int32) (g_this_pile : Nat → Int32) (g_this_s : Nat → Int32), f_X9_wouldBe_b117 rec37 v5 v6 v7 s0 g_this_laid g_this_pile g_this_s = some (r, m_this_laid, m_this_pile, m_this_s) → K 117 [.int s0] [(h_this, ob 9 [.ref h_this_s, .ref h_this_kept, .ref h_this_laid, .int x_this_isKept, .ref h_this_pile, .ref h_this_tape, .int x_this_taped, .ref h_this_letters, .int x_this_at, .int x_this_begun, .int x_this_token, .int x_this_value, .int x_this_opened, .int x_this_steps, .ref h_this_code0, .ref h_this_read, .ref h_this_saved, .ref h_this_plan, .ref h_this_bestPlan, .int x_this_most, .int x_this_many, .int x_this_few, .int x_this_everHome, .ref h_this_offThen, .ref h_this_paidThen, .int x_this_firstFit, .ref h_this_rows, .int x_this_rowMany, .ref h_this_sorts, .ref h_this_sizes, .ref h_this_number, .ref h_this_holds, .ref h_this_heldOne, .ref h_this_trace, .int x_this_traced, .int x_this_own, .int x_this_isParted]), (h_this_laid, ia G 65 g_this_laid), (h_this_number, ia G 160 f_this_number), (h_this_pile, ia G 200 g_this_pile), (h_this_s, ia G 313 g_this_s), (h_this_sizes, ia G 4 f_this_sizes), (h_this_sorts, ia G 4 f_this_sorts)] [(0, .ref h_this), (1, .int p0), (2, .int p1), (3, .int p2), (5, .int v5), (6, .int v6), (7, .int v7)] := by
    intro rec37 hrec37 v5 v6 v7 s0 g_this_laid g_this_pile g_this_s hf
    unfold f_X9_wouldBe_b117 at hf
    refine hK1 _ _ _ _ (fun H locs ls h hl => ?_)
    refine lv_istore (lv' := [(4, .int s0), (0, .ref h_this), (1, .int p0), (2, .int p1), (3, .int p2), (5, .int v5), (6, .int v6), (7, .int v7)]) hx hb dX9_wouldBe_117 hl (by decide) rfl (fun ls hl => ?_)
    refine lv_iload hx hb dX9_wouldBe_119 (lv_at hl 5 rfl) ?_
    refine lv_iload hx hb dX9_wouldBe_121 (lv_at hl 0 rfl) ?_
    refine lv_if_ne (tgt := 135) hx hb dX9_wouldBe_123 rfl (fun c25 => ?_) (fun c25 => ?_)
    · replace hf := ifn c25 hf
      refine lv_iconst (v := (0 : Int32)) hx hb dX9_wouldBe_135 rfl ?_
      refine lv_iadd hx hb dX9_wouldBe_136 ?_
      refine lv_topi (fun t26 et26 => ?_)
      replace hf := lt1_inv et26 hf
      refine lv_istore (lv' := [(5, .int t26), (4, .int s0), (0, .ref h_this), (1, .int p0), (2, .int p1), (3, .int p2), (6, .int v6), (7, .int v7)]) hx hb dX9_wouldBe_137 hl (by decide) rfl (fun ls hl => ?_)
      obtain ⟨t27, et27⟩ : ∃ y : Int32, y = v6 + (1 : Int32) := ⟨_, rfl⟩
      replace hf := lt1_inv et27 hf
      refine lv_iinc (v := t27) (lv' := [(6, .int t27), (5, .int t26), (4, .int s0), (0, .ref h_this), (1, .int p0), (2, .int p1), (3, .int p2), (7, .int v7)]) hx hb dX9_wouldBe_139 hl (k := 6) rfl (by rw [et27]; rfl) (by decide) rfl (fun ls hl => ?_)
      refine lv_goto (tgt := 37) hx hb dX9_wouldBe_142 rfl ?_
      exact hK2 _ _ _ _ (hrec37 s0 t26 t27 g_this_laid g_this_pile g_this_s hf) _ _ _ h (lv_sub hl [3, 4, 5, 6, 2, 1, 0] rfl)
    · replace hf := ifp c25 hf
      refine lv_aload_n hx hb dX9_wouldBe_126 rfl (lv_at hl 1 rfl) ?_
      refine lv_iload hx hb dX9_wouldBe_127 (lv_at hl 7 rfl) ?_
      replace hf := bd3_inv hf
      obtain ⟨r28, g29, g30, hc31, hf⟩ := hf
      refine r_ciV (ws' := [(h_this, ob 9 [.ref h_this_s, .ref h_this_kept, .ref h_this_laid, .int x_this_isKept, .ref h_this_pile, .ref h_this_tape, .int x_this_taped, .ref h_this_letters, .int x_this_at, .int x_this_begun, .int x_this_token, .int x_this_value, .int x_this_opened, .int x_this_steps, .ref h_this_code0, .ref h_this_read, .ref h_this_saved, .ref h_this_plan, .ref h_this_bestPlan, .int x_this_most, .int x_this_many, .int x_this_few, .int x_this_everHome, .ref h_this_offThen, .ref h_this_paidThen, .int x_this_firstFit, .ref h_this_rows, .int x_this_rowMany, .ref h_this_sorts, .ref h_this_sizes, .ref h_this_number, .ref h_this_holds, .ref h_this_heldOne, .ref h_this_trace, .int x_this_traced, .int x_this_own, .int x_this_isParted]), (h_this_laid, ia G 65 g_this_laid), (h_this_number, ia G 160 f_this_number), (h_this_pile, ia G 200 g29), (h_this_s, ia G 313 g30), (h_this_sizes, ia G 4 f_this_sizes), (h_this_sorts, ia G 4 f_this_sorts)]) C h (c_X9_goesBy hc31) mv_X9_238 rfl 0 rfl [0, 3, 4] rfl rfl [3, 4] [(h_this_pile, ia G 200 g29), (h_this_s, ia G 313 g30)] rfl rfl (by decide +kernel) rfl hl.1 rfl (Nat.le_of_ble_eq_true rfl) (rok (by decide)) dX9_wouldBe_129 (fun H locs h => ?_)
      refine lv_goto (tgt := 136) hx hb dX9_wouldBe_132 rfl ?_
      refine lv_iadd hx hb dX9_wouldBe_136 ?_
      refine lv_topi (fun t32 et32 => ?_)
      replace hf := lt1_inv et32 hf
      refine lv_istore (lv' := [(5, .int t32), (4, .int s0), (0, .ref h_this), (1, .int p0), (2, .int p1), (3, .int p2), (6, .int v6), (7, .int v7)]) hx hb dX9_wouldBe_137 hl (by decide) rfl (fun ls hl => ?_)
      obtain ⟨t33, et33⟩ : ∃ y : Int32, y = v6 + (1 : Int32) := ⟨_, rfl⟩
      replace hf := lt1_inv et33 hf
      refine lv_iinc (v := t33) (lv' := [(6, .int t33), (5, .int t32), (4, .int s0), (0, .ref h_this), (1, .int p0), (2, .int p1), (3, .int p2), (7, .int v7)]) hx hb dX9_wouldBe_139 hl (k := 6) rfl (by rw [et33]; rfl) (by decide) rfl (fun ls hl => ?_)
      refine lv_goto (tgt := 37) hx hb dX9_wouldBe_142 rfl ?_
      exact hK2 _ _ _ _ (hrec37 s0 t32 t33 g_this_laid g29 g30 hf) _ _ _ h (lv_sub hl [3, 4, 5, 6, 2, 1, 0] rfl)
  have B111 : ∀ (rec37 : Int32 → Int32 → Int32 → (Nat → Int32) → (Nat → Int32) → (Nat → Int32) → Option (Int32 × (Nat → Int32) × (Nat → Int32) × (Nat → Int32))) (hrec37 : ∀ (v4 : Int32) (v5 : Int32) (v6 : Int32) (g_this_laid : Nat → Int32) (g_this_pile : Nat → Int32) (g_this_s : Nat → Int32), rec37 v4 v5 v6 g_this_laid g_this_pile g_this_s = some (r, m_this_laid, m_this_pile, m_this_s) → K 37 ([] : List Value) [(h_this, ob 9 [.ref h_this_s, .ref h_this_kept, .ref h_this_laid, .int x_this_isKept, .ref h_this_pile, .ref h_this_tape, .int x_this_taped, .ref h_this_letters, .int x_this_at, .int x_this_begun, .int x_this_token, .int x_this_value, .int x_this_opened, .int x_this_steps, .ref h_this_code0, .ref h_this_read, .ref h_this_saved, .ref h_this_plan, .ref h_this_bestPlan, .int x_this_most, .int x_this_many, .int x_this_few, .int x_this_everHome, .ref h_this_offThen, .ref h_this_paidThen, .int x_this_firstFit, .ref h_this_rows, .int x_this_rowMany, .ref h_this_sorts, .ref h_this_sizes, .ref h_this_number, .ref h_this_holds, .ref h_this_heldOne, .ref h_this_trace, .int x_this_traced, .int x_this_own, .int x_this_isParted]), (h_this_laid, ia G 65 g_this_laid), (h_this_number, ia G 160 f_this_number), (h_this_pile, ia G 200 g_this_pile), (h_this_s, ia G 313 g_this_s), (h_this_sizes, ia G 4 f_this_sizes), (h_this_sorts, ia G 4 f_this_sorts)] [(0, .ref h_this), (1, .int p0), (2, .int p1), (3, .int p2), (4, .int v4), (5, .int v5), (6, .int v6)]) (v5 : Int32) (v6 : Int32) (v7 : Int32) (g_this_laid : Nat → Int32) (g_this_pile : Nat → Int32) (g_this_s : Nat → Int32), f_X9_wouldBe_b111 rec37 v5 v6 v7 g_this_laid g_this_pile g_this_s = some (r, m_this_laid, m_this_pile, m_this_s) → K 111 ([] : List Value) [(h_this, ob 9 [.ref h_this_s, .ref h_this_kept, .ref h_this_laid, .int x_this_isKept, .ref h_this_pile, .ref h_this_tape, .int x_this_taped, .ref h_this_letters, .int x_this_at, .int x_this_begun, .int x_this_token, .int x_this_value, .int x_this_opened, .int x_this_steps, .ref h_this_code0, .ref h_this_read, .ref h_this_saved, .ref h_this_plan, .ref h_this_bestPlan, .int x_this_most, .int x_this_many, .int x_this_few, .int x_this_everHome, .ref h_this_offThen, .ref h_this_paidThen, .int x_this_firstFit, .ref h_this_rows, .int x_this_rowMany, .ref h_this_sorts, .ref h_this_sizes, .ref h_this_number, .ref h_this_holds, .ref h_this_heldOne, .ref h_this_trace, .int x_this_traced, .int x_this_own, .int x_this_isParted]), (h_this_laid, ia G 65 g_this_laid), (h_this_number, ia G 160 f_this_number), (h_this_pile, ia G 200 g_this_pile), (h_this_s, ia G 313 g_this_s), (h_this_sizes, ia G 4 f_this_sizes), (h_this_sorts, ia G 4 f_this_sorts)] [(0, .ref h_this), (1, .int p0), (2, .int p1), (3, .int p2), (5, .int v5), (6, .int v6), (7, .int v7)] := by
    intro rec37 hrec37 v5 v6 v7 g_this_laid g_this_pile g_this_s hf
    unfold f_X9_wouldBe_b111 at hf
    refine hK1 _ _ _ _ (fun H locs ls h hl => ?_)
    refine lv_bipush (v := (-4 : Int32)) hx hb dX9_wouldBe_111 rfl ?_
    refine lv_goto (tgt := 117) hx hb dX9_wouldBe_113 rfl ?_
    exact hK2 _ _ _ _ (B117 _ hrec37 v5 v6 v7 (-4 : Int32) g_this_laid g_this_pile g_this_s hf) _ _ _ h (lv_sub hl [0, 1, 2, 3, 4, 5, 6] rfl)
  have B77 : ∀ (rec37 : Int32 → Int32 → Int32 → (Nat → Int32) → (Nat → Int32) → (Nat → Int32) → Option (Int32 × (Nat → Int32) × (Nat → Int32) × (Nat → Int32))) (hrec37 : ∀ (v4 : Int32) (v5 : Int32) (v6 : Int32) (g_this_laid : Nat → Int32) (g_this_pile : Nat → Int32) (g_this_s : Nat → Int32), rec37 v4 v5 v6 g_this_laid g_this_pile g_this_s = some (r, m_this_laid, m_this_pile, m_this_s) → K 37 ([] : List Value) [(h_this, ob 9 [.ref h_this_s, .ref h_this_kept, .ref h_this_laid, .int x_this_isKept, .ref h_this_pile, .ref h_this_tape, .int x_this_taped, .ref h_this_letters, .int x_this_at, .int x_this_begun, .int x_this_token, .int x_this_value, .int x_this_opened, .int x_this_steps, .ref h_this_code0, .ref h_this_read, .ref h_this_saved, .ref h_this_plan, .ref h_this_bestPlan, .int x_this_most, .int x_this_many, .int x_this_few, .int x_this_everHome, .ref h_this_offThen, .ref h_this_paidThen, .int x_this_firstFit, .ref h_this_rows, .int x_this_rowMany, .ref h_this_sorts, .ref h_this_sizes, .ref h_this_number, .ref h_this_holds, .ref h_this_heldOne, .ref h_this_trace, .int x_this_traced, .int x_this_own, .int x_this_isParted]), (h_this_laid, ia G 65 g_this_laid), (h_this_number, ia G 160 f_this_number), (h_this_pile, ia G 200 g_this_pile), (h_this_s, ia G 313 g_this_s), (h_this_sizes, ia G 4 f_this_sizes), (h_this_sorts, ia G 4 f_this_sorts)] [(0, .ref h_this), (1, .int p0), (2, .int p1), (3, .int p2), (4, .int v4), (5, .int v5), (6, .int v6)]) (v5 : Int32) (v6 : Int32) (s0 : Int32) (g_this_laid : Nat → Int32) (g_this_pile : Nat → Int32) (g_this_s : Nat → Int32), f_X9_wouldBe_b77 rec37 p0 p1 f_this_sizes v5 v6 s0 g_this_laid g_this_pile g_this_s = some (r, m_this_laid, m_this_pile, m_this_s) → K 77 [.int s0] [(h_this, ob 9 [.ref h_this_s, .ref h_this_kept, .ref h_this_laid, .int x_this_isKept, .ref h_this_pile, .ref h_this_tape, .int x_this_taped, .ref h_this_letters, .int x_this_at, .int x_this_begun, .int x_this_token, .int x_this_value, .int x_this_opened, .int x_this_steps, .ref h_this_code0, .ref h_this_read, .ref h_this_saved, .ref h_this_plan, .ref h_this_bestPlan, .int x_this_most, .int x_this_many, .int x_this_few, .int x_this_everHome, .ref h_this_offThen, .ref h_this_paidThen, .int x_this_firstFit, .ref h_this_rows, .int x_this_rowMany, .ref h_this_sorts, .ref h_this_sizes, .ref h_this_number, .ref h_this_holds, .ref h_this_heldOne, .ref h_this_trace, .int x_this_traced, .int x_this_own, .int x_this_isParted]), (h_this_laid, ia G 65 g_this_laid), (h_this_number, ia G 160 f_this_number), (h_this_pile, ia G 200 g_this_pile), (h_this_s, ia G 313 g_this_s), (h_this_sizes, ia G 4 f_this_sizes), (h_this_sorts, ia G 4 f_this_sorts)] [(0, .ref h_this), (1, .int p0), (2, .int p1), (3, .int p2), (5, .int v5), (6, .int v6)] := by
    intro rec37 hrec37 v5 v6 s0 g_this_laid g_this_pile g_this_s hf
    unfold f_X9_wouldBe_b77 at hf
    refine hK1 _ _ _ _ (fun H locs ls h hl => ?_)
    refine lv_istore (lv' := [(7, .int s0), (0, .ref h_this), (1, .int p0), (2, .int p1), (3, .int p2), (5, .int v5), (6, .int v6)]) hx hb dX9_wouldBe_77 hl (by decide) rfl (fun ls hl => ?_)
    refine lv_aload_n hx hb dX9_wouldBe_79 rfl (lv_at hl 1 rfl) ?_
    refine lv_iload_n hx hb dX9_wouldBe_80 rfl (lv_at hl 2 rfl) ?_
    refine lv_iload_n hx hb dX9_wouldBe_81 rfl (lv_at hl 3 rfl) ?_
    refine lv_iload hx hb dX9_wouldBe_82 (lv_at hl 6 rfl) ?_
    replace hf := bd1_inv hf
    obtain ⟨r19, hc20, hf⟩ := hf
    refine r_ciV0 C h (c_X9_isItem hc20) mv_X9_338 rfl 0 rfl [0, 5] rfl rfl hl.1 rfl (Nat.le_of_ble_eq_true rfl) (rok (by decide)) dX9_wouldBe_84 (fun H locs h => ?_)
    refine lv_if_ne (tgt := 95) hx hb dX9_wouldBe_87 rfl (fun c21 => ?_) (fun c21 => ?_)
    · replace hf := ifn c21 hf
      refine lv_aload_n hx hb dX9_wouldBe_95 rfl (lv_at hl 1 rfl) ?_
      refine lv_iload hx hb dX9_wouldBe_96 (lv_at hl 0 rfl) ?_
      replace hf := bd1_inv hf
      obtain ⟨r22, hc23, hf⟩ := hf
      refine r_ciV0 C h (c_X9_isAct hc23) mv_X9_326 rfl 0 rfl [0, 4] rfl rfl hl.1 rfl (Nat.le_of_ble_eq_true rfl) (rok (by decide)) dX9_wouldBe_98 (fun H locs h => ?_)
      refine lv_if_eq (tgt := 111) hx hb dX9_wouldBe_101 rfl (fun c24 => ?_) (fun c24 => ?_)
      · replace hf := ifp c24 hf
        exact hK2 _ _ _ _ (B111 _ hrec37 v5 v6 s0 g_this_laid g_this_pile g_this_s hf) _ _ _ h (lv_sub hl [1, 2, 3, 4, 5, 6, 0] rfl)
      · replace hf := ifn c24 hf
        refine lv_aload_n hx hb dX9_wouldBe_104 rfl (lv_at hl 1 rfl) ?_
        replace hf := bd1_inv hf
        obtain ⟨r34, hc35, hf⟩ := hf
        refine r_ciV0 C h (c_X9_isOver hc35) mv_X9_232 rfl 0 rfl [0, 4] rfl rfl hl.1 rfl (Nat.le_of_ble_eq_true rfl) (rok (by decide)) dX9_wouldBe_105 (fun H locs h => ?_)
        refine lv_if_eq (tgt := 116) hx hb dX9_wouldBe_108 rfl (fun c36 => ?_) (fun c36 => ?_)
        · replace hf := ifp c36 hf
          refine lv_iconst (v := (0 : Int32)) hx hb dX9_wouldBe_116 rfl ?_
          exact hK2 _ _ _ _ (B117 _ hrec37 v5 v6 s0 (0 : Int32) g_this_laid g_this_pile g_this_s hf) _ _ _ h (lv_sub hl [1, 2, 3, 4, 5, 6, 0] rfl)
        · replace hf := ifn c36 hf
          exact hK2 _ _ _ _ (B111 _ hrec37 v5 v6 s0 g_this_laid g_this_pile g_this_s hf) _ _ _ h (lv_sub hl [1, 2, 3, 4, 5, 6, 0] rfl)
    · replace hf := ifp c21 hf
      refine lv_bipush (v := (-12 : Int32)) hx hb dX9_wouldBe_90 rfl ?_
      refine lv_goto (tgt := 117) hx hb dX9_wouldBe_92 rfl ?_
      exact hK2 _ _ _ _ (B117 _ hrec37 v5 v6 s0 (-12 : Int32) g_this_laid g_this_pile g_this_s hf) _ _ _ h (lv_sub hl [1, 2, 3, 4, 5, 6, 0] rfl)
  have L37 : ∀ (n : Nat) (v4 : Int32) (v5 : Int32) (v6 : Int32) (g_this_laid : Nat → Int32) (g_this_pile : Nat → Int32) (g_this_s : Nat → Int32), f_X9_wouldBe_L37 p0 p1 p2 f_this_number f_this_sizes n v4 v5 v6 g_this_laid g_this_pile g_this_s = some (r, m_this_laid, m_this_pile, m_this_s) → K 37 ([] : List Value) [(h_this, ob 9 [.ref h_this_s, .ref h_this_kept, .ref h_this_laid, .int x_this_isKept, .ref h_this_pile, .ref h_this_tape, .int x_this_taped, .ref h_this_letters, .int x_this_at, .int x_this_begun, .int x_this_token, .int x_this_value, .int x_this_opened, .int x_this_steps, .ref h_this_code0, .ref h_this_read, .ref h_this_saved, .ref h_this_plan, .ref h_this_bestPlan, .int x_this_most, .int x_this_many, .int x_this_few, .int x_this_everHome, .ref h_this_offThen, .ref h_this_paidThen, .int x_this_firstFit, .ref h_this_rows, .int x_this_rowMany, .ref h_this_sorts, .ref h_this_sizes, .ref h_this_number, .ref h_this_holds, .ref h_this_heldOne, .ref h_this_trace, .int x_this_traced, .int x_this_own, .int x_this_isParted]), (h_this_laid, ia G 65 g_this_laid), (h_this_number, ia G 160 f_this_number), (h_this_pile, ia G 200 g_this_pile), (h_this_s, ia G 313 g_this_s), (h_this_sizes, ia G 4 f_this_sizes), (h_this_sorts, ia G 4 f_this_sorts)] [(0, .ref h_this), (1, .int p0), (2, .int p1), (3, .int p2), (4, .int v4), (5, .int v5), (6, .int v6)] := by
    intro n
    induction n with
    | zero =>
      intro v4 v5 v6 g_this_laid g_this_pile g_this_s hf
      replace hf : (none : Option _) = some _ := hf
      cases hf
    | succ n ih =>
      intro v4 v5 v6 g_this_laid g_this_pile g_this_s hf
      rw [f_X9_wouldBe_L37] at hf
      refine hK1 _ _ _ _ (fun H locs ls h hl => ?_)
      refine lv_iload hx hb dX9_wouldBe_37 (lv_at hl 6 rfl) ?_
      refine lv_iload_n hx hb dX9_wouldBe_39 rfl (lv_at hl 3 rfl) ?_
      refine lv_icmp_ge (tgt := 145) hx hb dX9_wouldBe_40 rfl (fun c11 => ?_) (fun c11 => ?_)
      · replace hf := ifp c11 hf
        exact hK2 _ _ _ _ (B145 v4 v5 g_this_laid g_this_pile g_this_s hf) _ _ _ h (lv_sub hl [0, 4, 5] rfl)
      · replace hf := ifn c11 hf
        refine lv_iload hx hb dX9_wouldBe_43 (lv_at hl 4 rfl) ?_
        refine lv_if_ne (tgt := 145) hx hb dX9_wouldBe_45 rfl (fun c15 => ?_) (fun c15 => ?_)
        · replace hf := ifn c15 hf
          exact hK2 _ _ _ _ (B145 v4 v5 g_this_laid g_this_pile g_this_s hf) _ _ _ h (lv_sub hl [0, 4, 5] rfl)
        · replace hf := ifp c15 hf
          refine lv_aload_n hx hb dX9_wouldBe_48 rfl (lv_at hl 0 rfl) ?_
          refine lv_iload_n hx hb dX9_wouldBe_49 rfl (lv_at hl 1 rfl) ?_
          refine lv_iload_n hx hb dX9_wouldBe_50 rfl (lv_at hl 2 rfl) ?_
          refine lv_iload hx hb dX9_wouldBe_51 (lv_at hl 6 rfl) ?_
          replace hf := bd1_inv hf
          obtain ⟨r16, hc17, hf⟩ := hf
          refine r_ciV0 C h (c_X9_isItem hc17) mv_X9_338 rfl 0 rfl [0, 5] rfl rfl hl.1 rfl (Nat.le_of_ble_eq_true rfl) (rok (by decide)) dX9_wouldBe_53 (fun H locs h => ?_)
          refine lv_if_eq (tgt := 76) hx hb dX9_wouldBe_56 rfl (fun c18 => ?_) (fun c18 => ?_)
          · replace hf := ifp c18 hf
            refine lv_iconst (v := (-1 : Int32)) hx hb dX9_wouldBe_76 rfl ?_
            exact hK2 _ _ _ _ (B77 _ ih v5 v6 (-1 : Int32) g_this_laid g_this_pile g_this_s hf) _ _ _ h (lv_sub hl [0, 1, 2, 3, 5, 6] rfl)
          · replace hf := ifn c18 hf
            refine lv_aload_n hx hb dX9_wouldBe_59 rfl (lv_at hl 0 rfl) ?_
            refine r_get C h fk_X9_59 0 rfl rfl dX9_wouldBe_60 ?_
            refine lv_bipush (v := (40 : Int32)) hx hb dX9_wouldBe_63 rfl ?_
            refine lv_iload_n hx hb dX9_wouldBe_65 rfl (lv_at hl 1 rfl) ?_
            refine lv_imul hx hb dX9_wouldBe_66 ?_
            refine lv_iload_n hx hb dX9_wouldBe_67 rfl (lv_at hl 2 rfl) ?_
            refine lv_iadd hx hb dX9_wouldBe_68 ?_
            refine lv_iload hx hb dX9_wouldBe_69 (lv_at hl 6 rfl) ?_
            refine lv_iadd hx hb dX9_wouldBe_71 ?_
            replace hf := chkI_inv hf
            obtain ⟨hi37, hf⟩ := hf
            refine r_iald C h 2 rfl hi37 dX9_wouldBe_72 ?_
            refine lv_goto (tgt := 77) hx hb dX9_wouldBe_73 rfl ?_
            exact hK2 _ _ _ _ (B77 _ ih v5 v6 (f_this_number ((((40 : Int32) * p0) + p1) + v6).toNatClampNeg) g_this_laid g_this_pile g_this_s hf) _ _ _ h (lv_sub hl [0, 1, 2, 3, 5, 6] rfl)
  refine lv_iload_n hx hb dX9_wouldBe_0 rfl (lv_at hl 1 rfl) ?_
  replace hf := bd1_inv hf
  obtain ⟨r1, hc2, hf⟩ := hf
  refine r_ciS0 C h (c_X9_isSheet hc2) ms_X9_329 rfl [] rfl rfl hl.1 rfl (Nat.le_of_ble_eq_true rfl) (rok (by decide)) dX9_wouldBe_1 (fun H locs h => ?_)
  refine lv_if_eq (tgt := 17) hx hb dX9_wouldBe_4 rfl (fun c3 => ?_) (fun c3 => ?_)
  · replace hf := ifp c3 hf
    refine lv_iconst (v := (-1 : Int32)) hx hb dX9_wouldBe_17 rfl ?_
    clear L37 B77 B111 B117 B145 hK2 hK1
    cases hf
    exact r_iret C h hr hlk rfl dX9_wouldBe_18
  · replace hf := ifn c3 hf
    refine lv_iload_n hx hb dX9_wouldBe_7 rfl (lv_at hl 3 rfl) ?_
    refine lv_iconst (v := (0 : Int32)) hx hb dX9_wouldBe_8 rfl ?_
    refine lv_bipush (v := (20 : Int32)) hx hb dX9_wouldBe_9 rfl ?_
    replace hf := bd1_inv hf
    obtain ⟨r4, hc5, hf⟩ := hf
    refine r_ciS0 C h (c_X9_in1 hc5) ms_X9_71 rfl [] rfl rfl hl.1 rfl (Nat.le_of_ble_eq_true rfl) (rok (by decide)) dX9_wouldBe_11 (fun H locs h => ?_)
    refine lv_if_ne (tgt := 19) hx hb dX9_wouldBe_14 rfl (fun c6 => ?_) (fun c6 => ?_)
    · replace hf := ifn c6 hf
      refine lv_aload_n hx hb dX9_wouldBe_19 rfl (lv_at hl 0 rfl) ?_
      refine lv_iload_n hx hb dX9_wouldBe_20 rfl (lv_at hl 1 rfl) ?_
      refine lv_iconst (v := (0 : Int32)) hx hb dX9_wouldBe_21 rfl ?_
      replace hf := bd1_inv hf
      obtain ⟨r7, hc8, hf⟩ := hf
      refine r_ciV0 C h (c_X9_lacks hc8) mv_X9_335 rfl 0 rfl [0, 6] rfl rfl hl.1 rfl (Nat.le_of_ble_eq_true rfl) (rok (by decide)) dX9_wouldBe_22 (fun H locs h => ?_)
      refine lv_istore (lv' := [(4, .int r7), (0, .ref h_this), (1, .int p0), (2, .int p1), (3, .int p2)]) hx hb dX9_wouldBe_25 hl (by decide) rfl (fun ls hl => ?_)
      refine lv_iconst (v := (0 : Int32)) hx hb dX9_wouldBe_27 rfl ?_
      refine lv_istore (lv' := [(5, .int (0 : Int32)), (4, .int r7), (0, .ref h_this), (1, .int p0), (2, .int p1), (3, .int p2)]) hx hb dX9_wouldBe_28 hl (by decide) rfl (fun ls hl => ?_)
      refine lv_aload_n hx hb dX9_wouldBe_30 rfl (lv_at hl 2 rfl) ?_
      replace hf := bd1_inv hf
      obtain ⟨g9, hc10, hf⟩ := hf
      refine r_cvV (ws' := [(h_this, ob 9 [.ref h_this_s, .ref h_this_kept, .ref h_this_laid, .int x_this_isKept, .ref h_this_pile, .ref h_this_tape, .int x_this_taped, .ref h_this_letters, .int x_this_at, .int x_this_begun, .int x_this_token, .int x_this_value, .int x_this_opened, .int x_this_steps, .ref h_this_code0, .ref h_this_read, .ref h_this_saved, .ref h_this_plan, .ref h_this_bestPlan, .int x_this_most, .int x_this_many, .int x_this_few, .int x_this_everHome, .ref h_this_offThen, .ref h_this_paidThen, .int x_this_firstFit, .ref h_this_rows, .int x_this_rowMany, .ref h_this_sorts, .ref h_this_sizes, .ref h_this_number, .ref h_this_holds, .ref h_this_heldOne, .ref h_this_trace, .int x_this_traced, .int x_this_own, .int x_this_isParted]), (h_this_laid, ia G 65 g9), (h_this_number, ia G 160 f_this_number), (h_this_pile, ia G 200 f_this_pile), (h_this_s, ia G 313 f_this_s), (h_this_sizes, ia G 4 f_this_sizes), (h_this_sorts, ia G 4 f_this_sorts)]) C h (c_X9_layDown hc10) mv_X9_241 rfl 0 rfl [0, 1, 4] rfl rfl [1] [(h_this_laid, ia G 65 g9)] rfl rfl (by decide +kernel) rfl hl.1 rfl (Nat.le_of_ble_eq_true rfl) (rok (by decide)) dX9_wouldBe_31 (fun H locs h => ?_)
      refine lv_iconst (v := (0 : Int32)) hx hb dX9_wouldBe_34 rfl ?_
      refine lv_istore (lv' := [(6, .int (0 : Int32)), (5, .int (0 : Int32)), (4, .int r7), (0, .ref h_this), (1, .int p0), (2, .int p1), (3, .int p2)]) hx hb dX9_wouldBe_35 hl (by decide) rfl (fun ls hl => ?_)
      exact hK2 _ _ _ _ (L37 1000 r7 (0 : Int32) (0 : Int32) g9 f_this_pile f_this_s hf) _ _ _ h (lv_sub hl [3, 4, 5, 6, 2, 1, 0] rfl)
    · replace hf := ifp c6 hf
      refine lv_iconst (v := (-1 : Int32)) hx hb dX9_wouldBe_17 rfl ?_
      clear L37 B77 B111 B117 B145 hK2 hK1
      cases hf
      exact r_iret C h hr hlk rfl dX9_wouldBe_18
