set_option maxRecDepth 100000 in
set_option maxHeartbeats 4000000 in
theorem c_X9_fitting {l : Launch} {G : Gt} {h_this h_this_s h_this_kept h_this_laid h_this_pile h_this_tape h_this_letters h_this_code0 h_this_read h_this_saved h_this_plan h_this_bestPlan h_this_offThen h_this_paidThen h_this_rows h_this_sorts h_this_sizes h_this_number h_this_holds h_this_heldOne h_this_trace : Nat} {p0 : Int32} {x_this_isKept : Int32} {x_this_taped : Int32} {x_this_at : Int32} {x_this_begun : Int32} {x_this_token : Int32} {x_this_value : Int32} {x_this_opened : Int32} {x_this_steps : Int32} {x_this_most : Int32} {x_this_many : Int32} {x_this_few : Int32} {x_this_everHome : Int32} {x_this_firstFit : Int32} {x_this_rowMany : Int32} {x_this_traced : Int32} {x_this_own : Int32} {x_this_isParted : Int32} {f_this_offThen : Nat → Int32} {f_this_paidThen : Nat → Int32} {f_this_s : Nat → Int32} {r : Int32} {m_this_firstFit : Int32} {m_this_offThen : Nat → Int32} {m_this_paidThen : Nat → Int32} (hf : f_X9_fitting p0 f_this_offThen f_this_paidThen f_this_s = some (r, m_this_firstFit, m_this_offThen, m_this_paidThen)) : mFi l G yX9_fitting cX9_fitting 6 .int 2 [.ref h_this, .int p0] [(h_this, ob 9 [.ref h_this_s, .ref h_this_kept, .ref h_this_laid, .int x_this_isKept, .ref h_this_pile, .ref h_this_tape, .int x_this_taped, .ref h_this_letters, .int x_this_at, .int x_this_begun, .int x_this_token, .int x_this_value, .int x_this_opened, .int x_this_steps, .ref h_this_code0, .ref h_this_read, .ref h_this_saved, .ref h_this_plan, .ref h_this_bestPlan, .int x_this_most, .int x_this_many, .int x_this_few, .int x_this_everHome, .ref h_this_offThen, .ref h_this_paidThen, .int x_this_firstFit, .ref h_this_rows, .int x_this_rowMany, .ref h_this_sorts, .ref h_this_sizes, .ref h_this_number, .ref h_this_holds, .ref h_this_heldOne, .ref h_this_trace, .int x_this_traced, .int x_this_own, .int x_this_isParted]), (h_this_offThen, ia G 16 f_this_offThen), (h_this_paidThen, ia G 16 f_this_paidThen), (h_this_s, ia G 313 f_this_s)] r [(h_this, ob 9 [.ref h_this_s, .ref h_this_kept, .ref h_this_laid, .int x_this_isKept, .ref h_this_pile, .ref h_this_tape, .int x_this_taped, .ref h_this_letters, .int x_this_at, .int x_this_begun, .int x_this_token, .int x_this_value, .int x_this_opened, .int x_this_steps, .ref h_this_code0, .ref h_this_read, .ref h_this_saved, .ref h_this_plan, .ref h_this_bestPlan, .int x_this_most, .int x_this_many, .int x_this_few, .int x_this_everHome, .ref h_this_offThen, .ref h_this_paidThen, .int m_this_firstFit, .ref h_this_rows, .int x_this_rowMany, .ref h_this_sorts, .ref h_this_sizes, .ref h_this_number, .ref h_this_holds, .ref h_this_heldOne, .ref h_this_trace, .int x_this_traced, .int x_this_own, .int x_this_isParted]), (h_this_offThen, ia G 16 m_this_offThen), (h_this_paidThen, ia G 16 m_this_paidThen), (h_this_s, ia G 313 f_this_s)] := by
  refine mFi.of (by decide +kernel) (Nat.le_of_ble_eq_true rfl) ?_
  intro p e s m below meth c A C hr hlk h ls hl
  obtain ⟨hx, hb, hml, hown, hts⟩ := id C
  replace hl : lv_has ls 6 [(0, .ref h_this), (1, .int p0)] := hl
  unfold f_X9_fitting at hf
  refine with_K G A 6 (fun K hK1 hK2 => ?_)
  have B105 : ∀ (rec9 : Int32 → Int32 → Int32 → (Nat → Int32) → (Nat → Int32) → Option (Int32 × Int32 × (Nat → Int32) × (Nat → Int32))) (hrec9 : ∀ (v2 : Int32) (v3 : Int32) (y_this_firstFit : Int32) (g_this_offThen : Nat → Int32) (g_this_paidThen : Nat → Int32), rec9 v2 v3 y_this_firstFit g_this_offThen g_this_paidThen = some (r, m_this_firstFit, m_this_offThen, m_this_paidThen) → K 9 ([] : List Value) [(h_this, ob 9 [.ref h_this_s, .ref h_this_kept, .ref h_this_laid, .int x_this_isKept, .ref h_this_pile, .ref h_this_tape, .int x_this_taped, .ref h_this_letters, .int x_this_at, .int x_this_begun, .int x_this_token, .int x_this_value, .int x_this_opened, .int x_this_steps, .ref h_this_code0, .ref h_this_read, .ref h_this_saved, .ref h_this_plan, .ref h_this_bestPlan, .int x_this_most, .int x_this_many, .int x_this_few, .int x_this_everHome, .ref h_this_offThen, .ref h_this_paidThen, .int y_this_firstFit, .ref h_this_rows, .int x_this_rowMany, .ref h_this_sorts, .ref h_this_sizes, .ref h_this_number, .ref h_this_holds, .ref h_this_heldOne, .ref h_this_trace, .int x_this_traced, .int x_this_own, .int x_this_isParted]), (h_this_offThen, ia G 16 g_this_offThen), (h_this_paidThen, ia G 16 g_this_paidThen), (h_this_s, ia G 313 f_this_s)] [(0, .ref h_this), (1, .int p0), (2, .int v2), (3, .int v3)]) (v3 : Int32) (v4 : Int32) (s0 : Int32) (s1 : Int32) (y_this_firstFit : Int32) (g_this_offThen : Nat → Int32) (g_this_paidThen : Nat → Int32), f_X9_fitting_b105 rec9 v3 v4 s0 s1 y_this_firstFit g_this_offThen g_this_paidThen = some (r, m_this_firstFit, m_this_offThen, m_this_paidThen) → K 105 [.int s1, .int s0] [(h_this, ob 9 [.ref h_this_s, .ref h_this_kept, .ref h_this_laid, .int x_this_isKept, .ref h_this_pile, .ref h_this_tape, .int x_this_taped, .ref h_this_letters, .int x_this_at, .int x_this_begun, .int x_this_token, .int x_this_value, .int x_this_opened, .int x_this_steps, .ref h_this_code0, .ref h_this_read, .ref h_this_saved, .ref h_this_plan, .ref h_this_bestPlan, .int x_this_most, .int x_this_many, .int x_this_few, .int x_this_everHome, .ref h_this_offThen, .ref h_this_paidThen, .int y_this_firstFit, .ref h_this_rows, .int x_this_rowMany, .ref h_this_sorts, .ref h_this_sizes, .ref h_this_number, .ref h_this_holds, .ref h_this_heldOne, .ref h_this_trace, .int x_this_traced, .int x_this_own, .int x_this_isParted]), (h_this_offThen, ia G 16 g_this_offThen), (h_this_paidThen, ia G 16 g_this_paidThen), (h_this_s, ia G 313 f_this_s)] [(0, .ref h_this), (1, .int p0), (3, .int v3), (4, .int v4)] := by
    intro rec9 hrec9 v3 v4 s0 s1 y_this_firstFit g_this_offThen g_this_paidThen hf
    unfold f_X9_fitting_b105 at hf
    refine hK1 _ _ _ _ (fun H locs ls h hl => ?_)
    refine lv_iadd hx hb dX9_fitting_105 ?_
    refine lv_topi (fun t7 et7 => ?_)
    replace hf := lt1_inv et7 hf
    refine lv_istore_n (lv' := [(2, .int t7), (0, .ref h_this), (1, .int p0), (3, .int v3), (4, .int v4)]) hx hb dX9_fitting_106 rfl hl (by decide) rfl (fun ls hl => ?_)
    refine lv_aload_n hx hb dX9_fitting_107 rfl (lv_at hl 1 rfl) ?_
    refine lv_iload hx hb dX9_fitting_108 (lv_at hl 4 rfl) ?_
    refine lv_if_eq (tgt := 124) hx hb dX9_fitting_110 rfl (fun c8 => ?_) (fun c8 => ?_)
    · replace hf := ifp c8 hf
      refine lv_aload_n hx hb dX9_fitting_124 rfl (lv_at hl 1 rfl) ?_
      refine r_get C h fk_X9_304 0 rfl rfl dX9_fitting_125 ?_
      refine r_put (ws' := [(h_this, ob 9 [.ref h_this_s, .ref h_this_kept, .ref h_this_laid, .int x_this_isKept, .ref h_this_pile, .ref h_this_tape, .int x_this_taped, .ref h_this_letters, .int x_this_at, .int x_this_begun, .int x_this_token, .int x_this_value, .int x_this_opened, .int x_this_steps, .ref h_this_code0, .ref h_this_read, .ref h_this_saved, .ref h_this_plan, .ref h_this_bestPlan, .int x_this_most, .int x_this_many, .int x_this_few, .int x_this_everHome, .ref h_this_offThen, .ref h_this_paidThen, .int y_this_firstFit, .ref h_this_rows, .int x_this_rowMany, .ref h_this_sorts, .ref h_this_sizes, .ref h_this_number, .ref h_this_holds, .ref h_this_heldOne, .ref h_this_trace, .int x_this_traced, .int x_this_own, .int x_this_isParted]), (h_this_offThen, ia G 16 g_this_offThen), (h_this_paidThen, ia G 16 g_this_paidThen), (h_this_s, ia G 313 f_this_s)]) C h fw_X9_304 0 rfl rfl rfl (Nat.le_of_ble_eq_true rfl) dX9_fitting_128 rfl (fun H locs h => ?_)
      obtain ⟨t9, et9⟩ : ∃ y : Int32, y = v3 + (1 : Int32) := ⟨_, rfl⟩
      replace hf := lt1_inv et9 hf
      refine lv_iinc (v := t9) (lv' := [(3, .int t9), (2, .int t7), (0, .ref h_this), (1, .int p0), (4, .int v4)]) hx hb dX9_fitting_131 hl (k := 3) rfl (by rw [et9]; rfl) (by decide) rfl (fun ls hl => ?_)
      refine lv_goto (tgt := 9) hx hb dX9_fitting_134 rfl ?_
      exact hK2 _ _ _ _ (hrec9 t7 t9 y_this_firstFit g_this_offThen g_this_paidThen hf) _ _ _ h (lv_sub hl [2, 3, 1, 0] rfl)
    · replace hf := ifn c8 hf
      refine lv_aload_n hx hb dX9_fitting_113 rfl (lv_at hl 1 rfl) ?_
      refine r_get C h fk_X9_304 0 rfl rfl dX9_fitting_114 ?_
      refine lv_if_ge (tgt := 124) hx hb dX9_fitting_117 rfl (fun c10 => ?_) (fun c10 => ?_)
      · replace hf := ifp c10 hf
        refine lv_aload_n hx hb dX9_fitting_124 rfl (lv_at hl 1 rfl) ?_
        refine r_get C h fk_X9_304 0 rfl rfl dX9_fitting_125 ?_
        refine r_put (ws' := [(h_this, ob 9 [.ref h_this_s, .ref h_this_kept, .ref h_this_laid, .int x_this_isKept, .ref h_this_pile, .ref h_this_tape, .int x_this_taped, .ref h_this_letters, .int x_this_at, .int x_this_begun, .int x_this_token, .int x_this_value, .int x_this_opened, .int x_this_steps, .ref h_this_code0, .ref h_this_read, .ref h_this_saved, .ref h_this_plan, .ref h_this_bestPlan, .int x_this_most, .int x_this_many, .int x_this_few, .int x_this_everHome, .ref h_this_offThen, .ref h_this_paidThen, .int y_this_firstFit, .ref h_this_rows, .int x_this_rowMany, .ref h_this_sorts, .ref h_this_sizes, .ref h_this_number, .ref h_this_holds, .ref h_this_heldOne, .ref h_this_trace, .int x_this_traced, .int x_this_own, .int x_this_isParted]), (h_this_offThen, ia G 16 g_this_offThen), (h_this_paidThen, ia G 16 g_this_paidThen), (h_this_s, ia G 313 f_this_s)]) C h fw_X9_304 0 rfl rfl rfl (Nat.le_of_ble_eq_true rfl) dX9_fitting_128 rfl (fun H locs h => ?_)
        obtain ⟨t11, et11⟩ : ∃ y : Int32, y = v3 + (1 : Int32) := ⟨_, rfl⟩
        replace hf := lt1_inv et11 hf
        refine lv_iinc (v := t11) (lv' := [(3, .int t11), (2, .int t7), (0, .ref h_this), (1, .int p0), (4, .int v4)]) hx hb dX9_fitting_131 hl (k := 3) rfl (by rw [et11]; rfl) (by decide) rfl (fun ls hl => ?_)
        refine lv_goto (tgt := 9) hx hb dX9_fitting_134 rfl ?_
        exact hK2 _ _ _ _ (hrec9 t7 t11 y_this_firstFit g_this_offThen g_this_paidThen hf) _ _ _ h (lv_sub hl [2, 3, 1, 0] rfl)
      · replace hf := ifn c10 hf
        refine lv_iload_n hx hb dX9_fitting_120 rfl (lv_at hl 3 rfl) ?_
        refine lv_goto (tgt := 128) hx hb dX9_fitting_121 rfl ?_
        refine r_put (ws' := [(h_this, ob 9 [.ref h_this_s, .ref h_this_kept, .ref h_this_laid, .int x_this_isKept, .ref h_this_pile, .ref h_this_tape, .int x_this_taped, .ref h_this_letters, .int x_this_at, .int x_this_begun, .int x_this_token, .int x_this_value, .int x_this_opened, .int x_this_steps, .ref h_this_code0, .ref h_this_read, .ref h_this_saved, .ref h_this_plan, .ref h_this_bestPlan, .int x_this_most, .int x_this_many, .int x_this_few, .int x_this_everHome, .ref h_this_offThen, .ref h_this_paidThen, .int v3, .ref h_this_rows, .int x_this_rowMany, .ref h_this_sorts, .ref h_this_sizes, .ref h_this_number, .ref h_this_holds, .ref h_this_heldOne, .ref h_this_trace, .int x_this_traced, .int x_this_own, .int x_this_isParted]), (h_this_offThen, ia G 16 g_this_offThen), (h_this_paidThen, ia G 16 g_this_paidThen), (h_this_s, ia G 313 f_this_s)]) C h fw_X9_304 0 rfl rfl rfl (Nat.le_of_ble_eq_true rfl) dX9_fitting_128 rfl (fun H locs h => ?_)
        obtain ⟨t12, et12⟩ : ∃ y : Int32, y = v3 + (1 : Int32) := ⟨_, rfl⟩
        replace hf := lt1_inv et12 hf
        refine lv_iinc (v := t12) (lv' := [(3, .int t12), (2, .int t7), (0, .ref h_this), (1, .int p0), (4, .int v4)]) hx hb dX9_fitting_131 hl (k := 3) rfl (by rw [et12]; rfl) (by decide) rfl (fun ls hl => ?_)
        refine lv_goto (tgt := 9) hx hb dX9_fitting_134 rfl ?_
        exact hK2 _ _ _ _ (hrec9 t7 t12 v3 g_this_offThen g_this_paidThen hf) _ _ _ h (lv_sub hl [2, 3, 1, 0] rfl)
  have B94 : ∀ (rec9 : Int32 → Int32 → Int32 → (Nat → Int32) → (Nat → Int32) → Option (Int32 × Int32 × (Nat → Int32) × (Nat → Int32))) (hrec9 : ∀ (v2 : Int32) (v3 : Int32) (y_this_firstFit : Int32) (g_this_offThen : Nat → Int32) (g_this_paidThen : Nat → Int32), rec9 v2 v3 y_this_firstFit g_this_offThen g_this_paidThen = some (r, m_this_firstFit, m_this_offThen, m_this_paidThen) → K 9 ([] : List Value) [(h_this, ob 9 [.ref h_this_s, .ref h_this_kept, .ref h_this_laid, .int x_this_isKept, .ref h_this_pile, .ref h_this_tape, .int x_this_taped, .ref h_this_letters, .int x_this_at, .int x_this_begun, .int x_this_token, .int x_this_value, .int x_this_opened, .int x_this_steps, .ref h_this_code0, .ref h_this_read, .ref h_this_saved, .ref h_this_plan, .ref h_this_bestPlan, .int x_this_most, .int x_this_many, .int x_this_few, .int x_this_everHome, .ref h_this_offThen, .ref h_this_paidThen, .int y_this_firstFit, .ref h_this_rows, .int x_this_rowMany, .ref h_this_sorts, .ref h_this_sizes, .ref h_this_number, .ref h_this_holds, .ref h_this_heldOne, .ref h_this_trace, .int x_this_traced, .int x_this_own, .int x_this_isParted]), (h_this_offThen, ia G 16 g_this_offThen), (h_this_paidThen, ia G 16 g_this_paidThen), (h_this_s, ia G 313 f_this_s)] [(0, .ref h_this), (1, .int p0), (2, .int v2), (3, .int v3)]) (v2 : Int32) (v3 : Int32) (v4 : Int32) (y_this_firstFit : Int32) (g_this_offThen : Nat → Int32) (g_this_paidThen : Nat → Int32), f_X9_fitting_b94 rec9 v2 v3 v4 y_this_firstFit g_this_offThen g_this_paidThen = some (r, m_this_firstFit, m_this_offThen, m_this_paidThen) → K 94 ([] : List Value) [(h_this, ob 9 [.ref h_this_s, .ref h_this_kept, .ref h_this_laid, .int x_this_isKept, .ref h_this_pile, .ref h_this_tape, .int x_this_taped, .ref h_this_letters, .int x_this_at, .int x_this_begun, .int x_this_token, .int x_this_value, .int x_this_opened, .int x_this_steps, .ref h_this_code0, .ref h_this_read, .ref h_this_saved, .ref h_this_plan, .ref h_this_bestPlan, .int x_this_most, .int x_this_many, .int x_this_few, .int x_this_everHome, .ref h_this_offThen, .ref h_this_paidThen, .int y_this_firstFit, .ref h_this_rows, .int x_this_rowMany, .ref h_this_sorts, .ref h_this_sizes, .ref h_this_number, .ref h_this_holds, .ref h_this_heldOne, .ref h_this_trace, .int x_this_traced, .int x_this_own, .int x_this_isParted]), (h_this_offThen, ia G 16 g_this_offThen), (h_this_paidThen, ia G 16 g_this_paidThen), (h_this_s, ia G 313 f_this_s)] [(0, .ref h_this), (1, .int p0), (2, .int v2), (3, .int v3), (4, .int v4)] := by
    intro rec9 hrec9 v2 v3 v4 y_this_firstFit g_this_offThen g_this_paidThen hf
    unfold f_X9_fitting_b94 at hf
    refine hK1 _ _ _ _ (fun H locs ls h hl => ?_)
    refine lv_iload_n hx hb dX9_fitting_94 rfl (lv_at hl 2 rfl) ?_
    refine lv_iload hx hb dX9_fitting_95 (lv_at hl 4 rfl) ?_
    refine lv_if_eq (tgt := 104) hx hb dX9_fitting_97 rfl (fun c6 => ?_) (fun c6 => ?_)
    · replace hf := ifp c6 hf
      refine lv_iconst (v := (0 : Int32)) hx hb dX9_fitting_104 rfl ?_
      exact hK2 _ _ _ _ (B105 _ hrec9 v3 v4 v2 (0 : Int32) y_this_firstFit g_this_offThen g_this_paidThen hf) _ _ _ h (lv_sub hl [0, 1, 3, 4] rfl)
    · replace hf := ifn c6 hf
      refine lv_iconst (v := (1 : Int32)) hx hb dX9_fitting_100 rfl ?_
      refine lv_goto (tgt := 105) hx hb dX9_fitting_101 rfl ?_
      exact hK2 _ _ _ _ (B105 _ hrec9 v3 v4 v2 (1 : Int32) y_this_firstFit g_this_offThen g_this_paidThen hf) _ _ _ h (lv_sub hl [0, 1, 3, 4] rfl)
  have L49 : ∀ (rec9 : Int32 → Int32 → Int32 → (Nat → Int32) → (Nat → Int32) → Option (Int32 × Int32 × (Nat → Int32) × (Nat → Int32))) (hrec9 : ∀ (v2 : Int32) (v3 : Int32) (y_this_firstFit : Int32) (g_this_offThen : Nat → Int32) (g_this_paidThen : Nat → Int32), rec9 v2 v3 y_this_firstFit g_this_offThen g_this_paidThen = some (r, m_this_firstFit, m_this_offThen, m_this_paidThen) → K 9 ([] : List Value) [(h_this, ob 9 [.ref h_this_s, .ref h_this_kept, .ref h_this_laid, .int x_this_isKept, .ref h_this_pile, .ref h_this_tape, .int x_this_taped, .ref h_this_letters, .int x_this_at, .int x_this_begun, .int x_this_token, .int x_this_value, .int x_this_opened, .int x_this_steps, .ref h_this_code0, .ref h_this_read, .ref h_this_saved, .ref h_this_plan, .ref h_this_bestPlan, .int x_this_most, .int x_this_many, .int x_this_few, .int x_this_everHome, .ref h_this_offThen, .ref h_this_paidThen, .int y_this_firstFit, .ref h_this_rows, .int x_this_rowMany, .ref h_this_sorts, .ref h_this_sizes, .ref h_this_number, .ref h_this_holds, .ref h_this_heldOne, .ref h_this_trace, .int x_this_traced, .int x_this_own, .int x_this_isParted]), (h_this_offThen, ia G 16 g_this_offThen), (h_this_paidThen, ia G 16 g_this_paidThen), (h_this_s, ia G 313 f_this_s)] [(0, .ref h_this), (1, .int p0), (2, .int v2), (3, .int v3)]) (n : Nat) (v2 : Int32) (v3 : Int32) (v4 : Int32) (v5 : Int32) (y_this_firstFit : Int32) (g_this_offThen : Nat → Int32) (g_this_paidThen : Nat → Int32), f_X9_fitting_L49 rec9 p0 f_this_s n v2 v3 v4 v5 y_this_firstFit g_this_offThen g_this_paidThen = some (r, m_this_firstFit, m_this_offThen, m_this_paidThen) → K 49 ([] : List Value) [(h_this, ob 9 [.ref h_this_s, .ref h_this_kept, .ref h_this_laid, .int x_this_isKept, .ref h_this_pile, .ref h_this_tape, .int x_this_taped, .ref h_this_letters, .int x_this_at, .int x_this_begun, .int x_this_token, .int x_this_value, .int x_this_opened, .int x_this_steps, .ref h_this_code0, .ref h_this_read, .ref h_this_saved, .ref h_this_plan, .ref h_this_bestPlan, .int x_this_most, .int x_this_many, .int x_this_few, .int x_this_everHome, .ref h_this_offThen, .ref h_this_paidThen, .int y_this_firstFit, .ref h_this_rows, .int x_this_rowMany, .ref h_this_sorts, .ref h_this_sizes, .ref h_this_number, .ref h_this_holds, .ref h_this_heldOne, .ref h_this_trace, .int x_this_traced, .int x_this_own, .int x_this_isParted]), (h_this_offThen, ia G 16 g_this_offThen), (h_this_paidThen, ia G 16 g_this_paidThen), (h_this_s, ia G 313 f_this_s)] [(0, .ref h_this), (1, .int p0), (2, .int v2), (3, .int v3), (4, .int v4), (5, .int v5)] := by
    intro rec9 hrec9 n
    induction n with
    | zero =>
      intro v2 v3 v4 v5 y_this_firstFit g_this_offThen g_this_paidThen hf
      replace hf : (none : Option _) = some _ := hf
      cases hf
    | succ n ih =>
      intro v2 v3 v4 v5 y_this_firstFit g_this_offThen g_this_paidThen hf
      rw [f_X9_fitting_L49] at hf
      refine hK1 _ _ _ _ (fun H locs ls h hl => ?_)
      refine lv_iload hx hb dX9_fitting_49 (lv_at hl 5 rfl) ?_
      refine lv_aload_n hx hb dX9_fitting_51 rfl (lv_at hl 0 rfl) ?_
      refine r_get C h fk_X9_9 0 rfl rfl dX9_fitting_52 ?_
      refine lv_bipush (v := (6 : Int32)) hx hb dX9_fitting_55 rfl ?_
      refine r_ialdL C h 3 rfl (vlit rfl) 6 rfl dX9_fitting_57 ?_
      refine lv_icmp_ge (tgt := 94) hx hb dX9_fitting_58 rfl (fun c5 => ?_) (fun c5 => ?_)
      · replace hf := ifp c5 hf
        exact hK2 _ _ _ _ (B94 _ hrec9 v2 v3 v4 y_this_firstFit g_this_offThen g_this_paidThen hf) _ _ _ h (lv_sub hl [0, 1, 2, 3, 4] rfl)
      · replace hf := ifn c5 hf
        refine lv_iload hx hb dX9_fitting_61 (lv_at hl 4 rfl) ?_
        refine lv_if_eq (tgt := 94) hx hb dX9_fitting_63 rfl (fun c13 => ?_) (fun c13 => ?_)
        · replace hf := ifp c13 hf
          exact hK2 _ _ _ _ (B94 _ hrec9 v2 v3 v4 y_this_firstFit g_this_offThen g_this_paidThen hf) _ _ _ h (lv_sub hl [0, 1, 2, 3, 4] rfl)
        · replace hf := ifn c13 hf
          refine lv_iload hx hb dX9_fitting_66 (lv_at hl 5 rfl) ?_
          refine lv_iload_n hx hb dX9_fitting_68 rfl (lv_at hl 1 rfl) ?_
          refine lv_icmp_eq (tgt := 81) hx hb dX9_fitting_69 rfl (fun c14 => ?_) (fun c14 => ?_)
          · replace hf := ifp c14 hf
            refine lv_iconst (v := (1 : Int32)) hx hb dX9_fitting_81 rfl ?_
            refine lv_goto (tgt := 86) hx hb dX9_fitting_82 rfl ?_
            refine lv_istore (lv' := [(4, .int (1 : Int32)), (0, .ref h_this), (1, .int p0), (2, .int v2), (3, .int v3), (5, .int v5)]) hx hb dX9_fitting_86 hl (by decide) rfl (fun ls hl => ?_)
            obtain ⟨t15, et15⟩ : ∃ y : Int32, y = v5 + (1 : Int32) := ⟨_, rfl⟩
            replace hf := lt1_inv et15 hf
            refine lv_iinc (v := t15) (lv' := [(5, .int t15), (4, .int (1 : Int32)), (0, .ref h_this), (1, .int p0), (2, .int v2), (3, .int v3)]) hx hb dX9_fitting_88 hl (k := 5) rfl (by rw [et15]; rfl) (by decide) rfl (fun ls hl => ?_)
            refine lv_goto (tgt := 49) hx hb dX9_fitting_91 rfl ?_
            exact hK2 _ _ _ _ (ih v2 v3 (1 : Int32) t15 y_this_firstFit g_this_offThen g_this_paidThen hf) _ _ _ h (lv_sub hl [2, 3, 4, 5, 1, 0] rfl)
          · replace hf := ifn c14 hf
            refine lv_aload_n hx hb dX9_fitting_72 rfl (lv_at hl 0 rfl) ?_
            refine lv_iload hx hb dX9_fitting_73 (lv_at hl 5 rfl) ?_
            replace hf := bd1_inv hf
            obtain ⟨r16, hc17, hf⟩ := hf
            refine r_ciV0 C h (c_X9_isSo hc17) mv_X9_310 rfl 0 rfl [0, 1, 2, 3] rfl rfl hl.1 rfl (Nat.le_of_ble_eq_true rfl) (rok (by decide)) dX9_fitting_75 (fun H locs h => ?_)
            refine lv_if_eq (tgt := 85) hx hb dX9_fitting_78 rfl (fun c18 => ?_) (fun c18 => ?_)
            · replace hf := ifp c18 hf
              refine lv_iconst (v := (0 : Int32)) hx hb dX9_fitting_85 rfl ?_
              refine lv_istore (lv' := [(4, .int (0 : Int32)), (0, .ref h_this), (1, .int p0), (2, .int v2), (3, .int v3), (5, .int v5)]) hx hb dX9_fitting_86 hl (by decide) rfl (fun ls hl => ?_)
              obtain ⟨t19, et19⟩ : ∃ y : Int32, y = v5 + (1 : Int32) := ⟨_, rfl⟩
              replace hf := lt1_inv et19 hf
              refine lv_iinc (v := t19) (lv' := [(5, .int t19), (4, .int (0 : Int32)), (0, .ref h_this), (1, .int p0), (2, .int v2), (3, .int v3)]) hx hb dX9_fitting_88 hl (k := 5) rfl (by rw [et19]; rfl) (by decide) rfl (fun ls hl => ?_)
              refine lv_goto (tgt := 49) hx hb dX9_fitting_91 rfl ?_
              exact hK2 _ _ _ _ (ih v2 v3 (0 : Int32) t19 y_this_firstFit g_this_offThen g_this_paidThen hf) _ _ _ h (lv_sub hl [2, 3, 4, 5, 1, 0] rfl)
            · replace hf := ifn c18 hf
              refine lv_iconst (v := (1 : Int32)) hx hb dX9_fitting_81 rfl ?_
              refine lv_goto (tgt := 86) hx hb dX9_fitting_82 rfl ?_
              refine lv_istore (lv' := [(4, .int (1 : Int32)), (0, .ref h_this), (1, .int p0), (2, .int v2), (3, .int v3), (5, .int v5)]) hx hb dX9_fitting_86 hl (by decide) rfl (fun ls hl => ?_)
              obtain ⟨t20, et20⟩ : ∃ y : Int32, y = v5 + (1 : Int32) := ⟨_, rfl⟩
              replace hf := lt1_inv et20 hf
              refine lv_iinc (v := t20) (lv' := [(5, .int t20), (4, .int (1 : Int32)), (0, .ref h_this), (1, .int p0), (2, .int v2), (3, .int v3)]) hx hb dX9_fitting_88 hl (k := 5) rfl (by rw [et20]; rfl) (by decide) rfl (fun ls hl => ?_)
              refine lv_goto (tgt := 49) hx hb dX9_fitting_91 rfl ?_
              exact hK2 _ _ _ _ (ih v2 v3 (1 : Int32) t20 y_this_firstFit g_this_offThen g_this_paidThen hf) _ _ _ h (lv_sub hl [2, 3, 4, 5, 1, 0] rfl)
  have L9 : ∀ (n : Nat) (v2 : Int32) (v3 : Int32) (y_this_firstFit : Int32) (g_this_offThen : Nat → Int32) (g_this_paidThen : Nat → Int32), f_X9_fitting_L9 p0 f_this_s n v2 v3 y_this_firstFit g_this_offThen g_this_paidThen = some (r, m_this_firstFit, m_this_offThen, m_this_paidThen) → K 9 ([] : List Value) [(h_this, ob 9 [.ref h_this_s, .ref h_this_kept, .ref h_this_laid, .int x_this_isKept, .ref h_this_pile, .ref h_this_tape, .int x_this_taped, .ref h_this_letters, .int x_this_at, .int x_this_begun, .int x_this_token, .int x_this_value, .int x_this_opened, .int x_this_steps, .ref h_this_code0, .ref h_this_read, .ref h_this_saved, .ref h_this_plan, .ref h_this_bestPlan, .int x_this_most, .int x_this_many, .int x_this_few, .int x_this_everHome, .ref h_this_offThen, .ref h_this_paidThen, .int y_this_firstFit, .ref h_this_rows, .int x_this_rowMany, .ref h_this_sorts, .ref h_this_sizes, .ref h_this_number, .ref h_this_holds, .ref h_this_heldOne, .ref h_this_trace, .int x_this_traced, .int x_this_own, .int x_this_isParted]), (h_this_offThen, ia G 16 g_this_offThen), (h_this_paidThen, ia G 16 g_this_paidThen), (h_this_s, ia G 313 f_this_s)] [(0, .ref h_this), (1, .int p0), (2, .int v2), (3, .int v3)] := by
    intro n
    induction n with
    | zero =>
      intro v2 v3 y_this_firstFit g_this_offThen g_this_paidThen hf
      replace hf : (none : Option _) = some _ := hf
      cases hf
    | succ n ih =>
      intro v2 v3 y_this_firstFit g_this_offThen g_this_paidThen hf
      rw [f_X9_fitting_L9] at hf
      refine hK1 _ _ _ _ (fun H locs ls h hl => ?_)
      refine lv_iload_n hx hb dX9_fitting_9 rfl (lv_at hl 3 rfl) ?_
      refine lv_sipush (v := (500 : Int32)) hx hb dX9_fitting_10 rfl ?_
      refine lv_icmp_ge (tgt := 137) hx hb dX9_fitting_13 rfl (fun c1 => ?_) (fun c1 => ?_)
      · replace hf := ifp c1 hf
        refine lv_iload_n hx hb dX9_fitting_137 rfl (lv_at hl 2 rfl) ?_
        clear ih L49 B94 B105 hK2 hK1
        cases hf
        exact r_iret C h hr hlk rfl dX9_fitting_138
      · replace hf := ifn c1 hf
        refine lv_aload_n hx hb dX9_fitting_16 rfl (lv_at hl 0 rfl) ?_
        refine lv_iconst (v := (1 : Int32)) hx hb dX9_fitting_17 rfl ?_
        refine lv_iload_n hx hb dX9_fitting_18 rfl (lv_at hl 3 rfl) ?_
        refine lv_bipush (v := (100 : Int32)) hx hb dX9_fitting_19 rfl ?_
        refine lv_idiv hx hb dX9_fitting_21 (by decide) ?_
        refine lv_iadd hx hb dX9_fitting_22 ?_
        refine lv_iload_n hx hb dX9_fitting_23 rfl (lv_at hl 3 rfl) ?_
        refine lv_bipush (v := (10 : Int32)) hx hb dX9_fitting_24 rfl ?_
        refine lv_idiv hx hb dX9_fitting_26 (by decide) ?_
        refine lv_bipush (v := (10 : Int32)) hx hb dX9_fitting_27 rfl ?_
        refine lv_irem hx hb dX9_fitting_29 (by decide) ?_
        refine lv_bipush (v := (9 : Int32)) hx hb dX9_fitting_30 rfl ?_
        refine lv_iload_n hx hb dX9_fitting_32 rfl (lv_at hl 3 rfl) ?_
        refine lv_bipush (v := (10 : Int32)) hx hb dX9_fitting_33 rfl ?_
        refine lv_irem hx hb dX9_fitting_35 (by decide) ?_
        refine lv_imul hx hb dX9_fitting_36 ?_
        refine lv_bipush (v := (9 : Int32)) hx hb dX9_fitting_37 rfl ?_
        refine lv_iadd hx hb dX9_fitting_39 ?_
        replace hf := bd2_inv hf
        obtain ⟨g2, g3, hc4, hf⟩ := hf
        refine r_cvV (ws' := [(h_this, ob 9 [.ref h_this_s, .ref h_this_kept, .ref h_this_laid, .int x_this_isKept, .ref h_this_pile, .ref h_this_tape, .int x_this_taped, .ref h_this_letters, .int x_this_at, .int x_this_begun, .int x_this_token, .int x_this_value, .int x_this_opened, .int x_this_steps, .ref h_this_code0, .ref h_this_read, .ref h_this_saved, .ref h_this_plan, .ref h_this_bestPlan, .int x_this_most, .int x_this_many, .int x_this_few, .int x_this_everHome, .ref h_this_offThen, .ref h_this_paidThen, .int y_this_firstFit, .ref h_this_rows, .int x_this_rowMany, .ref h_this_sorts, .ref h_this_sizes, .ref h_this_number, .ref h_this_holds, .ref h_this_heldOne, .ref h_this_trace, .int x_this_traced, .int x_this_own, .int x_this_isParted]), (h_this_offThen, ia G 16 g2), (h_this_paidThen, ia G 16 g3), (h_this_s, ia G 313 f_this_s)]) C h (c_X9_tellsLone hc4) mv_X9_307 rfl 0 rfl [0, 1, 2, 3] rfl rfl [1, 2] [(h_this_offThen, ia G 16 g2), (h_this_paidThen, ia G 16 g3)] rfl rfl (by decide +kernel) rfl hl.1 rfl (Nat.le_of_ble_eq_true rfl) (rok (by decide)) dX9_fitting_40 (fun H locs h => ?_)
        refine lv_iconst (v := (1 : Int32)) hx hb dX9_fitting_43 rfl ?_
        refine lv_istore (lv' := [(4, .int (1 : Int32)), (0, .ref h_this), (1, .int p0), (2, .int v2), (3, .int v3)]) hx hb dX9_fitting_44 hl (by decide) rfl (fun ls hl => ?_)
        refine lv_iconst (v := (0 : Int32)) hx hb dX9_fitting_46 rfl ?_
        refine lv_istore (lv' := [(5, .int (0 : Int32)), (4, .int (1 : Int32)), (0, .ref h_this), (1, .int p0), (2, .int v2), (3, .int v3)]) hx hb dX9_fitting_47 hl (by decide) rfl (fun ls hl => ?_)
        exact hK2 _ _ _ _ (L49 _ ih 1000 v2 v3 (1 : Int32) (0 : Int32) y_this_firstFit g2 g3 hf) _ _ _ h (lv_sub hl [2, 3, 4, 5, 1, 0] rfl)
  refine lv_iconst (v := (0 : Int32)) hx hb dX9_fitting_0 rfl ?_
  refine lv_istore_n (lv' := [(2, .int (0 : Int32)), (0, .ref h_this), (1, .int p0)]) hx hb dX9_fitting_1 rfl hl (by decide) rfl (fun ls hl => ?_)
  refine lv_aload_n hx hb dX9_fitting_2 rfl (lv_at hl 1 rfl) ?_
  refine lv_iconst (v := (-1 : Int32)) hx hb dX9_fitting_3 rfl ?_
  refine r_put (ws' := [(h_this, ob 9 [.ref h_this_s, .ref h_this_kept, .ref h_this_laid, .int x_this_isKept, .ref h_this_pile, .ref h_this_tape, .int x_this_taped, .ref h_this_letters, .int x_this_at, .int x_this_begun, .int x_this_token, .int x_this_value, .int x_this_opened, .int x_this_steps, .ref h_this_code0, .ref h_this_read, .ref h_this_saved, .ref h_this_plan, .ref h_this_bestPlan, .int x_this_most, .int x_this_many, .int x_this_few, .int x_this_everHome, .ref h_this_offThen, .ref h_this_paidThen, .int (-1 : Int32), .ref h_this_rows, .int x_this_rowMany, .ref h_this_sorts, .ref h_this_sizes, .ref h_this_number, .ref h_this_holds, .ref h_this_heldOne, .ref h_this_trace, .int x_this_traced, .int x_this_own, .int x_this_isParted]), (h_this_offThen, ia G 16 f_this_offThen), (h_this_paidThen, ia G 16 f_this_paidThen), (h_this_s, ia G 313 f_this_s)]) C h fw_X9_304 0 rfl rfl rfl (Nat.le_of_ble_eq_true rfl) dX9_fitting_4 rfl (fun H locs h => ?_)
  refine lv_iconst (v := (0 : Int32)) hx hb dX9_fitting_7 rfl ?_
  refine lv_istore_n (lv' := [(3, .int (0 : Int32)), (2, .int (0 : Int32)), (0, .ref h_this), (1, .int p0)]) hx hb dX9_fitting_8 rfl hl (by decide) rfl (fun ls hl => ?_)
  exact hK2 _ _ _ _ (L9 1000 (0 : Int32) (0 : Int32) (-1 : Int32) f_this_offThen f_this_paidThen hf) _ _ _ h (lv_sub hl [2, 3, 1, 0] rfl)
