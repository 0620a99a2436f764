def f_X9_saves_L2 (p0 : Int32) (f_this_s : Nat → Int32) : Nat → Int32 → (Nat → Int32) → Option ((Nat → Int32))
  | 0, _, _ => none
  | n + 1, v2, g_this_saved => (if (65 : Int32) ≤ v2 then some g_this_saved else chkI v2 313 (lt1 (f_this_s v2.toNatClampNeg) (fun (t3 : Int32) => chkI (((65 : Int32) * p0) + v2) 325 (lt1 (v2 + (1 : Int32)) (fun (t5 : Int32) => (f_X9_saves_L2 p0 f_this_s n) t5 (upd g_this_saved (((65 : Int32) * p0) + v2).toNatClampNeg t3))))))
def f_X9_saves (p0 : Int32) (f_this_s : Nat → Int32) (f_this_saved : Nat → Int32) : Option ((Nat → Int32)) := f_X9_saves_L2 p0 f_this_s 1000 (0 : Int32) f_this_saved
set_option maxRecDepth 100000 in
set_option maxHeartbeats 4000000 in
theorem c_X9_saves {l : Launch} {G : Gt} {h_this h_this_s h_this_kept h_this_laid h_this_pile h_this_tape h_this_letters h_this_code0 h_this_read h_this_saved h_this_plan h_this_bestPlan h_this_offThen h_this_paidThen h_this_rows h_this_sorts h_this_sizes h_this_number h_this_holds h_this_heldOne h_this_trace : Nat} {p0 : Int32} {x_this_isKept : Int32} {x_this_taped : Int32} {x_this_at : Int32} {x_this_begun : Int32} {x_this_token : Int32} {x_this_value : Int32} {x_this_opened : Int32} {x_this_steps : Int32} {x_this_most : Int32} {x_this_many : Int32} {x_this_few : Int32} {x_this_everHome : Int32} {x_this_firstFit : Int32} {x_this_rowMany : Int32} {x_this_traced : Int32} {x_this_own : Int32} {x_this_isParted : Int32} {f_this_s : Nat → Int32} {f_this_saved : Nat → Int32} {m_this_saved : Nat → Int32} (hf : f_X9_saves p0 f_this_s f_this_saved = some m_this_saved) : mFv l G yX9_saves cX9_saves 3 0 [.ref h_this, .int p0] [(h_this, ob 9 [.ref h_this_s, .ref h_this_kept, .ref h_this_laid, .int x_this_isKept, .ref h_this_pile, .ref h_this_tape, .int x_this_taped, .ref h_this_letters, .int x_this_at, .int x_this_begun, .int x_this_token, .int x_this_value, .int x_this_opened, .int x_this_steps, .ref h_this_code0, .ref h_this_read, .ref h_this_saved, .ref h_this_plan, .ref h_this_bestPlan, .int x_this_most, .int x_this_many, .int x_this_few, .int x_this_everHome, .ref h_this_offThen, .ref h_this_paidThen, .int x_this_firstFit, .ref h_this_rows, .int x_this_rowMany, .ref h_this_sorts, .ref h_this_sizes, .ref h_this_number, .ref h_this_holds, .ref h_this_heldOne, .ref h_this_trace, .int x_this_traced, .int x_this_own, .int x_this_isParted]), (h_this_s, ia G 313 f_this_s), (h_this_saved, ia G 325 f_this_saved)] [(h_this, ob 9 [.ref h_this_s, .ref h_this_kept, .ref h_this_laid, .int x_this_isKept, .ref h_this_pile, .ref h_this_tape, .int x_this_taped, .ref h_this_letters, .int x_this_at, .int x_this_begun, .int x_this_token, .int x_this_value, .int x_this_opened, .int x_this_steps, .ref h_this_code0, .ref h_this_read, .ref h_this_saved, .ref h_this_plan, .ref h_this_bestPlan, .int x_this_most, .int x_this_many, .int x_this_few, .int x_this_everHome, .ref h_this_offThen, .ref h_this_paidThen, .int x_this_firstFit, .ref h_this_rows, .int x_this_rowMany, .ref h_this_sorts, .ref h_this_sizes, .ref h_this_number, .ref h_this_holds, .ref h_this_heldOne, .ref h_this_trace, .int x_this_traced, .int x_this_own, .int x_this_isParted]), (h_this_s, ia G 313 f_this_s), (h_this_saved, ia G 325 m_this_saved)] := by
  refine mFv.of (by decide +kernel) (Nat.le_of_ble_eq_true rfl) ?_
  intro p e s m below meth c A C hr hlk h ls hl
  obtain ⟨hx, hb, hml, hown, hts⟩ := id C
  replace hl : lv_has ls 3 [(0, .ref h_this), (1, .int p0)] := hl
  unfold f_X9_saves at hf
  refine with_K G A 3 (fun K hK1 hK2 => ?_)
  have L2 : ∀ (n : Nat) (v2 : Int32) (g_this_saved : Nat → Int32), f_X9_saves_L2 p0 f_this_s n v2 g_this_saved = some m_this_saved → K 2 ([] : List Value) [(h_this, ob 9 [.ref h_this_s, .ref h_this_kept, .ref h_this_laid, .int x_this_isKept, .ref h_this_pile, .ref h_this_tape, .int x_this_taped, .ref h_this_letters, .int x_this_at, .int x_this_begun, .int x_this_token, .int x_this_value, .int x_this_opened, .int x_this_steps, .ref h_this_code0, .ref h_this_read, .ref h_this_saved, .ref h_this_plan, .ref h_this_bestPlan, .int x_this_most, .int x_this_many, .int x_this_few, .int x_this_everHome, .ref h_this_offThen, .ref h_this_paidThen, .int x_this_firstFit, .ref h_this_rows, .int x_this_rowMany, .ref h_this_sorts, .ref h_this_sizes, .ref h_this_number, .ref h_this_holds, .ref h_this_heldOne, .ref h_this_trace, .int x_this_traced, .int x_this_own, .int x_this_isParted]), (h_this_s, ia G 313 f_this_s), (h_this_saved, ia G 325 g_this_saved)] [(0, .ref h_this), (1, .int p0), (2, .int v2)] := by
    intro n
    induction n with
    | zero =>
      intro v2 g_this_saved hf
      replace hf : (none : Option _) = some _ := hf
      cases hf
    | succ n ih =>
      intro v2 g_this_saved hf
      rw [f_X9_saves_L2] at hf
      refine hK1 _ _ _ _ (fun H locs ls h hl => ?_)
      refine lv_iload_n hx hb dX9_saves_2 rfl (lv_at hl 2 rfl) ?_
      refine lv_bipush (v := (65 : Int32)) hx hb dX9_saves_3 rfl ?_
      refine lv_icmp_ge (tgt := 31) hx hb dX9_saves_5 rfl (fun c1 => ?_) (fun c1 => ?_)
      · replace hf := ifp c1 hf
        cases hf
        exact r_vret C h hr hlk dX9_saves_31
      · replace hf := ifn c1 hf
        refine lv_aload_n hx hb dX9_saves_8 rfl (lv_at hl 0 rfl) ?_
        refine r_get C h fk_X9_35 0 rfl rfl dX9_saves_9 ?_
        refine lv_bipush (v := (65 : Int32)) hx hb dX9_saves_12 rfl ?_
        refine lv_iload_n hx hb dX9_saves_14 rfl (lv_at hl 1 rfl) ?_
        refine lv_imul hx hb dX9_saves_15 ?_
        refine lv_iload_n hx hb dX9_saves_16 rfl (lv_at hl 2 rfl) ?_
        refine lv_iadd hx hb dX9_saves_17 ?_
        refine lv_aload_n hx hb dX9_saves_18 rfl (lv_at hl 0 rfl) ?_
        refine r_get C h fk_X9_9 0 rfl rfl dX9_saves_19 ?_
        refine lv_iload_n hx hb dX9_saves_22 rfl (lv_at hl 2 rfl) ?_
        replace hf := chkI_inv hf
        obtain ⟨hi2, hf⟩ := hf
        refine r_iald C h 1 rfl hi2 dX9_saves_23 ?_
        refine lv_topi (fun t3 et3 => ?_)
        replace hf := lt1_inv et3 hf
        replace hf := chkI_inv hf
        obtain ⟨hi4, hf⟩ := hf
        refine r_iast (ws' := [(h_this, ob 9 [.ref h_this_s, .ref h_this_kept, .ref h_this_laid, .int x_this_isKept, .ref h_this_pile, .ref h_this_tape, .int x_this_taped, .ref h_this_letters, .int x_this_at, .int x_this_begun, .int x_this_token, .int x_this_value, .int x_this_opened, .int x_this_steps, .ref h_this_code0, .ref h_this_read, .ref h_this_saved, .ref h_this_plan, .ref h_this_bestPlan, .int x_this_most, .int x_this_many, .int x_this_few, .int x_this_everHome, .ref h_this_offThen, .ref h_this_paidThen, .int x_this_firstFit, .ref h_this_rows, .int x_this_rowMany, .ref h_this_sorts, .ref h_this_sizes, .ref h_this_number, .ref h_this_holds, .ref h_this_heldOne, .ref h_this_trace, .int x_this_traced, .int x_this_own, .int x_this_isParted]), (h_this_s, ia G 313 f_this_s), (h_this_saved, ia G 325 (upd g_this_saved (((65 : Int32) * p0) + v2).toNatClampNeg t3))]) C h 2 rfl hi4 dX9_saves_24 rfl (fun H locs h => ?_)
        obtain ⟨t5, et5⟩ : ∃ y : Int32, y = v2 + (1 : Int32) := ⟨_, rfl⟩
        replace hf := lt1_inv et5 hf
        refine lv_iinc (v := t5) (lv' := [(2, .int t5), (0, .ref h_this), (1, .int p0)]) hx hb dX9_saves_25 hl (k := 2) rfl (by rw [et5]; rfl) (by decide) rfl (fun ls hl => ?_)
        refine lv_goto (tgt := 2) hx hb dX9_saves_28 rfl ?_
        exact hK2 _ _ _ _ (ih t5 (upd g_this_saved (((65 : Int32) * p0) + v2).toNatClampNeg t3) hf) _ _ _ h (lv_sub hl [1, 2, 0] rfl)
  refine lv_iconst (v := (0 : Int32)) hx hb dX9_saves_0 rfl ?_
  refine lv_istore_n (lv' := [(2, .int (0 : Int32)), (0, .ref h_this), (1, .int p0)]) hx hb dX9_saves_1 rfl hl (by decide) rfl (fun ls hl => ?_)
  exact hK2 _ _ _ _ (L2 1000 (0 : Int32) f_this_saved hf) _ _ _ h (lv_sub hl [1, 2, 0] rfl)
def f_X9_restores_L2 (p0 : Int32) (f_this_saved : Nat → Int32) : Nat → Int32 → (Nat → Int32) → Option ((Nat → Int32))
  | 0, _, _ => none
  | n + 1, v2, g_this_s => (if (65 : Int32) ≤ v2 then some g_this_s else chkI (((65 : Int32) * p0) + v2) 325 (lt1 (f_this_saved (((65 : Int32) * p0) + v2).toNatClampNeg) (fun (t3 : Int32) => chkI v2 313 (lt1 (v2 + (1 : Int32)) (fun (t5 : Int32) => (f_X9_restores_L2 p0 f_this_saved n) t5 (upd g_this_s v2.toNatClampNeg t3))))))
def f_X9_restores (p0 : Int32) (f_this_s : Nat → Int32) (f_this_saved : Nat → Int32) : Option ((Nat → Int32)) := f_X9_restores_L2 p0 f_this_saved 1000 (0 : Int32) f_this_s
set_option maxRecDepth 100000 in
set_option maxHeartbeats 4000000 in
theorem c_X9_restores {l : Launch} {G : Gt} {h_this h_this_s h_this_kept h_this_laid h_this_pile h_this_tape h_this_letters h_this_code0 h_this_read h_this_saved h_this_plan h_this_bestPlan h_this_offThen h_this_paidThen h_this_rows h_this_sorts h_this_sizes h_this_number h_this_holds h_this_heldOne h_this_trace : Nat} {p0 : Int32} {x_this_isKept : Int32} {x_this_taped : Int32} {x_this_at : Int32} {x_this_begun : Int32} {x_this_token : Int32} {x_this_value : Int32} {x_this_opened : Int32} {x_this_steps : Int32} {x_this_most : Int32} {x_this_many : Int32} {x_this_few : Int32} {x_this_everHome : Int32} {x_this_firstFit : Int32} {x_this_rowMany : Int32} {x_this_traced : Int32} {x_this_own : Int32} {x_this_isParted : Int32} {f_this_s : Nat → Int32} {f_this_saved : Nat → Int32} {m_this_s : Nat → Int32} (hf : f_X9_restores p0 f_this_s f_this_saved = some m_this_s) : mFv l G yX9_restores cX9_restores 3 0 [.ref h_this, .int p0] [(h_this, ob 9 [.ref h_this_s, .ref h_this_kept, .ref h_this_laid, .int x_this_isKept, .ref h_this_pile, .ref h_this_tape, .int x_this_taped, .ref h_this_letters, .int x_this_at, .int x_this_begun, .int x_this_token, .int x_this_value, .int x_this_opened, .int x_this_steps, .ref h_this_code0, .ref h_this_read, .ref h_this_saved, .ref h_this_plan, .ref h_this_bestPlan, .int x_this_most, .int x_this_many, .int x_this_few, .int x_this_everHome, .ref h_this_offThen, .ref h_this_paidThen, .int x_this_firstFit, .ref h_this_rows, .int x_this_rowMany, .ref h_this_sorts, .ref h_this_sizes, .ref h_this_number, .ref h_this_holds, .ref h_this_heldOne, .ref h_this_trace, .int x_this_traced, .int x_this_own, .int x_this_isParted]), (h_this_s, ia G 313 f_this_s), (h_this_saved, ia G 325 f_this_saved)] [(h_this, ob 9 [.ref h_this_s, .ref h_this_kept, .ref h_this_laid, .int x_this_isKept, .ref h_this_pile, .ref h_this_tape, .int x_this_taped, .ref h_this_letters, .int x_this_at, .int x_this_begun, .int x_this_token, .int x_this_value, .int x_this_opened, .int x_this_steps, .ref h_this_code0, .ref h_this_read, .ref h_this_saved, .ref h_this_plan, .ref h_this_bestPlan, .int x_this_most, .int x_this_many, .int x_this_few, .int x_this_everHome, .ref h_this_offThen, .ref h_this_paidThen, .int x_this_firstFit, .ref h_this_rows, .int x_this_rowMany, .ref h_this_sorts, .ref h_this_sizes, .ref h_this_number, .ref h_this_holds, .ref h_this_heldOne, .ref h_this_trace, .int x_this_traced, .int x_this_own, .int x_this_isParted]), (h_this_s, ia G 313 m_this_s), (h_this_saved, ia G 325 f_this_saved)] := by
  refine mFv.of (by decide +kernel) (Nat.le_of_ble_eq_true rfl) ?_
  intro p e s m below meth c A C hr hlk h ls hl
  obtain ⟨hx, hb, hml, hown, hts⟩ := id C
  replace hl : lv_has ls 3 [(0, .ref h_this), (1, .int p0)] := hl
  unfold f_X9_restores at hf
  refine with_K G A 3 (fun K hK1 hK2 => ?_)
  have L2 : ∀ (n : Nat) (v2 : Int32) (g_this_s : Nat → Int32), f_X9_restores_L2 p0 f_this_saved n v2 g_this_s = some m_this_s → K 2 ([] : List Value) [(h_this, ob 9 [.ref h_this_s, .ref h_this_kept, .ref h_this_laid, .int x_this_isKept, .ref h_this_pile, .ref h_this_tape, .int x_this_taped, .ref h_this_letters, .int x_this_at, .int x_this_begun, .int x_this_token, .int x_this_value, .int x_this_opened, .int x_this_steps, .ref h_this_code0, .ref h_this_read, .ref h_this_saved, .ref h_this_plan, .ref h_this_bestPlan, .int x_this_most, .int x_this_many, .int x_this_few, .int x_this_everHome, .ref h_this_offThen, .ref h_this_paidThen, .int x_this_firstFit, .ref h_this_rows, .int x_this_rowMany, .ref h_this_sorts, .ref h_this_sizes, .ref h_this_number, .ref h_this_holds, .ref h_this_heldOne, .ref h_this_trace, .int x_this_traced, .int x_this_own, .int x_this_isParted]), (h_this_s, ia G 313 g_this_s), (h_this_saved, ia G 325 f_this_saved)] [(0, .ref h_this), (1, .int p0), (2, .int v2)] := by
    intro n
    induction n with
    | zero =>
      intro v2 g_this_s hf
      replace hf : (none : Option _) = some _ := hf
      cases hf
    | succ n ih =>
      intro v2 g_this_s hf
      rw [f_X9_restores_L2] at hf
      refine hK1 _ _ _ _ (fun H locs ls h hl => ?_)
      refine lv_iload_n hx hb dX9_restores_2 rfl (lv_at hl 2 rfl) ?_
      refine lv_bipush (v := (65 : Int32)) hx hb dX9_restores_3 rfl ?_
      refine lv_icmp_ge (tgt := 31) hx hb dX9_restores_5 rfl (fun c1 => ?_) (fun c1 => ?_)
      · replace hf := ifp c1 hf
        cases hf
        exact r_vret C h hr hlk dX9_restores_31
      · replace hf := ifn c1 hf
        refine lv_aload_n hx hb dX9_restores_8 rfl (lv_at hl 0 rfl) ?_
        refine r_get C h fk_X9_9 0 rfl rfl dX9_restores_9 ?_
        refine lv_iload_n hx hb dX9_restores_12 rfl (lv_at hl 2 rfl) ?_
        refine lv_aload_n hx hb dX9_restores_13 rfl (lv_at hl 0 rfl) ?_
        refine r_get C h fk_X9_35 0 rfl rfl dX9_restores_14 ?_
        refine lv_bipush (v := (65 : Int32)) hx hb dX9_restores_17 rfl ?_
        refine lv_iload_n hx hb dX9_restores_19 rfl (lv_at hl 1 rfl) ?_
        refine lv_imul hx hb dX9_restores_20 ?_
        refine lv_iload_n hx hb dX9_restores_21 rfl (lv_at hl 2 rfl) ?_
        refine lv_iadd hx hb dX9_restores_22 ?_
        replace hf := chkI_inv hf
        obtain ⟨hi2, hf⟩ := hf
        refine r_iald C h 2 rfl hi2 dX9_restores_23 ?_
        refine lv_topi (fun t3 et3 => ?_)
        replace hf := lt1_inv et3 hf
        replace hf := chkI_inv hf
        obtain ⟨hi4, hf⟩ := hf
        refine r_iast (ws' := [(h_this, ob 9 [.ref h_this_s, .ref h_this_kept, .ref h_this_laid, .int x_this_isKept, .ref h_this_pile, .ref h_this_tape, .int x_this_taped, .ref h_this_letters, .int x_this_at, .int x_this_begun, .int x_this_token, .int x_this_value, .int x_this_opened, .int x_this_steps, .ref h_this_code0, .ref h_this_read, .ref h_this_saved, .ref h_this_plan, .ref h_this_bestPlan, .int x_this_most, .int x_this_many, .int x_this_few, .int x_this_everHome, .ref h_this_offThen, .ref h_this_paidThen, .int x_this_firstFit, .ref h_this_rows, .int x_this_rowMany, .ref h_this_sorts, .ref h_this_sizes, .ref h_this_number, .ref h_this_holds, .ref h_this_heldOne, .ref h_this_trace, .int x_this_traced, .int x_this_own, .int x_this_isParted]), (h_this_s, ia G 313 (upd g_this_s v2.toNatClampNeg t3)), (h_this_saved, ia G 325 f_this_saved)]) C h 1 rfl hi4 dX9_restores_24 rfl (fun H locs h => ?_)
        obtain ⟨t5, et5⟩ : ∃ y : Int32, y = v2 + (1 : Int32) := ⟨_, rfl⟩
        replace hf := lt1_inv et5 hf
        refine lv_iinc (v := t5) (lv' := [(2, .int t5), (0, .ref h_this), (1, .int p0)]) hx hb dX9_restores_25 hl (k := 2) rfl (by rw [et5]; rfl) (by decide) rfl (fun ls hl => ?_)
        refine lv_goto (tgt := 2) hx hb dX9_restores_28 rfl ?_
        exact hK2 _ _ _ _ (ih t5 (upd g_this_s v2.toNatClampNeg t3) hf) _ _ _ h (lv_sub hl [1, 2, 0] rfl)
  refine lv_iconst (v := (0 : Int32)) hx hb dX9_restores_0 rfl ?_
  refine lv_istore_n (lv' := [(2, .int (0 : Int32)), (0, .ref h_this), (1, .int p0)]) hx hb dX9_restores_1 rfl hl (by decide) rfl (fun ls hl => ?_)
  exact hK2 _ _ _ _ (L2 1000 (0 : Int32) f_this_s hf) _ _ _ h (lv_sub hl [1, 2, 0] rfl)
def f_X9_goesPlans_L24 (self : Int32 → Int32 → Int32 → Int32 → Int32 → Int32 → Int32 → Int32 → Int32 → (Nat → Int32) → (Nat → Int32) → (Nat → Int32) → (Nat → Int32) → (Nat → Int32) → Option (Int32 × Int32 × Int32 × Int32 × (Nat → Int32) × (Nat → Int32) × (Nat → Int32) × (Nat → Int32) × (Nat → Int32))) (p0 : Int32) (p1 : Int32) (p2 : Int32) (p3 : Int32) (p4 : Int32) : Nat → Int32 → Int32 → Int32 → Int32 → Int32 → (Nat → Int32) → (Nat → Int32) → (Nat → Int32) → (Nat → Int32) → (Nat → Int32) → Option (Int32 × Int32 × Int32 × Int32 × (Nat → Int32) × (Nat → Int32) × (Nat → Int32) × (Nat → Int32) × (Nat → Int32))
  | 0, _, _, _, _, _, _, _, _, _, _ => none
  | n + 1, v6, y_this_most, y_this_many, y_this_few, y_this_everHome, g_this_bestPlan, g_this_pile, g_this_plan, g_this_s, g_this_saved => (if (g_this_s 4) < v6 then some (y_this_most, y_this_many, y_this_few, y_this_everHome, g_this_bestPlan, g_this_pile, g_this_plan, g_this_s, g_this_saved) else chkI p0 4 (bd3 (f_X9_goesBy v6 g_this_pile g_this_s) (fun r6 g7 g8 => (if v6 ≤ 0 then bd9 (self (p0 + (1 : Int32)) p1 (p2 + r6) p3 p4 y_this_most y_this_many y_this_few y_this_everHome g_this_bestPlan g7 (upd g_this_plan p0.toNatClampNeg v6) g8 g_this_saved) (fun y11 y12 y13 y14 g15 g16 g17 g18 g19 => bd1 (f_X9_restores p0 g18 g19) (fun g21 => lt1 (v6 + (1 : Int32)) (fun (t23 : Int32) => (f_X9_goesPlans_L24 self p0 p1 p2 p3 p4 n) t23 y11 y12 y13 y14 g15 g16 g17 g21 g19))) else bd9 (self (p0 + (1 : Int32)) p1 (p2 + r6) (p3 + (1 : Int32)) p4 y_this_most y_this_many y_this_few y_this_everHome g_this_bestPlan g7 (upd g_this_plan p0.toNatClampNeg v6) g8 g_this_saved) (fun y24 y25 y26 y27 g28 g29 g30 g31 g32 => bd1 (f_X9_restores p0 g31 g32) (fun g34 => lt1 (v6 + (1 : Int32)) (fun (t36 : Int32) => (f_X9_goesPlans_L24 self p0 p1 p2 p3 p4 n) t36 y24 y25 y26 y27 g28 g29 g30 g34 g32)))))))
def f_X9_goesPlans (self : Int32 → Int32 → Int32 → Int32 → Int32 → Int32 → Int32 → Int32 → Int32 → (Nat → Int32) → (Nat → Int32) → (Nat → Int32) → (Nat → Int32) → (Nat → Int32) → Option (Int32 × Int32 × Int32 × Int32 × (Nat → Int32) × (Nat → Int32) × (Nat → Int32) × (Nat → Int32) × (Nat → Int32))) (p0 : Int32) (p1 : Int32) (p2 : Int32) (p3 : Int32) (p4 : Int32) (x_this_most : Int32) (x_this_many : Int32) (x_this_few : Int32) (x_this_everHome : Int32) (f_this_bestPlan : Nat → Int32) (f_this_pile : Nat → Int32) (f_this_plan : Nat → Int32) (f_this_s : Nat → Int32) (f_this_saved : Nat → Int32) : Option (Int32 × Int32 × Int32 × Int32 × (Nat → Int32) × (Nat → Int32) × (Nat → Int32) × (Nat → Int32) × (Nat → Int32)) := (if p0 = p1 then bd5 (f_X9_endsPlan p1 p2 p3 p4 x_this_most x_this_many x_this_few x_this_everHome f_this_bestPlan f_this_plan f_this_s) (fun y37 y38 y39 y40 g41 => some (y37, y38, y39, y40, g41, f_this_pile, f_this_plan, f_this_s, f_this_saved)) else bd1 (f_X9_saves p0 f_this_s f_this_saved) (fun g2 => f_X9_goesPlans_L24 self p0 p1 p2 p3 p4 1000 (0 : Int32) x_this_most x_this_many x_this_few x_this_everHome f_this_bestPlan f_this_pile f_this_plan f_this_s g2))
set_option maxRecDepth 100000 in
set_option maxHeartbeats 4000000 in
theorem c_X9_goesPlans {l : Launch} {G : Gt} {self : Int32 → Int32 → Int32 → Int32 → Int32 → Int32 → Int32 → Int32 → Int32 → (Nat → Int32) → (Nat → Int32) → (Nat → Int32) → (Nat → Int32) → (Nat → Int32) → Option (Int32 × Int32 × Int32 × Int32 × (Nat → Int32) × (Nat → Int32) × (Nat → Int32) × (Nat → Int32) × (Nat → Int32))} {H0 : Nat} (hself : ∀ {h_this h_this_s h_this_kept h_this_laid h_this_pile h_this_tape h_this_letters h_this_code0 h_this_read h_this_saved h_this_plan h_this_bestPlan h_this_offThen h_this_paidThen h_this_rows h_this_sorts h_this_sizes h_this_number h_this_holds h_this_heldOne h_this_trace : Nat} {p0 : Int32} {p1 : Int32} {p2 : Int32} {p3 : Int32} {p4 : Int32} {x_this_isKept : Int32} {x_this_taped : Int32} {x_this_at : Int32} {x_this_begun : Int32} {x_this_token : Int32} {x_this_value : Int32} {x_this_opened : Int32} {x_this_steps : Int32} {x_this_most : Int32} {x_this_many : Int32} {x_this_few : Int32} {x_this_everHome : Int32} {x_this_firstFit : Int32} {x_this_rowMany : Int32} {x_this_traced : Int32} {x_this_own : Int32} {x_this_isParted : Int32} {f_this_bestPlan : Nat → Int32} {f_this_pile : Nat → Int32} {f_this_plan : Nat → Int32} {f_this_s : Nat → Int32} {f_this_saved : Nat → Int32} {m_this_most : Int32} {m_this_many : Int32} {m_this_few : Int32} {m_this_everHome : Int32} {m_this_bestPlan : Nat → Int32} {m_this_pile : Nat → Int32} {m_this_plan : Nat → Int32} {m_this_s : Nat → Int32} {m_this_saved : Nat → Int32} , self p0 p1 p2 p3 p4 x_this_most x_this_many x_this_few x_this_everHome f_this_bestPlan f_this_pile f_this_plan f_this_s f_this_saved = some (m_this_most, m_this_many, m_this_few, m_this_everHome, m_this_bestPlan, m_this_pile, m_this_plan, m_this_s, m_this_saved) → mFv l G yX9_goesPlans cX9_goesPlans 8 H0 [.ref h_this, .int p0, .int p1, .int p2, .int p3, .int p4] [(h_this, ob 9 [.ref h_this_s, .ref h_this_kept, .ref h_this_laid, .int x_this_isKept, .ref h_this_pile, .ref h_this_tape, .int x_this_taped, .ref h_this_letters, .int x_this_at, .int x_this_begun, .int x_this_token, .int x_this_value, .int x_this_opened, .int x_this_steps, .ref h_this_code0, .ref h_this_read, .ref h_this_saved, .ref h_this_plan, .ref h_this_bestPlan, .int x_this_most, .int x_this_many, .int x_this_few, .int x_this_everHome, .ref h_this_offThen, .ref h_this_paidThen, .int x_this_firstFit, .ref h_this_rows, .int x_this_rowMany, .ref h_this_sorts, .ref h_this_sizes, .ref h_this_number, .ref h_this_holds, .ref h_this_heldOne, .ref h_this_trace, .int x_this_traced, .int x_this_own, .int x_this_isParted]), (h_this_bestPlan, ia G 4 f_this_bestPlan), (h_this_pile, ia G 200 f_this_pile), (h_this_plan, ia G 4 f_this_plan), (h_this_s, ia G 313 f_this_s), (h_this_saved, ia G 325 f_this_saved)] [(h_this, ob 9 [.ref h_this_s, .ref h_this_kept, .ref h_this_laid, .int x_this_isKept, .ref h_this_pile, .ref h_this_tape, .int x_this_taped, .ref h_this_letters, .int x_this_at, .int x_this_begun, .int x_this_token, .int x_this_value, .int x_this_opened, .int x_this_steps, .ref h_this_code0, .ref h_this_read, .ref h_this_saved, .ref h_this_plan, .ref h_this_bestPlan, .int m_this_most, .int m_this_many, .int m_this_few, .int m_this_everHome, .ref h_this_offThen, .ref h_this_paidThen, .int x_this_firstFit, .ref h_this_rows, .int x_this_rowMany, .ref h_this_sorts, .ref h_this_sizes, .ref h_this_number, .ref h_this_holds, .ref h_this_heldOne, .ref h_this_trace, .int x_this_traced, .int x_this_own, .int x_this_isParted]), (h_this_bestPlan, ia G 4 m_this_bestPlan), (h_this_pile, ia G 200 m_this_pile), (h_this_plan, ia G 4 m_this_plan), (h_this_s, ia G 313 m_this_s), (h_this_saved, ia G 325 m_this_saved)]) {h_this h_this_s h_this_kept h_this_laid h_this_pile h_this_tape h_this_letters h_this_code0 h_this_read h_this_saved h_this_plan h_this_bestPlan h_this_offThen h_this_paidThen h_this_rows h_this_sorts h_this_sizes h_this_number h_this_holds h_this_heldOne h_this_trace : Nat} {p0 : Int32} {p1 : Int32} {p2 : Int32} {p3 : Int32} {p4 : Int32} {x_this_isKept : Int32} {x_this_taped : Int32} {x_this_at : Int32} {x_this_begun : Int32} {x_this_token : Int32} {x_this_value : Int32} {x_this_opened : Int32} {x_this_steps : Int32} {x_this_most : Int32} {x_this_many : Int32} {x_this_few : Int32} {x_this_everHome : Int32} {x_this_firstFit : Int32} {x_this_rowMany : Int32} {x_this_traced : Int32} {x_this_own : Int32} {x_this_isParted : Int32} {f_this_bestPlan : Nat → Int32} {f_this_pile : Nat → Int32} {f_this_plan : Nat → Int32} {f_this_s : Nat → Int32} {f_this_saved : Nat → Int32} {m_this_most : Int32} {m_this_many : Int32} {m_this_few : Int32} {m_this_everHome : Int32} {m_this_bestPlan : Nat → Int32} {m_this_pile : Nat → Int32} {m_this_plan : Nat → Int32} {m_this_s : Nat → Int32} {m_this_saved : Nat → Int32} (hf : f_X9_goesPlans self p0 p1 p2 p3 p4 x_this_most x_this_many x_this_few x_this_everHome f_this_bestPlan f_this_pile f_this_plan f_this_s f_this_saved = some (m_this_most, m_this_many, m_this_few, m_this_everHome, m_this_bestPlan, m_this_pile, m_this_plan, m_this_s, m_this_saved)) : mFv l G yX9_goesPlans cX9_goesPlans 8 (H0 + 7) [.ref h_this, .int p0, .int p1, .int p2, .int p3, .int p4] [(h_this, ob 9 [.ref h_this_s, .ref h_this_kept, .ref h_this_laid, .int x_this_isKept, .ref h_this_pile, .ref h_this_tape, .int x_this_taped, .ref h_this_letters, .int x_this_at, .int x_this_begun, .int x_this_token, .int x_this_value, .int x_this_opened, .int x_this_steps, .ref h_this_code0, .ref h_this_read, .ref h_this_saved, .ref h_this_plan, .ref h_this_bestPlan, .int x_this_most, .int x_this_many, .int x_this_few, .int x_this_everHome, .ref h_this_offThen, .ref h_this_paidThen, .int x_this_firstFit, .ref h_this_rows, .int x_this_rowMany, .ref h_this_sorts, .ref h_this_sizes, .ref h_this_number, .ref h_this_holds, .ref h_this_heldOne, .ref h_this_trace, .int x_this_traced, .int x_this_own, .int x_this_isParted]), (h_this_bestPlan, ia G 4 f_this_bestPlan), (h_this_pile, ia G 200 f_this_pile), (h_this_plan, ia G 4 f_this_plan), (h_this_s, ia G 313 f_this_s), (h_this_saved, ia G 325 f_this_saved)] [(h_this, ob 9 [.ref h_this_s, .ref h_this_kept, .ref h_this_laid, .int x_this_isKept, .ref h_this_pile, .ref h_this_tape, .int x_this_taped, .ref h_this_letters, .int x_this_at, .int x_this_begun, .int x_this_token, .int x_this_value, .int x_this_opened, .int x_this_steps, .ref h_this_code0, .ref h_this_read, .ref h_this_saved, .ref h_this_plan, .ref h_this_bestPlan, .int m_this_most, .int m_this_many, .int m_this_few, .int m_this_everHome, .ref h_this_offThen, .ref h_this_paidThen, .int x_this_firstFit, .ref h_this_rows, .int x_this_rowMany, .ref h_this_sorts, .ref h_this_sizes, .ref h_this_number, .ref h_this_holds, .ref h_this_heldOne, .ref h_this_trace, .int x_this_traced, .int x_this_own, .int x_this_isParted]), (h_this_bestPlan, ia G 4 m_this_bestPlan), (h_this_pile, ia G 200 m_this_pile), (h_this_plan, ia G 4 m_this_plan), (h_this_s, ia G 313 m_this_s), (h_this_saved, ia G 325 m_this_saved)] := by
  refine mFv.of (by decide +kernel) (Nat.le_of_ble_eq_true rfl) ?_
  intro p e s m below meth c A C hr hlk h ls hl
  obtain ⟨hx, hb, hml, hown, hts⟩ := id C
  replace hl : lv_has ls 8 [(0, .ref h_this), (1, .int p0), (2, .int p1), (3, .int p2), (4, .int p3), (5, .int p4)] := hl
  unfold f_X9_goesPlans at hf
  refine with_K G A 8 (fun K hK1 hK2 => ?_)
  have L24 : ∀ (n : Nat) (v6 : Int32) (y_this_most : Int32) (y_this_many : Int32) (y_this_few : Int32) (y_this_everHome : Int32) (g_this_bestPlan : Nat → Int32) (g_this_pile : Nat → Int32) (g_this_plan : Nat → Int32) (g_this_s : Nat → Int32) (g_this_saved : Nat → Int32), f_X9_goesPlans_L24 self p0 p1 p2 p3 p4 n v6 y_this_most y_this_many y_this_few y_this_everHome g_this_bestPlan g_this_pile g_this_plan g_this_s g_this_saved = some (m_this_most, m_this_many, m_this_few, m_this_everHome, m_this_bestPlan, m_this_pile, m_this_plan, m_this_s, m_this_saved) → K 24 ([] : List Value) [(h_this, ob 9 [.ref h_this_s, .ref h_this_kept, .ref h_this_laid, .int x_this_isKept, .ref h_this_pile, .ref h_this_tape, .int x_this_taped, .ref h_this_letters, .int x_this_at, .int x_this_begun, .int x_this_token, .int x_this_value, .int x_this_opened, .int x_this_steps, .ref h_this_code0, .ref h_this_read, .ref h_this_saved, .ref h_this_plan, .ref h_this_bestPlan, .int y_this_most, .int y_this_many, .int y_this_few, .int y_this_everHome, .ref h_this_offThen, .ref h_this_paidThen, .int x_this_firstFit, .ref h_this_rows, .int x_this_rowMany, .ref h_this_sorts, .ref h_this_sizes, .ref h_this_number, .ref h_this_holds, .ref h_this_heldOne, .ref h_this_trace, .int x_this_traced, .int x_this_own, .int x_this_isParted]), (h_this_bestPlan, ia G 4 g_this_bestPlan), (h_this_pile, ia G 200 g_this_pile), (h_this_plan, ia G 4 g_this_plan), (h_this_s, ia G 313 g_this_s), (h_this_saved, ia G 325 g_this_saved)] [(0, .ref h_this), (1, .int p0), (2, .int p1), (3, .int p2), (4, .int p3), (5, .int p4), (6, .int v6)] := by
    intro n
    induction n with
    | zero =>
      intro v6 y_this_most y_this_many y_this_few y_this_everHome g_this_bestPlan g_this_pile g_this_plan g_this_s g_this_saved hf
      replace hf : (none : Option _) = some _ := hf
      cases hf
    | succ n ih =>
      intro v6 y_this_most y_this_many y_this_few y_this_everHome g_this_bestPlan g_this_pile g_this_plan g_this_s g_this_saved hf
      rw [f_X9_goesPlans_L24] at hf
      refine hK1 _ _ _ _ (fun H locs ls h hl => ?_)
      refine lv_iload hx hb dX9_goesPlans_24 (lv_at hl 6 rfl) ?_
      refine lv_aload_n hx hb dX9_goesPlans_26 rfl (lv_at hl 0 rfl) ?_
      refine r_get C h fk_X9_9 0 rfl rfl dX9_goesPlans_27 ?_
      refine lv_iconst (v := (4 : Int32)) hx hb dX9_goesPlans_30 rfl ?_
      refine r_ialdL C h 4 rfl (vlit rfl) 4 rfl dX9_goesPlans_31 ?_
      refine lv_icmp_gt (tgt := 90) hx hb dX9_goesPlans_32 rfl (fun c4 => ?_) (fun c4 => ?_)
      · replace hf := ifp c4 hf
        obtain ⟨rfl, rfl, rfl, rfl, rfl, rfl, rfl, rfl, rfl⟩ := sm9 hf
        exact r_vret C h hr hlk dX9_goesPlans_90
      · replace hf := ifn c4 hf
        refine lv_aload_n hx hb dX9_goesPlans_35 rfl (lv_at hl 0 rfl) ?_
        refine r_get C h fk_X9_38 0 rfl rfl dX9_goesPlans_36 ?_
        refine lv_iload_n hx hb dX9_goesPlans_39 rfl (lv_at hl 1 rfl) ?_
        refine lv_iload hx hb dX9_goesPlans_40 (lv_at hl 6 rfl) ?_
        replace hf := chkI_inv hf
        obtain ⟨hi5, hf⟩ := hf
        refine r_iast (ws' := [(h_this, ob 9 [.ref h_this_s, .ref h_this_kept, .ref h_this_laid, .int x_this_isKept, .ref h_this_pile, .ref h_this_tape, .int x_this_taped, .ref h_this_letters, .int x_this_at, .int x_this_begun, .int x_this_token, .int x_this_value, .int x_this_opened, .int x_this_steps, .ref h_this_code0, .ref h_this_read, .ref h_this_saved, .ref h_this_plan, .ref h_this_bestPlan, .int y_this_most, .int y_this_many, .int y_this_few, .int y_this_everHome, .ref h_this_offThen, .ref h_this_paidThen, .int x_this_firstFit, .ref h_this_rows, .int x_this_rowMany, .ref h_this_sorts, .ref h_this_sizes, .ref h_this_number, .ref h_this_holds, .ref h_this_heldOne, .ref h_this_trace, .int x_this_traced, .int x_this_own, .int x_this_isParted]), (h_this_bestPlan, ia G 4 g_this_bestPlan), (h_this_pile, ia G 200 g_this_pile), (h_this_plan, ia G 4 (upd g_this_plan p0.toNatClampNeg v6)), (h_this_s, ia G 313 g_this_s), (h_this_saved, ia G 325 g_this_saved)]) C h 3 rfl hi5 dX9_goesPlans_42 rfl (fun H locs h => ?_)
        refine lv_aload_n hx hb dX9_goesPlans_43 rfl (lv_at hl 0 rfl) ?_
        refine lv_iload hx hb dX9_goesPlans_44 (lv_at hl 6 rfl) ?_
        replace hf := bd3_inv hf
        obtain ⟨r6, g7, g8, hc9, hf⟩ := hf
        refine r_ciV (ws' := [(h_this, ob 9 [.ref h_this_s, .ref h_this_kept, .ref h_this_laid, .int x_this_isKept, .ref h_this_pile, .ref h_this_tape, .int x_this_taped, .ref h_this_letters, .int x_this_at, .int x_this_begun, .int x_this_token, .int x_this_value, .int x_this_opened, .int x_this_steps, .ref h_this_code0, .ref h_this_read, .ref h_this_saved, .ref h_this_plan, .ref h_this_bestPlan, .int y_this_most, .int y_this_many, .int y_this_few, .int y_this_everHome, .ref h_this_offThen, .ref h_this_paidThen, .int x_this_firstFit, .ref h_this_rows, .int x_this_rowMany, .ref h_this_sorts, .ref h_this_sizes, .ref h_this_number, .ref h_this_holds, .ref h_this_heldOne, .ref h_this_trace, .int x_this_traced, .int x_this_own, .int x_this_isParted]), (h_this_bestPlan, ia G 4 g_this_bestPlan), (h_this_pile, ia G 200 g7), (h_this_plan, ia G 4 (upd g_this_plan p0.toNatClampNeg v6)), (h_this_s, ia G 313 g8), (h_this_saved, ia G 325 g_this_saved)]) C h (c_X9_goesBy hc9) mv_X9_238 rfl 0 rfl [0, 2, 4] rfl rfl [2, 4] [(h_this_pile, ia G 200 g7), (h_this_s, ia G 313 g8)] rfl rfl (by decide +kernel) rfl hl.1 rfl (Nat.le_of_ble_eq_true rfl) (rok (by omega)) dX9_goesPlans_46 (fun H locs h => ?_)
        refine lv_istore (lv' := [(7, .int r6), (0, .ref h_this), (1, .int p0), (2, .int p1), (3, .int p2), (4, .int p3), (5, .int p4), (6, .int v6)]) hx hb dX9_goesPlans_49 hl (by decide) rfl (fun ls hl => ?_)
        refine lv_aload_n hx hb dX9_goesPlans_51 rfl (lv_at hl 1 rfl) ?_
        refine lv_iload_n hx hb dX9_goesPlans_52 rfl (lv_at hl 2 rfl) ?_
        refine lv_iconst (v := (1 : Int32)) hx hb dX9_goesPlans_53 rfl ?_
        refine lv_iadd hx hb dX9_goesPlans_54 ?_
        refine lv_iload_n hx hb dX9_goesPlans_55 rfl (lv_at hl 3 rfl) ?_
        refine lv_iload_n hx hb dX9_goesPlans_56 rfl (lv_at hl 4 rfl) ?_
        refine lv_iload hx hb dX9_goesPlans_57 (lv_at hl 0 rfl) ?_
        refine lv_iadd hx hb dX9_goesPlans_59 ?_
        refine lv_iload hx hb dX9_goesPlans_60 (lv_at hl 7 rfl) ?_
        refine lv_if_le (tgt := 72) hx hb dX9_goesPlans_62 rfl (fun c10 => ?_) (fun c10 => ?_)
        · replace hf := ifp c10 hf
          refine lv_iload hx hb dX9_goesPlans_72 (lv_at hl 5 rfl) ?_
          refine lv_iload hx hb dX9_goesPlans_74 (lv_at hl 6 rfl) ?_
          replace hf := bd9_inv hf
          obtain ⟨y11, y12, y13, y14, g15, g16, g17, g18, g19, hc20, hf⟩ := hf
          refine r_cvV (ws' := [(h_this, ob 9 [.ref h_this_s, .ref h_this_kept, .ref h_this_laid, .int x_this_isKept, .ref h_this_pile, .ref h_this_tape, .int x_this_taped, .ref h_this_letters, .int x_this_at, .int x_this_begun, .int x_this_token, .int x_this_value, .int x_this_opened, .int x_this_steps, .ref h_this_code0, .ref h_this_read, .ref h_this_saved, .ref h_this_plan, .ref h_this_bestPlan, .int y11, .int y12, .int y13, .int y14, .ref h_this_offThen, .ref h_this_paidThen, .int x_this_firstFit, .ref h_this_rows, .int x_this_rowMany, .ref h_this_sorts, .ref h_this_sizes, .ref h_this_number, .ref h_this_holds, .ref h_this_heldOne, .ref h_this_trace, .int x_this_traced, .int x_this_own, .int x_this_isParted]), (h_this_bestPlan, ia G 4 g15), (h_this_pile, ia G 200 g16), (h_this_plan, ia G 4 g17), (h_this_s, ia G 313 g18), (h_this_saved, ia G 325 g19)]) C h (hself hc20) mv_X9_281 rfl 0 rfl [0, 1, 2, 3, 4, 5] rfl rfl [0, 1, 2, 3, 4, 5] [(h_this, ob 9 [.ref h_this_s, .ref h_this_kept, .ref h_this_laid, .int x_this_isKept, .ref h_this_pile, .ref h_this_tape, .int x_this_taped, .ref h_this_letters, .int x_this_at, .int x_this_begun, .int x_this_token, .int x_this_value, .int x_this_opened, .int x_this_steps, .ref h_this_code0, .ref h_this_read, .ref h_this_saved, .ref h_this_plan, .ref h_this_bestPlan, .int y11, .int y12, .int y13, .int y14, .ref h_this_offThen, .ref h_this_paidThen, .int x_this_firstFit, .ref h_this_rows, .int x_this_rowMany, .ref h_this_sorts, .ref h_this_sizes, .ref h_this_number, .ref h_this_holds, .ref h_this_heldOne, .ref h_this_trace, .int x_this_traced, .int x_this_own, .int x_this_isParted]), (h_this_bestPlan, ia G 4 g15), (h_this_pile, ia G 200 g16), (h_this_plan, ia G 4 g17), (h_this_s, ia G 313 g18), (h_this_saved, ia G 325 g19)] rfl rfl (by decide +kernel) rfl hl.1 rfl (Nat.le_of_ble_eq_true rfl) (rok (by omega)) dX9_goesPlans_76 (fun H locs h => ?_)
          refine lv_aload_n hx hb dX9_goesPlans_79 rfl (lv_at hl 1 rfl) ?_
          refine lv_iload_n hx hb dX9_goesPlans_80 rfl (lv_at hl 2 rfl) ?_
          replace hf := bd1_inv hf
          obtain ⟨g21, hc22, hf⟩ := hf
          refine r_cvV (ws' := [(h_this, ob 9 [.ref h_this_s, .ref h_this_kept, .ref h_this_laid, .int x_this_isKept, .ref h_this_pile, .ref h_this_tape, .int x_this_taped, .ref h_this_letters, .int x_this_at, .int x_this_begun, .int x_this_token, .int x_this_value, .int x_this_opened, .int x_this_steps, .ref h_this_code0, .ref h_this_read, .ref h_this_saved, .ref h_this_plan, .ref h_this_bestPlan, .int y11, .int y12, .int y13, .int y14, .ref h_this_offThen, .ref h_this_paidThen, .int x_this_firstFit, .ref h_this_rows, .int x_this_rowMany, .ref h_this_sorts, .ref h_this_sizes, .ref h_this_number, .ref h_this_holds, .ref h_this_heldOne, .ref h_this_trace, .int x_this_traced, .int x_this_own, .int x_this_isParted]), (h_this_bestPlan, ia G 4 g15), (h_this_pile, ia G 200 g16), (h_this_plan, ia G 4 g17), (h_this_s, ia G 313 g21), (h_this_saved, ia G 325 g19)]) C h (c_X9_restores hc22) mv_X9_285 rfl 0 rfl [0, 4, 5] rfl rfl [4] [(h_this_s, ia G 313 g21)] rfl rfl (by decide +kernel) rfl hl.1 rfl (Nat.le_of_ble_eq_true rfl) (rok (by omega)) dX9_goesPlans_81 (fun H locs h => ?_)
          obtain ⟨t23, et23⟩ : ∃ y : Int32, y = v6 + (1 : Int32) := ⟨_, rfl⟩
          replace hf := lt1_inv et23 hf
          refine lv_iinc (v := t23) (lv' := [(6, .int t23), (7, .int r6), (0, .ref h_this), (1, .int p0), (2, .int p1), (3, .int p2), (4, .int p3), (5, .int p4)]) hx hb dX9_goesPlans_84 hl (k := 7) rfl (by rw [et23]; rfl) (by decide) rfl (fun ls hl => ?_)
          refine lv_goto (tgt := 24) hx hb dX9_goesPlans_87 rfl ?_
          exact hK2 _ _ _ _ (ih t23 y11 y12 y13 y14 g15 g16 g17 g21 g19 hf) _ _ _ h (lv_sub hl [2, 3, 4, 5, 6, 7, 0] rfl)
        · replace hf := ifn c10 hf
          refine lv_iload hx hb dX9_goesPlans_65 (lv_at hl 5 rfl) ?_
          refine lv_iconst (v := (1 : Int32)) hx hb dX9_goesPlans_67 rfl ?_
          refine lv_iadd hx hb dX9_goesPlans_68 ?_
          refine lv_goto (tgt := 74) hx hb dX9_goesPlans_69 rfl ?_
          refine lv_iload hx hb dX9_goesPlans_74 (lv_at hl 6 rfl) ?_
          replace hf := bd9_inv hf
          obtain ⟨y24, y25, y26, y27, g28, g29, g30, g31, g32, hc33, hf⟩ := hf
          refine r_cvV (ws' := [(h_this, ob 9 [.ref h_this_s, .ref h_this_kept, .ref h_this_laid, .int x_this_isKept, .ref h_this_pile, .ref h_this_tape, .int x_this_taped, .ref h_this_letters, .int x_this_at, .int x_this_begun, .int x_this_token, .int x_this_value, .int x_this_opened, .int x_this_steps, .ref h_this_code0, .ref h_this_read, .ref h_this_saved, .ref h_this_plan, .ref h_this_bestPlan, .int y24, .int y25, .int y26, .int y27, .ref h_this_offThen, .ref h_this_paidThen, .int x_this_firstFit, .ref h_this_rows, .int x_this_rowMany, .ref h_this_sorts, .ref h_this_sizes, .ref h_this_number, .ref h_this_holds, .ref h_this_heldOne, .ref h_this_trace, .int x_this_traced, .int x_this_own, .int x_this_isParted]), (h_this_bestPlan, ia G 4 g28), (h_this_pile, ia G 200 g29), (h_this_plan, ia G 4 g30), (h_this_s, ia G 313 g31), (h_this_saved, ia G 325 g32)]) C h (hself hc33) mv_X9_281 rfl 0 rfl [0, 1, 2, 3, 4, 5] rfl rfl [0, 1, 2, 3, 4, 5] [(h_this, ob 9 [.ref h_this_s, .ref h_this_kept, .ref h_this_laid, .int x_this_isKept, .ref h_this_pile, .ref h_this_tape, .int x_this_taped, .ref h_this_letters, .int x_this_at, .int x_this_begun, .int x_this_token, .int x_this_value, .int x_this_opened, .int x_this_steps, .ref h_this_code0, .ref h_this_read, .ref h_this_saved, .ref h_this_plan, .ref h_this_bestPlan, .int y24, .int y25, .int y26, .int y27, .ref h_this_offThen, .ref h_this_paidThen, .int x_this_firstFit, .ref h_this_rows, .int x_this_rowMany, .ref h_this_sorts, .ref h_this_sizes, .ref h_this_number, .ref h_this_holds, .ref h_this_heldOne, .ref h_this_trace, .int x_this_traced, .int x_this_own, .int x_this_isParted]), (h_this_bestPlan, ia G 4 g28), (h_this_pile, ia G 200 g29), (h_this_plan, ia G 4 g30), (h_this_s, ia G 313 g31), (h_this_saved, ia G 325 g32)] rfl rfl (by decide +kernel) rfl hl.1 rfl (Nat.le_of_ble_eq_true rfl) (rok (by omega)) dX9_goesPlans_76 (fun H locs h => ?_)
          refine lv_aload_n hx hb dX9_goesPlans_79 rfl (lv_at hl 1 rfl) ?_
          refine lv_iload_n hx hb dX9_goesPlans_80 rfl (lv_at hl 2 rfl) ?_
          replace hf := bd1_inv hf
          obtain ⟨g34, hc35, hf⟩ := hf
          refine r_cvV (ws' := [(h_this, ob 9 [.ref h_this_s, .ref h_this_kept, .ref h_this_laid, .int x_this_isKept, .ref h_this_pile, .ref h_this_tape, .int x_this_taped, .ref h_this_letters, .int x_this_at, .int x_this_begun, .int x_this_token, .int x_this_value, .int x_this_opened, .int x_this_steps, .ref h_this_code0, .ref h_this_read, .ref h_this_saved, .ref h_this_plan, .ref h_this_bestPlan, .int y24, .int y25, .int y26, .int y27, .ref h_this_offThen, .ref h_this_paidThen, .int x_this_firstFit, .ref h_this_rows, .int x_this_rowMany, .ref h_this_sorts, .ref h_this_sizes, .ref h_this_number, .ref h_this_holds, .ref h_this_heldOne, .ref h_this_trace, .int x_this_traced, .int x_this_own, .int x_this_isParted]), (h_this_bestPlan, ia G 4 g28), (h_this_pile, ia G 200 g29), (h_this_plan, ia G 4 g30), (h_this_s, ia G 313 g34), (h_this_saved, ia G 325 g32)]) C h (c_X9_restores hc35) mv_X9_285 rfl 0 rfl [0, 4, 5] rfl rfl [4] [(h_this_s, ia G 313 g34)] rfl rfl (by decide +kernel) rfl hl.1 rfl (Nat.le_of_ble_eq_true rfl) (rok (by omega)) dX9_goesPlans_81 (fun H locs h => ?_)
          obtain ⟨t36, et36⟩ : ∃ y : Int32, y = v6 + (1 : Int32) := ⟨_, rfl⟩
          replace hf := lt1_inv et36 hf
          refine lv_iinc (v := t36) (lv' := [(6, .int t36), (7, .int r6), (0, .ref h_this), (1, .int p0), (2, .int p1), (3, .int p2), (4, .int p3), (5, .int p4)]) hx hb dX9_goesPlans_84 hl (k := 7) rfl (by rw [et36]; rfl) (by decide) rfl (fun ls hl => ?_)
          refine lv_goto (tgt := 24) hx hb dX9_goesPlans_87 rfl ?_
          exact hK2 _ _ _ _ (ih t36 y24 y25 y26 y27 g28 g29 g30 g34 g32 hf) _ _ _ h (lv_sub hl [2, 3, 4, 5, 6, 7, 0] rfl)
  refine lv_iload_n hx hb dX9_goesPlans_0 rfl (lv_at hl 1 rfl) ?_
  refine lv_iload_n hx hb dX9_goesPlans_1 rfl (lv_at hl 2 rfl) ?_
  refine lv_icmp_ne (tgt := 16) hx hb dX9_goesPlans_2 rfl (fun c1 => ?_) (fun c1 => ?_)
  · replace hf := ifn c1 hf
    refine lv_aload_n hx hb dX9_goesPlans_16 rfl (lv_at hl 0 rfl) ?_
    refine lv_iload_n hx hb dX9_goesPlans_17 rfl (lv_at hl 1 rfl) ?_
    replace hf := bd1_inv hf
    obtain ⟨g2, hc3, hf⟩ := hf
    refine r_cvV (ws' := [(h_this, ob 9 [.ref h_this_s, .ref h_this_kept, .ref h_this_laid, .int x_this_isKept, .ref h_this_pile, .ref h_this_tape, .int x_this_taped, .ref h_this_letters, .int x_this_at, .int x_this_begun, .int x_this_token, .int x_this_value, .int x_this_opened, .int x_this_steps, .ref h_this_code0, .ref h_this_read, .ref h_this_saved, .ref h_this_plan, .ref h_this_bestPlan, .int x_this_most, .int x_this_many, .int x_this_few, .int x_this_everHome, .ref h_this_offThen, .ref h_this_paidThen, .int x_this_firstFit, .ref h_this_rows, .int x_this_rowMany, .ref h_this_sorts, .ref h_this_sizes, .ref h_this_number, .ref h_this_holds, .ref h_this_heldOne, .ref h_this_trace, .int x_this_traced, .int x_this_own, .int x_this_isParted]), (h_this_bestPlan, ia G 4 f_this_bestPlan), (h_this_pile, ia G 200 f_this_pile), (h_this_plan, ia G 4 f_this_plan), (h_this_s, ia G 313 f_this_s), (h_this_saved, ia G 325 g2)]) C h (c_X9_saves hc3) mv_X9_278 rfl 0 rfl [0, 4, 5] rfl rfl [5] [(h_this_saved, ia G 325 g2)] rfl rfl (by decide +kernel) rfl hl.1 rfl (Nat.le_of_ble_eq_true rfl) (rok (by omega)) dX9_goesPlans_18 (fun H locs h => ?_)
    refine lv_iconst (v := (0 : Int32)) hx hb dX9_goesPlans_21 rfl ?_
    refine lv_istore (lv' := [(6, .int (0 : Int32)), (0, .ref h_this), (1, .int p0), (2, .int p1), (3, .int p2), (4, .int p3), (5, .int p4)]) hx hb dX9_goesPlans_22 hl (by decide) rfl (fun ls hl => ?_)
    exact hK2 _ _ _ _ (L24 1000 (0 : Int32) x_this_most x_this_many x_this_few x_this_everHome f_this_bestPlan f_this_pile f_this_plan f_this_s g2 hf) _ _ _ h (lv_sub hl [1, 2, 3, 4, 5, 6, 0] rfl)
  · replace hf := ifp c1 hf
    refine lv_aload_n hx hb dX9_goesPlans_5 rfl (lv_at hl 0 rfl) ?_
    refine lv_iload_n hx hb dX9_goesPlans_6 rfl (lv_at hl 2 rfl) ?_
    refine lv_iload_n hx hb dX9_goesPlans_7 rfl (lv_at hl 3 rfl) ?_
    refine lv_iload hx hb dX9_goesPlans_8 (lv_at hl 4 rfl) ?_
    refine lv_iload hx hb dX9_goesPlans_10 (lv_at hl 5 rfl) ?_
    replace hf := bd5_inv hf
    obtain ⟨y37, y38, y39, y40, g41, hc42, hf⟩ := hf
    refine r_cvV (ws' := [(h_this, ob 9 [.ref h_this_s, .ref h_this_kept, .ref h_this_laid, .int x_this_isKept, .ref h_this_pile, .ref h_this_tape, .int x_this_taped, .ref h_this_letters, .int x_this_at, .int x_this_begun, .int x_this_token, .int x_this_value, .int x_this_opened, .int x_this_steps, .ref h_this_code0, .ref h_this_read, .ref h_this_saved, .ref h_this_plan, .ref h_this_bestPlan, .int y37, .int y38, .int y39, .int y40, .ref h_this_offThen, .ref h_this_paidThen, .int x_this_firstFit, .ref h_this_rows, .int x_this_rowMany, .ref h_this_sorts, .ref h_this_sizes, .ref h_this_number, .ref h_this_holds, .ref h_this_heldOne, .ref h_this_trace, .int x_this_traced, .int x_this_own, .int x_this_isParted]), (h_this_bestPlan, ia G 4 g41), (h_this_pile, ia G 200 f_this_pile), (h_this_plan, ia G 4 f_this_plan), (h_this_s, ia G 313 f_this_s), (h_this_saved, ia G 325 f_this_saved)]) C h (c_X9_endsPlan hc42) mv_X9_274 rfl 0 rfl [0, 1, 3, 4] rfl rfl [0, 1] [(h_this, ob 9 [.ref h_this_s, .ref h_this_kept, .ref h_this_laid, .int x_this_isKept, .ref h_this_pile, .ref h_this_tape, .int x_this_taped, .ref h_this_letters, .int x_this_at, .int x_this_begun, .int x_this_token, .int x_this_value, .int x_this_opened, .int x_this_steps, .ref h_this_code0, .ref h_this_read, .ref h_this_saved, .ref h_this_plan, .ref h_this_bestPlan, .int y37, .int y38, .int y39, .int y40, .ref h_this_offThen, .ref h_this_paidThen, .int x_this_firstFit, .ref h_this_rows, .int x_this_rowMany, .ref h_this_sorts, .ref h_this_sizes, .ref h_this_number, .ref h_this_holds, .ref h_this_heldOne, .ref h_this_trace, .int x_this_traced, .int x_this_own, .int x_this_isParted]), (h_this_bestPlan, ia G 4 g41)] rfl rfl (by decide +kernel) rfl hl.1 rfl (Nat.le_of_ble_eq_true rfl) (rok (by omega)) dX9_goesPlans_12 (fun H locs h => ?_)
    obtain ⟨rfl, rfl, rfl, rfl, rfl, rfl, rfl, rfl, rfl⟩ := sm9 hf
    exact r_vret C h hr hlk dX9_goesPlans_15
def F_X9_goesPlans : Nat → Int32 → Int32 → Int32 → Int32 → Int32 → Int32 → Int32 → Int32 → Int32 → (Nat → Int32) → (Nat → Int32) → (Nat → Int32) → (Nat → Int32) → (Nat → Int32) → Option (Int32 × Int32 × Int32 × Int32 × (Nat → Int32) × (Nat → Int32) × (Nat → Int32) × (Nat → Int32) × (Nat → Int32))
  | 0, _, _, _, _, _, _, _, _, _, _, _, _, _, _ => none
  | d + 1, p0, p1, p2, p3, p4, x_this_most, x_this_many, x_this_few, x_this_everHome, f_this_bestPlan, f_this_pile, f_this_plan, f_this_s, f_this_saved => f_X9_goesPlans (F_X9_goesPlans d) p0 p1 p2 p3 p4 x_this_most x_this_many x_this_few x_this_everHome f_this_bestPlan f_this_pile f_this_plan f_this_s f_this_saved
theorem C_X9_goesPlans {l : Launch} {G : Gt} (d : Nat) : ∀ {h_this h_this_s h_this_kept h_this_laid h_this_pile h_this_tape h_this_letters h_this_code0 h_this_read h_this_saved h_this_plan h_this_bestPlan h_this_offThen h_this_paidThen h_this_rows h_this_sorts h_this_sizes h_this_number h_this_holds h_this_heldOne h_this_trace : Nat} {p0 : Int32} {p1 : Int32} {p2 : Int32} {p3 : Int32} {p4 : Int32} {x_this_isKept : Int32} {x_this_taped : Int32} {x_this_at : Int32} {x_this_begun : Int32} {x_this_token : Int32} {x_this_value : Int32} {x_this_opened : Int32} {x_this_steps : Int32} {x_this_most : Int32} {x_this_many : Int32} {x_this_few : Int32} {x_this_everHome : Int32} {x_this_firstFit : Int32} {x_this_rowMany : Int32} {x_this_traced : Int32} {x_this_own : Int32} {x_this_isParted : Int32} {f_this_bestPlan : Nat → Int32} {f_this_pile : Nat → Int32} {f_this_plan : Nat → Int32} {f_this_s : Nat → Int32} {f_this_saved : Nat → Int32} {m_this_most : Int32} {m_this_many : Int32} {m_this_few : Int32} {m_this_everHome : Int32} {m_this_bestPlan : Nat → Int32} {m_this_pile : Nat → Int32} {m_this_plan : Nat → Int32} {m_this_s : Nat → Int32} {m_this_saved : Nat → Int32} , F_X9_goesPlans d p0 p1 p2 p3 p4 x_this_most x_this_many x_this_few x_this_everHome f_this_bestPlan f_this_pile f_this_plan f_this_s f_this_saved = some (m_this_most, m_this_many, m_this_few, m_this_everHome, m_this_bestPlan, m_this_pile, m_this_plan, m_this_s, m_this_saved) → mFv l G yX9_goesPlans cX9_goesPlans 8 (d * 7) [.ref h_this, .int p0, .int p1, .int p2, .int p3, .int p4] [(h_this, ob 9 [.ref h_this_s, .ref h_this_kept, .ref h_this_laid, .int x_this_isKept, .ref h_this_pile, .ref h_this_tape, .int x_this_taped, .ref h_this_letters, .int x_this_at, .int x_this_begun, .int x_this_token, .int x_this_value, .int x_this_opened, .int x_this_steps, .ref h_this_code0, .ref h_this_read, .ref h_this_saved, .ref h_this_plan, .ref h_this_bestPlan, .int x_this_most, .int x_this_many, .int x_this_few, .int x_this_everHome, .ref h_this_offThen, .ref h_this_paidThen, .int x_this_firstFit, .ref h_this_rows, .int x_this_rowMany, .ref h_this_sorts, .ref h_this_sizes, .ref h_this_number, .ref h_this_holds, .ref h_this_heldOne, .ref h_this_trace, .int x_this_traced, .int x_this_own, .int x_this_isParted]), (h_this_bestPlan, ia G 4 f_this_bestPlan), (h_this_pile, ia G 200 f_this_pile), (h_this_plan, ia G 4 f_this_plan), (h_this_s, ia G 313 f_this_s), (h_this_saved, ia G 325 f_this_saved)] [(h_this, ob 9 [.ref h_this_s, .ref h_this_kept, .ref h_this_laid, .int x_this_isKept, .ref h_this_pile, .ref h_this_tape, .int x_this_taped, .ref h_this_letters, .int x_this_at, .int x_this_begun, .int x_this_token, .int x_this_value, .int x_this_opened, .int x_this_steps, .ref h_this_code0, .ref h_this_read, .ref h_this_saved, .ref h_this_plan, .ref h_this_bestPlan, .int m_this_most, .int m_this_many, .int m_this_few, .int m_this_everHome, .ref h_this_offThen, .ref h_this_paidThen, .int x_this_firstFit, .ref h_this_rows, .int x_this_rowMany, .ref h_this_sorts, .ref h_this_sizes, .ref h_this_number, .ref h_this_holds, .ref h_this_heldOne, .ref h_this_trace, .int x_this_traced, .int x_this_own, .int x_this_isParted]), (h_this_bestPlan, ia G 4 m_this_bestPlan), (h_this_pile, ia G 200 m_this_pile), (h_this_plan, ia G 4 m_this_plan), (h_this_s, ia G 313 m_this_s), (h_this_saved, ia G 325 m_this_saved)] := by
  induction d with
  | zero =>
    intros
    rename_i hf
    replace hf : (none : Option _) = some _ := hf
    cases hf
  | succ d ih =>
    intros
    rename_i hf
    rw [Nat.succ_mul]
    exact c_X9_goesPlans (self := F_X9_goesPlans d) ih hf
def f_X9_triesAll (p0 : Int32) (p1 : Int32) (f_this_bestPlan : Nat → Int32) (f_this_pile : Nat → Int32) (f_this_plan : Nat → Int32) (f_this_s : Nat → Int32) (f_this_saved : Nat → Int32) : Option (Int32 × Int32 × Int32 × Int32 × (Nat → Int32) × (Nat → Int32) × (Nat → Int32) × (Nat → Int32) × (Nat → Int32)) := bd1 (f_X9_daysOf p0 f_this_s) (fun r1 => bd9 (F_X9_goesPlans 6 (0 : Int32) r1 (0 : Int32) (0 : Int32) p1 (-1 : Int32) (0 : Int32) (5 : Int32) (0 : Int32) f_this_bestPlan f_this_pile f_this_plan f_this_s f_this_saved) (fun y3 y4 y5 y6 g7 g8 g9 g10 g11 => some (y3, y4, y5, y6, g7, g8, g9, g10, g11)))
set_option maxRecDepth 100000 in
set_option maxHeartbeats 4000000 in
theorem c_X9_triesAll {l : Launch} {G : Gt} {h_this h_this_s h_this_kept h_this_laid h_this_pile h_this_tape h_this_letters h_this_code0 h_this_read h_this_saved h_this_plan h_this_bestPlan h_this_offThen h_this_paidThen h_this_rows h_this_sorts h_this_sizes h_this_number h_this_holds h_this_heldOne h_this_trace : Nat} {p0 : Int32} {p1 : Int32} {x_this_isKept : Int32} {x_this_taped : Int32} {x_this_at : Int32} {x_this_begun : Int32} {x_this_token : Int32} {x_this_value : Int32} {x_this_opened : Int32} {x_this_steps : Int32} {x_this_most : Int32} {x_this_many : Int32} {x_this_few : Int32} {x_this_everHome : Int32} {x_this_firstFit : Int32} {x_this_rowMany : Int32} {x_this_traced : Int32} {x_this_own : Int32} {x_this_isParted : Int32} {f_this_bestPlan : Nat → Int32} {f_this_pile : Nat → Int32} {f_this_plan : Nat → Int32} {f_this_s : Nat → Int32} {f_this_saved : Nat → Int32} {m_this_most : Int32} {m_this_many : Int32} {m_this_few : Int32} {m_this_everHome : Int32} {m_this_bestPlan : Nat → Int32} {m_this_pile : Nat → Int32} {m_this_plan : Nat → Int32} {m_this_s : Nat → Int32} {m_this_saved : Nat → Int32} (hf : f_X9_triesAll p0 p1 f_this_bestPlan f_this_pile f_this_plan f_this_s f_this_saved = some (m_this_most, m_this_many, m_this_few, m_this_everHome, m_this_bestPlan, m_this_pile, m_this_plan, m_this_s, m_this_saved)) : mFv l G yX9_triesAll cX9_triesAll 3 43 [.ref h_this, .int p0, .int p1] [(h_this, ob 9 [.ref h_this_s, .ref h_this_kept, .ref h_this_laid, .int x_this_isKept, .ref h_this_pile, .ref h_this_tape, .int x_this_taped, .ref h_this_letters, .int x_this_at, .int x_this_begun, .int x_this_token, .int x_this_value, .int x_this_opened, .int x_this_steps, .ref h_this_code0, .ref h_this_read, .ref h_this_saved, .ref h_this_plan, .ref h_this_bestPlan, .int x_this_most, .int x_this_many, .int x_this_few, .int x_this_everHome, .ref h_this_offThen, .ref h_this_paidThen, .int x_this_firstFit, .ref h_this_rows, .int x_this_rowMany, .ref h_this_sorts, .ref h_this_sizes, .ref h_this_number, .ref h_this_holds, .ref h_this_heldOne, .ref h_this_trace, .int x_this_traced, .int x_this_own, .int x_this_isParted]), (h_this_bestPlan, ia G 4 f_this_bestPlan), (h_this_pile, ia G 200 f_this_pile), (h_this_plan, ia G 4 f_this_plan), (h_this_s, ia G 313 f_this_s), (h_this_saved, ia G 325 f_this_saved)] [(h_this, ob 9 [.ref h_this_s, .ref h_this_kept, .ref h_this_laid, .int x_this_isKept, .ref h_this_pile, .ref h_this_tape, .int x_this_taped, .ref h_this_letters, .int x_this_at, .int x_this_begun, .int x_this_token, .int x_this_value, .int x_this_opened, .int x_this_steps, .ref h_this_code0, .ref h_this_read, .ref h_this_saved, .ref h_this_plan, .ref h_this_bestPlan, .int m_this_most, .int m_this_many, .int m_this_few, .int m_this_everHome, .ref h_this_offThen, .ref h_this_paidThen, .int x_this_firstFit, .ref h_this_rows, .int x_this_rowMany, .ref h_this_sorts, .ref h_this_sizes, .ref h_this_number, .ref h_this_holds, .ref h_this_heldOne, .ref h_this_trace, .int x_this_traced, .int x_this_own, .int x_this_isParted]), (h_this_bestPlan, ia G 4 m_this_bestPlan), (h_this_pile, ia G 200 m_this_pile), (h_this_plan, ia G 4 m_this_plan), (h_this_s, ia G 313 m_this_s), (h_this_saved, ia G 325 m_this_saved)] := by
  refine mFv.of (by decide +kernel) (Nat.le_of_ble_eq_true rfl) ?_
  intro p e s m below meth c A C hr hlk h ls hl
  obtain ⟨hx, hb, hml, hown, hts⟩ := id C
  replace hl : lv_has ls 3 [(0, .ref h_this), (1, .int p0), (2, .int p1)] := hl
  unfold f_X9_triesAll at hf
  refine lv_aload_n hx hb dX9_triesAll_0 rfl (lv_at hl 0 rfl) ?_
  refine lv_iconst (v := (-1 : Int32)) hx hb dX9_triesAll_1 rfl ?_
  refine r_put (ws' := [(h_this, ob 9 [.ref h_this_s, .ref h_this_kept, .ref h_this_laid, .int x_this_isKept, .ref h_this_pile, .ref h_this_tape, .int x_this_taped, .ref h_this_letters, .int x_this_at, .int x_this_begun, .int x_this_token, .int x_this_value, .int x_this_opened, .int x_this_steps, .ref h_this_code0, .ref h_this_read, .ref h_this_saved, .ref h_this_plan, .ref h_this_bestPlan, .int (-1 : Int32), .int x_this_many, .int x_this_few, .int x_this_everHome, .ref h_this_offThen, .ref h_this_paidThen, .int x_this_firstFit, .ref h_this_rows, .int x_this_rowMany, .ref h_this_sorts, .ref h_this_sizes, .ref h_this_number, .ref h_this_holds, .ref h_this_heldOne, .ref h_this_trace, .int x_this_traced, .int x_this_own, .int x_this_isParted]), (h_this_bestPlan, ia G 4 f_this_bestPlan), (h_this_pile, ia G 200 f_this_pile), (h_this_plan, ia G 4 f_this_plan), (h_this_s, ia G 313 f_this_s), (h_this_saved, ia G 325 f_this_saved)]) C h fw_X9_262 0 rfl rfl rfl (Nat.le_of_ble_eq_true rfl) dX9_triesAll_2 rfl (fun H locs h => ?_)
  refine lv_aload_n hx hb dX9_triesAll_5 rfl (lv_at hl 0 rfl) ?_
  refine lv_iconst (v := (0 : Int32)) hx hb dX9_triesAll_6 rfl ?_
  refine r_put (ws' := [(h_this, ob 9 [.ref h_this_s, .ref h_this_kept, .ref h_this_laid, .int x_this_isKept, .ref h_this_pile, .ref h_this_tape, .int x_this_taped, .ref h_this_letters, .int x_this_at, .int x_this_begun, .int x_this_token, .int x_this_value, .int x_this_opened, .int x_this_steps, .ref h_this_code0, .ref h_this_read, .ref h_this_saved, .ref h_this_plan, .ref h_this_bestPlan, .int (-1 : Int32), .int (0 : Int32), .int x_this_few, .int x_this_everHome, .ref h_this_offThen, .ref h_this_paidThen, .int x_this_firstFit, .ref h_this_rows, .int x_this_rowMany, .ref h_this_sorts, .ref h_this_sizes, .ref h_this_number, .ref h_this_holds, .ref h_this_heldOne, .ref h_this_trace, .int x_this_traced, .int x_this_own, .int x_this_isParted]), (h_this_bestPlan, ia G 4 f_this_bestPlan), (h_this_pile, ia G 200 f_this_pile), (h_this_plan, ia G 4 f_this_plan), (h_this_s, ia G 313 f_this_s), (h_this_saved, ia G 325 f_this_saved)]) C h fw_X9_265 0 rfl rfl rfl (Nat.le_of_ble_eq_true rfl) dX9_triesAll_7 rfl (fun H locs h => ?_)
  refine lv_aload_n hx hb dX9_triesAll_10 rfl (lv_at hl 0 rfl) ?_
  refine lv_iconst (v := (5 : Int32)) hx hb dX9_triesAll_11 rfl ?_
  refine r_put (ws' := [(h_this, ob 9 [.ref h_this_s, .ref h_this_kept, .ref h_this_laid, .int x_this_isKept, .ref h_this_pile, .ref h_this_tape, .int x_this_taped, .ref h_this_letters, .int x_this_at, .int x_this_begun, .int x_this_token, .int x_this_value, .int x_this_opened, .int x_this_steps, .ref h_this_code0, .ref h_this_read, .ref h_this_saved, .ref h_this_plan, .ref h_this_bestPlan, .int (-1 : Int32), .int (0 : Int32), .int (5 : Int32), .int x_this_everHome, .ref h_this_offThen, .ref h_this_paidThen, .int x_this_firstFit, .ref h_this_rows, .int x_this_rowMany, .ref h_this_sorts, .ref h_this_sizes, .ref h_this_number, .ref h_this_holds, .ref h_this_heldOne, .ref h_this_trace, .int x_this_traced, .int x_this_own, .int x_this_isParted]), (h_this_bestPlan, ia G 4 f_this_bestPlan), (h_this_pile, ia G 200 f_this_pile), (h_this_plan, ia G 4 f_this_plan), (h_this_s, ia G 313 f_this_s), (h_this_saved, ia G 325 f_this_saved)]) C h fw_X9_268 0 rfl rfl rfl (Nat.le_of_ble_eq_true rfl) dX9_triesAll_12 rfl (fun H locs h => ?_)
  refine lv_aload_n hx hb dX9_triesAll_15 rfl (lv_at hl 0 rfl) ?_
  refine lv_iconst (v := (0 : Int32)) hx hb dX9_triesAll_16 rfl ?_
  refine r_put (ws' := [(h_this, ob 9 [.ref h_this_s, .ref h_this_kept, .ref h_this_laid, .int x_this_isKept, .ref h_this_pile, .ref h_this_tape, .int x_this_taped, .ref h_this_letters, .int x_this_at, .int x_this_begun, .int x_this_token, .int x_this_value, .int x_this_opened, .int x_this_steps, .ref h_this_code0, .ref h_this_read, .ref h_this_saved, .ref h_this_plan, .ref h_this_bestPlan, .int (-1 : Int32), .int (0 : Int32), .int (5 : Int32), .int (0 : Int32), .ref h_this_offThen, .ref h_this_paidThen, .int x_this_firstFit, .ref h_this_rows, .int x_this_rowMany, .ref h_this_sorts, .ref h_this_sizes, .ref h_this_number, .ref h_this_holds, .ref h_this_heldOne, .ref h_this_trace, .int x_this_traced, .int x_this_own, .int x_this_isParted]), (h_this_bestPlan, ia G 4 f_this_bestPlan), (h_this_pile, ia G 200 f_this_pile), (h_this_plan, ia G 4 f_this_plan), (h_this_s, ia G 313 f_this_s), (h_this_saved, ia G 325 f_this_saved)]) C h fw_X9_271 0 rfl rfl rfl (Nat.le_of_ble_eq_true rfl) dX9_triesAll_17 rfl (fun H locs h => ?_)
  refine lv_aload_n hx hb dX9_triesAll_20 rfl (lv_at hl 0 rfl) ?_
  refine lv_iconst (v := (0 : Int32)) hx hb dX9_triesAll_21 rfl ?_
  refine lv_aload_n hx hb dX9_triesAll_22 rfl (lv_at hl 0 rfl) ?_
  refine lv_iload_n hx hb dX9_triesAll_23 rfl (lv_at hl 1 rfl) ?_
  replace hf := bd1_inv hf
  obtain ⟨r1, hc2, hf⟩ := hf
  refine r_ciV0 C h (c_X9_daysOf hc2) mv_X9_288 rfl 0 rfl [0, 4] rfl rfl hl.1 rfl (Nat.le_of_ble_eq_true rfl) (rok (by decide)) dX9_triesAll_24 (fun H locs h => ?_)
  refine lv_iconst (v := (0 : Int32)) hx hb dX9_triesAll_27 rfl ?_
  refine lv_iconst (v := (0 : Int32)) hx hb dX9_triesAll_28 rfl ?_
  refine lv_iload_n hx hb dX9_triesAll_29 rfl (lv_at hl 2 rfl) ?_
  replace hf := bd9_inv hf
  obtain ⟨y3, y4, y5, y6, g7, g8, g9, g10, g11, hc12, hf⟩ := hf
  refine r_cvV (ws' := [(h_this, ob 9 [.ref h_this_s, .ref h_this_kept, .ref h_this_laid, .int x_this_isKept, .ref h_this_pile, .ref h_this_tape, .int x_this_taped, .ref h_this_letters, .int x_this_at, .int x_this_begun, .int x_this_token, .int x_this_value, .int x_this_opened, .int x_this_steps, .ref h_this_code0, .ref h_this_read, .ref h_this_saved, .ref h_this_plan, .ref h_this_bestPlan, .int y3, .int y4, .int y5, .int y6, .ref h_this_offThen, .ref h_this_paidThen, .int x_this_firstFit, .ref h_this_rows, .int x_this_rowMany, .ref h_this_sorts, .ref h_this_sizes, .ref h_this_number, .ref h_this_holds, .ref h_this_heldOne, .ref h_this_trace, .int x_this_traced, .int x_this_own, .int x_this_isParted]), (h_this_bestPlan, ia G 4 g7), (h_this_pile, ia G 200 g8), (h_this_plan, ia G 4 g9), (h_this_s, ia G 313 g10), (h_this_saved, ia G 325 g11)]) C h (C_X9_goesPlans 6 hc12) mv_X9_281 rfl 0 rfl [0, 1, 2, 3, 4, 5] rfl rfl [0, 1, 2, 3, 4, 5] [(h_this, ob 9 [.ref h_this_s, .ref h_this_kept, .ref h_this_laid, .int x_this_isKept, .ref h_this_pile, .ref h_this_tape, .int x_this_taped, .ref h_this_letters, .int x_this_at, .int x_this_begun, .int x_this_token, .int x_this_value, .int x_this_opened, .int x_this_steps, .ref h_this_code0, .ref h_this_read, .ref h_this_saved, .ref h_this_plan, .ref h_this_bestPlan, .int y3, .int y4, .int y5, .int y6, .ref h_this_offThen, .ref h_this_paidThen, .int x_this_firstFit, .ref h_this_rows, .int x_this_rowMany, .ref h_this_sorts, .ref h_this_sizes, .ref h_this_number, .ref h_this_holds, .ref h_this_heldOne, .ref h_this_trace, .int x_this_traced, .int x_this_own, .int x_this_isParted]), (h_this_bestPlan, ia G 4 g7), (h_this_pile, ia G 200 g8), (h_this_plan, ia G 4 g9), (h_this_s, ia G 313 g10), (h_this_saved, ia G 325 g11)] rfl rfl (by decide +kernel) rfl hl.1 rfl (Nat.le_of_ble_eq_true rfl) (rok (by decide)) dX9_triesAll_30 (fun H locs h => ?_)
  obtain ⟨rfl, rfl, rfl, rfl, rfl, rfl, rfl, rfl, rfl⟩ := sm9 hf
  exact r_vret C h hr hlk dX9_triesAll_33
def f_X9_best (p0 : Int32) (x_this_most : Int32) (x_this_many : Int32) (x_this_few : Int32) (x_this_everHome : Int32) (f_this_bestPlan : Nat → Int32) (f_this_pile : Nat → Int32) (f_this_plan : Nat → Int32) (f_this_s : Nat → Int32) (f_this_saved : Nat → Int32) : Option (Int32 × Int32 × Int32 × Int32 × Int32 × (Nat → Int32) × (Nat → Int32) × (Nat → Int32) × (Nat → Int32) × (Nat → Int32)) := bd1 (f_X9_isPlan p0) (fun r1 => (if r1 = 0 then some ((-1 : Int32), x_this_most, x_this_many, x_this_few, x_this_everHome, f_this_bestPlan, f_this_pile, f_this_plan, f_this_s, f_this_saved) else bd9 (f_X9_triesAll p0 (0 : Int32) f_this_bestPlan f_this_pile f_this_plan f_this_s f_this_saved) (fun y4 y5 y6 y7 g8 g9 g10 g11 g12 => some (y4, y4, y5, y6, y7, g8, g9, g10, g11, g12))))
set_option maxRecDepth 100000 in
set_option maxHeartbeats 4000000 in
theorem c_X9_best {l : Launch} {G : Gt} {h_this h_this_s h_this_kept h_this_laid h_this_pile h_this_tape h_this_letters h_this_code0 h_this_read h_this_saved h_this_plan h_this_bestPlan h_this_offThen h_this_paidThen h_this_rows h_this_sorts h_this_sizes h_this_number h_this_holds h_this_heldOne h_this_trace : Nat} {p0 : Int32} {x_this_isKept : Int32} {x_this_taped : Int32} {x_this_at : Int32} {x_this_begun : Int32} {x_this_token : Int32} {x_this_value : Int32} {x_this_opened : Int32} {x_this_steps : Int32} {x_this_most : Int32} {x_this_many : Int32} {x_this_few : Int32} {x_this_everHome : Int32} {x_this_firstFit : Int32} {x_this_rowMany : Int32} {x_this_traced : Int32} {x_this_own : Int32} {x_this_isParted : Int32} {f_this_bestPlan : Nat → Int32} {f_this_pile : Nat → Int32} {f_this_plan : Nat → Int32} {f_this_s : Nat → Int32} {f_this_saved : Nat → Int32} {r : Int32} {m_this_most : Int32} {m_this_many : Int32} {m_this_few : Int32} {m_this_everHome : Int32} {m_this_bestPlan : Nat → Int32} {m_this_pile : Nat → Int32} {m_this_plan : Nat → Int32} {m_this_s : Nat → Int32} {m_this_saved : Nat → Int32} (hf : f_X9_best p0 x_this_most x_this_many x_this_few x_this_everHome f_this_bestPlan f_this_pile f_this_plan f_this_s f_this_saved = some (r, m_this_most, m_this_many, m_this_few, m_this_everHome, m_this_bestPlan, m_this_pile, m_this_plan, m_this_s, m_this_saved)) : mFi l G yX9_best cX9_best 2 .int 44 [.ref h_this, .int p0] [(h_this, ob 9 [.ref h_this_s, .ref h_this_kept, .ref h_this_laid, .int x_this_isKept, .ref h_this_pile, .ref h_this_tape, .int x_this_taped, .ref h_this_letters, .int x_this_at, .int x_this_begun, .int x_this_token, .int x_this_value, .int x_this_opened, .int x_this_steps, .ref h_this_code0, .ref h_this_read, .ref h_this_saved, .ref h_this_plan, .ref h_this_bestPlan, .int x_this_most, .int x_this_many, .int x_this_few, .int x_this_everHome, .ref h_this_offThen, .ref h_this_paidThen, .int x_this_firstFit, .ref h_this_rows, .int x_this_rowMany, .ref h_this_sorts, .ref h_this_sizes, .ref h_this_number, .ref h_this_holds, .ref h_this_heldOne, .ref h_this_trace, .int x_this_traced, .int x_this_own, .int x_this_isParted]), (h_this_bestPlan, ia G 4 f_this_bestPlan), (h_this_pile, ia G 200 f_this_pile), (h_this_plan, ia G 4 f_this_plan), (h_this_s, ia G 313 f_this_s), (h_this_saved, ia G 325 f_this_saved)] r [(h_this, ob 9 [.ref h_this_s, .ref h_this_kept, .ref h_this_laid, .int x_this_isKept, .ref h_this_pile, .ref h_this_tape, .int x_this_taped, .ref h_this_letters, .int x_this_at, .int x_this_begun, .int x_this_token, .int x_this_value, .int x_this_opened, .int x_this_steps, .ref h_this_code0, .ref h_this_read, .ref h_this_saved, .ref h_this_plan, .ref h_this_bestPlan, .int m_this_most, .int m_this_many, .int m_this_few, .int m_this_everHome, .ref h_this_offThen, .ref h_this_paidThen, .int x_this_firstFit, .ref h_this_rows, .int x_this_rowMany, .ref h_this_sorts, .ref h_this_sizes, .ref h_this_number, .ref h_this_holds, .ref h_this_heldOne, .ref h_this_trace, .int x_this_traced, .int x_this_own, .int x_this_isParted]), (h_this_bestPlan, ia G 4 m_this_bestPlan), (h_this_pile, ia G 200 m_this_pile), (h_this_plan, ia G 4 m_this_plan), (h_this_s, ia G 313 m_this_s), (h_this_saved, ia G 325 m_this_saved)] := by
  refine mFi.of (by decide +kernel) (Nat.le_of_ble_eq_true rfl) ?_
  intro p e s m below meth c A C hr hlk h ls hl
  obtain ⟨hx, hb, hml, hown, hts⟩ := id C
  replace hl : lv_has ls 2 [(0, .ref h_this), (1, .int p0)] := hl
  unfold f_X9_best at hf
  refine lv_iload_n hx hb dX9_best_0 rfl (lv_at hl 1 rfl) ?_
  replace hf := bd1_inv hf
  obtain ⟨r1, hc2, hf⟩ := hf
  refine r_ciS0 C h (c_X9_isPlan hc2) ms_X9_291 rfl [] rfl rfl hl.1 rfl (Nat.le_of_ble_eq_true rfl) (rok (by decide)) dX9_best_1 (fun H locs h => ?_)
  refine lv_if_ne (tgt := 9) hx hb dX9_best_4 rfl (fun c3 => ?_) (fun c3 => ?_)
  · replace hf := ifn c3 hf
    refine lv_aload_n hx hb dX9_best_9 rfl (lv_at hl 0 rfl) ?_
    refine lv_iload_n hx hb dX9_best_10 rfl (lv_at hl 1 rfl) ?_
    refine lv_iconst (v := (0 : Int32)) hx hb dX9_best_11 rfl ?_
    replace hf := bd9_inv hf
    obtain ⟨y4, y5, y6, y7, g8, g9, g10, g11, g12, hc13, hf⟩ := hf
    refine r_cvV (ws' := [(h_this, ob 9 [.ref h_this_s, .ref h_this_kept, .ref h_this_laid, .int x_this_isKept, .ref h_this_pile, .ref h_this_tape, .int x_this_taped, .ref h_this_letters, .int x_this_at, .int x_this_begun, .int x_this_token, .int x_this_value, .int x_this_opened, .int x_this_steps, .ref h_this_code0, .ref h_this_read, .ref h_this_saved, .ref h_this_plan, .ref h_this_bestPlan, .int y4, .int y5, .int y6, .int y7, .ref h_this_offThen, .ref h_this_paidThen, .int x_this_firstFit, .ref h_this_rows, .int x_this_rowMany, .ref h_this_sorts, .ref h_this_sizes, .ref h_this_number, .ref h_this_holds, .ref h_this_heldOne, .ref h_this_trace, .int x_this_traced, .int x_this_own, .int x_this_isParted]), (h_this_bestPlan, ia G 4 g8), (h_this_pile, ia G 200 g9), (h_this_plan, ia G 4 g10), (h_this_s, ia G 313 g11), (h_this_saved, ia G 325 g12)]) C h (c_X9_triesAll hc13) mv_X9_294 rfl 0 rfl [0, 1, 2, 3, 4, 5] rfl rfl [0, 1, 2, 3, 4, 5] [(h_this, ob 9 [.ref h_this_s, .ref h_this_kept, .ref h_this_laid, .int x_this_isKept, .ref h_this_pile, .ref h_this_tape, .int x_this_taped, .ref h_this_letters, .int x_this_at, .int x_this_begun, .int x_this_token, .int x_this_value, .int x_this_opened, .int x_this_steps, .ref h_this_code0, .ref h_this_read, .ref h_this_saved, .ref h_this_plan, .ref h_this_bestPlan, .int y4, .int y5, .int y6, .int y7, .ref h_this_offThen, .ref h_this_paidThen, .int x_this_firstFit, .ref h_this_rows, .int x_this_rowMany, .ref h_this_sorts, .ref h_this_sizes, .ref h_this_number, .ref h_this_holds, .ref h_this_heldOne, .ref h_this_trace, .int x_this_traced, .int x_this_own, .int x_this_isParted]), (h_this_bestPlan, ia G 4 g8), (h_this_pile, ia G 200 g9), (h_this_plan, ia G 4 g10), (h_this_s, ia G 313 g11), (h_this_saved, ia G 325 g12)] rfl rfl (by decide +kernel) rfl hl.1 rfl (Nat.le_of_ble_eq_true rfl) (rok (by decide)) dX9_best_12 (fun H locs h => ?_)
    refine lv_aload_n hx hb dX9_best_15 rfl (lv_at hl 0 rfl) ?_
    refine r_get C h fk_X9_262 0 rfl rfl dX9_best_16 ?_
    obtain ⟨rfl, rfl, rfl, rfl, rfl, rfl, rfl, rfl, rfl, rfl⟩ := sm10 hf
    exact r_iret C h hr hlk rfl dX9_best_19
  · replace hf := ifp c3 hf
    refine lv_iconst (v := (-1 : Int32)) hx hb dX9_best_7 rfl ?_
    obtain ⟨rfl, rfl, rfl, rfl, rfl, rfl, rfl, rfl, rfl, rfl⟩ := sm10 hf
    exact r_iret C h hr hlk rfl dX9_best_8
def f_X9_ith (p0 : Int32) (p1 : Int32) (x_this_most : Int32) (x_this_many : Int32) (x_this_few : Int32) (x_this_everHome : Int32) (f_this_bestPlan : Nat → Int32) (f_this_pile : Nat → Int32) (f_this_plan : Nat → Int32) (f_this_s : Nat → Int32) (f_this_saved : Nat → Int32) : Option (Int32 × Int32 × Int32 × Int32 × Int32 × (Nat → Int32) × (Nat → Int32) × (Nat → Int32) × (Nat → Int32) × (Nat → Int32)) := bd1 (f_X9_isPlan p0) (fun r1 => (if r1 = 0 then some ((-1 : Int32), x_this_most, x_this_many, x_this_few, x_this_everHome, f_this_bestPlan, f_this_pile, f_this_plan, f_this_s, f_this_saved) else bd1 (f_X9_in1 p1 (0 : Int32) (3 : Int32)) (fun r4 => (if r4 = 0 then some ((-1 : Int32), x_this_most, x_this_many, x_this_few, x_this_everHome, f_this_bestPlan, f_this_pile, f_this_plan, f_this_s, f_this_saved) else bd9 (f_X9_triesAll p0 (0 : Int32) f_this_bestPlan f_this_pile f_this_plan f_this_s f_this_saved) (fun y7 y8 y9 y10 g11 g12 g13 g14 g15 => bd1 (f_X9_daysOf p0 g14) (fun r17 => (if r17 ≤ p1 then some ((-3 : Int32), y7, y8, y9, y10, g11, g12, g13, g14, g15) else chkI p1 4 (some (g11 p1.toNatClampNeg, y7, y8, y9, y10, g11, g12, g13, g14, g15)))))))))
set_option maxRecDepth 100000 in
set_option maxHeartbeats 4000000 in
theorem c_X9_ith {l : Launch} {G : Gt} {h_this h_this_s h_this_kept h_this_laid h_this_pile h_this_tape h_this_letters h_this_code0 h_this_read h_this_saved h_this_plan h_this_bestPlan h_this_offThen h_this_paidThen h_this_rows h_this_sorts h_this_sizes h_this_number h_this_holds h_this_heldOne h_this_trace : Nat} {p0 : Int32} {p1 : Int32} {x_this_isKept : Int32} {x_this_taped : Int32} {x_this_at : Int32} {x_this_begun : Int32} {x_this_token : Int32} {x_this_value : Int32} {x_this_opened : Int32} {x_this_steps : Int32} {x_this_most : Int32} {x_this_many : Int32} {x_this_few : Int32} {x_this_everHome : Int32} {x_this_firstFit : Int32} {x_this_rowMany : Int32} {x_this_traced : Int32} {x_this_own : Int32} {x_this_isParted : Int32} {f_this_bestPlan : Nat → Int32} {f_this_pile : Nat → Int32} {f_this_plan : Nat → Int32} {f_this_s : Nat → Int32} {f_this_saved : Nat → Int32} {r : Int32} {m_this_most : Int32} {m_this_many : Int32} {m_this_few : Int32} {m_this_everHome : Int32} {m_this_bestPlan : Nat → Int32} {m_this_pile : Nat → Int32} {m_this_plan : Nat → Int32} {m_this_s : Nat → Int32} {m_this_saved : Nat → Int32} (hf : f_X9_ith p0 p1 x_this_most x_this_many x_this_few x_this_everHome f_this_bestPlan f_this_pile f_this_plan f_this_s f_this_saved = some (r, m_this_most, m_this_many, m_this_few, m_this_everHome, m_this_bestPlan, m_this_pile, m_this_plan, m_this_s, m_this_saved)) : mFi l G yX9_ith cX9_ith 3 .int 44 [.ref h_this, .int p0, .int p1] [(h_this, ob 9 [.ref h_this_s, .ref h_this_kept, .ref h_this_laid, .int x_this_isKept, .ref h_this_pile, .ref h_this_tape, .int x_this_taped, .ref h_this_letters, .int x_this_at, .int x_this_begun, .int x_this_token, .int x_this_value, .int x_this_opened, .int x_this_steps, .ref h_this_code0, .ref h_this_read, .ref h_this_saved, .ref h_this_plan, .ref h_this_bestPlan, .int x_this_most, .int x_this_many, .int x_this_few, .int x_this_everHome, .ref h_this_offThen, .ref h_this_paidThen, .int x_this_firstFit, .ref h_this_rows, .int x_this_rowMany, .ref h_this_sorts, .ref h_this_sizes, .ref h_this_number, .ref h_this_holds, .ref h_this_heldOne, .ref h_this_trace, .int x_this_traced, .int x_this_own, .int x_this_isParted]), (h_this_bestPlan, ia G 4 f_this_bestPlan), (h_this_pile, ia G 200 f_this_pile), (h_this_plan, ia G 4 f_this_plan), (h_this_s, ia G 313 f_this_s), (h_this_saved, ia G 325 f_this_saved)] r [(h_this, ob 9 [.ref h_this_s, .ref h_this_kept, .ref h_this_laid, .int x_this_isKept, .ref h_this_pile, .ref h_this_tape, .int x_this_taped, .ref h_this_letters, .int x_this_at, .int x_this_begun, .int x_this_token, .int x_this_value, .int x_this_opened, .int x_this_steps, .ref h_this_code0, .ref h_this_read, .ref h_this_saved, .ref h_this_plan, .ref h_this_bestPlan, .int m_this_most, .int m_this_many, .int m_this_few, .int m_this_everHome, .ref h_this_offThen, .ref h_this_paidThen, .int x_this_firstFit, .ref h_this_rows, .int x_this_rowMany, .ref h_this_sorts, .ref h_this_sizes, .ref h_this_number, .ref h_this_holds, .ref h_this_heldOne, .ref h_this_trace, .int x_this_traced, .int x_this_own, .int x_this_isParted]), (h_this_bestPlan, ia G 4 m_this_bestPlan), (h_this_pile, ia G 200 m_this_pile), (h_this_plan, ia G 4 m_this_plan), (h_this_s, ia G 313 m_this_s), (h_this_saved, ia G 325 m_this_saved)] := by
  refine mFi.of (by decide +kernel) (Nat.le_of_ble_eq_true rfl) ?_
  intro p e s m below meth c A C hr hlk h ls hl
  obtain ⟨hx, hb, hml, hown, hts⟩ := id C
  replace hl : lv_has ls 3 [(0, .ref h_this), (1, .int p0), (2, .int p1)] := hl
  unfold f_X9_ith at hf
  refine lv_iload_n hx hb dX9_ith_0 rfl (lv_at hl 1 rfl) ?_
  replace hf := bd1_inv hf
  obtain ⟨r1, hc2, hf⟩ := hf
  refine r_ciS0 C h (c_X9_isPlan hc2) ms_X9_291 rfl [] rfl rfl hl.1 rfl (Nat.le_of_ble_eq_true rfl) (rok (by decide)) dX9_ith_1 (fun H locs h => ?_)
  refine lv_if_eq (tgt := 16) hx hb dX9_ith_4 rfl (fun c3 => ?_) (fun c3 => ?_)
  · replace hf := ifp c3 hf
    refine lv_iconst (v := (-1 : Int32)) hx hb dX9_ith_16 rfl ?_
    obtain ⟨rfl, rfl, rfl, rfl, rfl, rfl, rfl, rfl, rfl, rfl⟩ := sm10 hf
    exact r_iret C h hr hlk rfl dX9_ith_17
  · replace hf := ifn c3 hf
    refine lv_iload_n hx hb dX9_ith_7 rfl (lv_at hl 2 rfl) ?_
    refine lv_iconst (v := (0 : Int32)) hx hb dX9_ith_8 rfl ?_
    refine lv_iconst (v := (3 : Int32)) hx hb dX9_ith_9 rfl ?_
    replace hf := bd1_inv hf
    obtain ⟨r4, hc5, hf⟩ := hf
    refine r_ciS0 C h (c_X9_in1 hc5) ms_X9_71 rfl [] rfl rfl hl.1 rfl (Nat.le_of_ble_eq_true rfl) (rok (by decide)) dX9_ith_10 (fun H locs h => ?_)
    refine lv_if_ne (tgt := 18) hx hb dX9_ith_13 rfl (fun c6 => ?_) (fun c6 => ?_)
    · replace hf := ifn c6 hf
      refine lv_aload_n hx hb dX9_ith_18 rfl (lv_at hl 0 rfl) ?_
      refine lv_iload_n hx hb dX9_ith_19 rfl (lv_at hl 1 rfl) ?_
      refine lv_iconst (v := (0 : Int32)) hx hb dX9_ith_20 rfl ?_
      replace hf := bd9_inv hf
      obtain ⟨y7, y8, y9, y10, g11, g12, g13, g14, g15, hc16, hf⟩ := hf
      refine r_cvV (ws' := [(h_this, ob 9 [.ref h_this_s, .ref h_this_kept, .ref h_this_laid, .int x_this_isKept, .ref h_this_pile, .ref h_this_tape, .int x_this_taped, .ref h_this_letters, .int x_this_at, .int x_this_begun, .int x_this_token, .int x_this_value, .int x_this_opened, .int x_this_steps, .ref h_this_code0, .ref h_this_read, .ref h_this_saved, .ref h_this_plan, .ref h_this_bestPlan, .int y7, .int y8, .int y9, .int y10, .ref h_this_offThen, .ref h_this_paidThen, .int x_this_firstFit, .ref h_this_rows, .int x_this_rowMany, .ref h_this_sorts, .ref h_this_sizes, .ref h_this_number, .ref h_this_holds, .ref h_this_heldOne, .ref h_this_trace, .int x_this_traced, .int x_this_own, .int x_this_isParted]), (h_this_bestPlan, ia G 4 g11), (h_this_pile, ia G 200 g12), (h_this_plan, ia G 4 g13), (h_this_s, ia G 313 g14), (h_this_saved, ia G 325 g15)]) C h (c_X9_triesAll hc16) mv_X9_294 rfl 0 rfl [0, 1, 2, 3, 4, 5] rfl rfl [0, 1, 2, 3, 4, 5] [(h_this, ob 9 [.ref h_this_s, .ref h_this_kept, .ref h_this_laid, .int x_this_isKept, .ref h_this_pile, .ref h_this_tape, .int x_this_taped, .ref h_this_letters, .int x_this_at, .int x_this_begun, .int x_this_token, .int x_this_value, .int x_this_opened, .int x_this_steps, .ref h_this_code0, .ref h_this_read, .ref h_this_saved, .ref h_this_plan, .ref h_this_bestPlan, .int y7, .int y8, .int y9, .int y10, .ref h_this_offThen, .ref h_this_paidThen, .int x_this_firstFit, .ref h_this_rows, .int x_this_rowMany, .ref h_this_sorts, .ref h_this_sizes, .ref h_this_number, .ref h_this_holds, .ref h_this_heldOne, .ref h_this_trace, .int x_this_traced, .int x_this_own, .int x_this_isParted]), (h_this_bestPlan, ia G 4 g11), (h_this_pile, ia G 200 g12), (h_this_plan, ia G 4 g13), (h_this_s, ia G 313 g14), (h_this_saved, ia G 325 g15)] rfl rfl (by decide +kernel) rfl hl.1 rfl (Nat.le_of_ble_eq_true rfl) (rok (by decide)) dX9_ith_21 (fun H locs h => ?_)
      refine lv_iload_n hx hb dX9_ith_24 rfl (lv_at hl 2 rfl) ?_
      refine lv_aload_n hx hb dX9_ith_25 rfl (lv_at hl 0 rfl) ?_
      refine lv_iload_n hx hb dX9_ith_26 rfl (lv_at hl 1 rfl) ?_
      replace hf := bd1_inv hf
      obtain ⟨r17, hc18, hf⟩ := hf
      refine r_ciV0 C h (c_X9_daysOf hc18) mv_X9_288 rfl 0 rfl [0, 4] rfl rfl hl.1 rfl (Nat.le_of_ble_eq_true rfl) (rok (by decide)) dX9_ith_27 (fun H locs h => ?_)
      refine lv_icmp_ge (tgt := 42) hx hb dX9_ith_30 rfl (fun c19 => ?_) (fun c19 => ?_)
      · replace hf := ifp c19 hf
        refine lv_bipush (v := (-3 : Int32)) hx hb dX9_ith_42 rfl ?_
        obtain ⟨rfl, rfl, rfl, rfl, rfl, rfl, rfl, rfl, rfl, rfl⟩ := sm10 hf
        exact r_iret C h hr hlk rfl dX9_ith_44
      · replace hf := ifn c19 hf
        refine lv_aload_n hx hb dX9_ith_33 rfl (lv_at hl 0 rfl) ?_
        refine r_get C h fk_X9_41 0 rfl rfl dX9_ith_34 ?_
        refine lv_iload_n hx hb dX9_ith_37 rfl (lv_at hl 2 rfl) ?_
        replace hf := chkI_inv hf
        obtain ⟨hi20, hf⟩ := hf
        refine r_iald C h 1 rfl hi20 dX9_ith_38 ?_
        refine lv_goto (tgt := 44) hx hb dX9_ith_39 rfl ?_
        obtain ⟨rfl, rfl, rfl, rfl, rfl, rfl, rfl, rfl, rfl, rfl⟩ := sm10 hf
        exact r_iret C h hr hlk rfl dX9_ith_44
    · replace hf := ifp c6 hf
      refine lv_iconst (v := (-1 : Int32)) hx hb dX9_ith_16 rfl ?_
      obtain ⟨rfl, rfl, rfl, rfl, rfl, rfl, rfl, rfl, rfl, rfl⟩ := sm10 hf
      exact r_iret C h hr hlk rfl dX9_ith_17
def f_X9_ways (p0 : Int32) (x_this_most : Int32) (x_this_many : Int32) (x_this_few : Int32) (x_this_everHome : Int32) (f_this_bestPlan : Nat → Int32) (f_this_pile : Nat → Int32) (f_this_plan : Nat → Int32) (f_this_s : Nat → Int32) (f_this_saved : Nat → Int32) : Option (Int32 × Int32 × Int32 × Int32 × Int32 × (Nat → Int32) × (Nat → Int32) × (Nat → Int32) × (Nat → Int32) × (Nat → Int32)) := bd1 (f_X9_isPlan p0) (fun r1 => (if r1 = 0 then some ((-1 : Int32), x_this_most, x_this_many, x_this_few, x_this_everHome, f_this_bestPlan, f_this_pile, f_this_plan, f_this_s, f_this_saved) else bd9 (f_X9_triesAll p0 (0 : Int32) f_this_bestPlan f_this_pile f_this_plan f_this_s f_this_saved) (fun y4 y5 y6 y7 g8 g9 g10 g11 g12 => some (y5, y4, y5, y6, y7, g8, g9, g10, g11, g12))))
set_option maxRecDepth 100000 in
set_option maxHeartbeats 4000000 in
theorem c_X9_ways {l : Launch} {G : Gt} {h_this h_this_s h_this_kept h_this_laid h_this_pile h_this_tape h_this_letters h_this_code0 h_this_read h_this_saved h_this_plan h_this_bestPlan h_this_offThen h_this_paidThen h_this_rows h_this_sorts h_this_sizes h_this_number h_this_holds h_this_heldOne h_this_trace : Nat} {p0 : Int32} {x_this_isKept : Int32} {x_this_taped : Int32} {x_this_at : Int32} {x_this_begun : Int32} {x_this_token : Int32} {x_this_value : Int32} {x_this_opened : Int32} {x_this_steps : Int32} {x_this_most : Int32} {x_this_many : Int32} {x_this_few : Int32} {x_this_everHome : Int32} {x_this_firstFit : Int32} {x_this_rowMany : Int32} {x_this_traced : Int32} {x_this_own : Int32} {x_this_isParted : Int32} {f_this_bestPlan : Nat → Int32} {f_this_pile : Nat → Int32} {f_this_plan : Nat → Int32} {f_this_s : Nat → Int32} {f_this_saved : Nat → Int32} {r : Int32} {m_this_most : Int32} {m_this_many : Int32} {m_this_few : Int32} {m_this_everHome : Int32} {m_this_bestPlan : Nat → Int32} {m_this_pile : Nat → Int32} {m_this_plan : Nat → Int32} {m_this_s : Nat → Int32} {m_this_saved : Nat → Int32} (hf : f_X9_ways p0 x_this_most x_this_many x_this_few x_this_everHome f_this_bestPlan f_this_pile f_this_plan f_this_s f_this_saved = some (r, m_this_most, m_this_many, m_this_few, m_this_everHome, m_this_bestPlan, m_this_pile, m_this_plan, m_this_s, m_this_saved)) : mFi l G yX9_ways cX9_ways 2 .int 44 [.ref h_this, .int p0] [(h_this, ob 9 [.ref h_this_s, .ref h_this_kept, .ref h_this_laid, .int x_this_isKept, .ref h_this_pile, .ref h_this_tape, .int x_this_taped, .ref h_this_letters, .int x_this_at, .int x_this_begun, .int x_this_token, .int x_this_value, .int x_this_opened, .int x_this_steps, .ref h_this_code0, .ref h_this_read, .ref h_this_saved, .ref h_this_plan, .ref h_this_bestPlan, .int x_this_most, .int x_this_many, .int x_this_few, .int x_this_everHome, .ref h_this_offThen, .ref h_this_paidThen, .int x_this_firstFit, .ref h_this_rows, .int x_this_rowMany, .ref h_this_sorts, .ref h_this_sizes, .ref h_this_number, .ref h_this_holds, .ref h_this_heldOne, .ref h_this_trace, .int x_this_traced, .int x_this_own, .int x_this_isParted]), (h_this_bestPlan, ia G 4 f_this_bestPlan), (h_this_pile, ia G 200 f_this_pile), (h_this_plan, ia G 4 f_this_plan), (h_this_s, ia G 313 f_this_s), (h_this_saved, ia G 325 f_this_saved)] r [(h_this, ob 9 [.ref h_this_s, .ref h_this_kept, .ref h_this_laid, .int x_this_isKept, .ref h_this_pile, .ref h_this_tape, .int x_this_taped, .ref h_this_letters, .int x_this_at, .int x_this_begun, .int x_this_token, .int x_this_value, .int x_this_opened, .int x_this_steps, .ref h_this_code0, .ref h_this_read, .ref h_this_saved, .ref h_this_plan, .ref h_this_bestPlan, .int m_this_most, .int m_this_many, .int m_this_few, .int m_this_everHome, .ref h_this_offThen, .ref h_this_paidThen, .int x_this_firstFit, .ref h_this_rows, .int x_this_rowMany, .ref h_this_sorts, .ref h_this_sizes, .ref h_this_number, .ref h_this_holds, .ref h_this_heldOne, .ref h_this_trace, .int x_this_traced, .int x_this_own, .int x_this_isParted]), (h_this_bestPlan, ia G 4 m_this_bestPlan), (h_this_pile, ia G 200 m_this_pile), (h_this_plan, ia G 4 m_this_plan), (h_this_s, ia G 313 m_this_s), (h_this_saved, ia G 325 m_this_saved)] := by
  refine mFi.of (by decide +kernel) (Nat.le_of_ble_eq_true rfl) ?_
  intro p e s m below meth c A C hr hlk h ls hl
  obtain ⟨hx, hb, hml, hown, hts⟩ := id C
  replace hl : lv_has ls 2 [(0, .ref h_this), (1, .int p0)] := hl
  unfold f_X9_ways at hf
  refine lv_iload_n hx hb dX9_ways_0 rfl (lv_at hl 1 rfl) ?_
  replace hf := bd1_inv hf
  obtain ⟨r1, hc2, hf⟩ := hf
  refine r_ciS0 C h (c_X9_isPlan hc2) ms_X9_291 rfl [] rfl rfl hl.1 rfl (Nat.le_of_ble_eq_true rfl) (rok (by decide)) dX9_ways_1 (fun H locs h => ?_)
  refine lv_if_ne (tgt := 9) hx hb dX9_ways_4 rfl (fun c3 => ?_) (fun c3 => ?_)
  · replace hf := ifn c3 hf
    refine lv_aload_n hx hb dX9_ways_9 rfl (lv_at hl 0 rfl) ?_
    refine lv_iload_n hx hb dX9_ways_10 rfl (lv_at hl 1 rfl) ?_
    refine lv_iconst (v := (0 : Int32)) hx hb dX9_ways_11 rfl ?_
    replace hf := bd9_inv hf
    obtain ⟨y4, y5, y6, y7, g8, g9, g10, g11, g12, hc13, hf⟩ := hf
    refine r_cvV (ws' := [(h_this, ob 9 [.ref h_this_s, .ref h_this_kept, .ref h_this_laid, .int x_this_isKept, .ref h_this_pile, .ref h_this_tape, .int x_this_taped, .ref h_this_letters, .int x_this_at, .int x_this_begun, .int x_this_token, .int x_this_value, .int x_this_opened, .int x_this_steps, .ref h_this_code0, .ref h_this_read, .ref h_this_saved, .ref h_this_plan, .ref h_this_bestPlan, .int y4, .int y5, .int y6, .int y7, .ref h_this_offThen, .ref h_this_paidThen, .int x_this_firstFit, .ref h_this_rows, .int x_this_rowMany, .ref h_this_sorts, .ref h_this_sizes, .ref h_this_number, .ref h_this_holds, .ref h_this_heldOne, .ref h_this_trace, .int x_this_traced, .int x_this_own, .int x_this_isParted]), (h_this_bestPlan, ia G 4 g8), (h_this_pile, ia G 200 g9), (h_this_plan, ia G 4 g10), (h_this_s, ia G 313 g11), (h_this_saved, ia G 325 g12)]) C h (c_X9_triesAll hc13) mv_X9_294 rfl 0 rfl [0, 1, 2, 3, 4, 5] rfl rfl [0, 1, 2, 3, 4, 5] [(h_this, ob 9 [.ref h_this_s, .ref h_this_kept, .ref h_this_laid, .int x_this_isKept, .ref h_this_pile, .ref h_this_tape, .int x_this_taped, .ref h_this_letters, .int x_this_at, .int x_this_begun, .int x_this_token, .int x_this_value, .int x_this_opened, .int x_this_steps, .ref h_this_code0, .ref h_this_read, .ref h_this_saved, .ref h_this_plan, .ref h_this_bestPlan, .int y4, .int y5, .int y6, .int y7, .ref h_this_offThen, .ref h_this_paidThen, .int x_this_firstFit, .ref h_this_rows, .int x_this_rowMany, .ref h_this_sorts, .ref h_this_sizes, .ref h_this_number, .ref h_this_holds, .ref h_this_heldOne, .ref h_this_trace, .int x_this_traced, .int x_this_own, .int x_this_isParted]), (h_this_bestPlan, ia G 4 g8), (h_this_pile, ia G 200 g9), (h_this_plan, ia G 4 g10), (h_this_s, ia G 313 g11), (h_this_saved, ia G 325 g12)] rfl rfl (by decide +kernel) rfl hl.1 rfl (Nat.le_of_ble_eq_true rfl) (rok (by decide)) dX9_ways_12 (fun H locs h => ?_)
    refine lv_aload_n hx hb dX9_ways_15 rfl (lv_at hl 0 rfl) ?_
    refine r_get C h fk_X9_265 0 rfl rfl dX9_ways_16 ?_
    obtain ⟨rfl, rfl, rfl, rfl, rfl, rfl, rfl, rfl, rfl, rfl⟩ := sm10 hf
    exact r_iret C h hr hlk rfl dX9_ways_19
  · replace hf := ifp c3 hf
    refine lv_iconst (v := (-1 : Int32)) hx hb dX9_ways_7 rfl ?_
    obtain ⟨rfl, rfl, rfl, rfl, rfl, rfl, rfl, rfl, rfl, rfl⟩ := sm10 hf
    exact r_iret C h hr hlk rfl dX9_ways_8
def f_X9_isSet (p0 : Int32) (f_this_s : Nat → Int32) : Option (Int32) := bd1 (f_X9_in1 p0 (0 : Int32) (((1 : Int32) <<< ((f_this_s 4) &&& 31)) - (1 : Int32))) (fun r1 => chkB r1 (some r1))
set_option maxRecDepth 100000 in
set_option maxHeartbeats 4000000 in
theorem c_X9_isSet {l : Launch} {G : Gt} {h_this h_this_s h_this_kept h_this_laid h_this_pile h_this_tape h_this_letters h_this_code0 h_this_read h_this_saved h_this_plan h_this_bestPlan h_this_offThen h_this_paidThen h_this_rows h_this_sorts h_this_sizes h_this_number h_this_holds h_this_heldOne h_this_trace : Nat} {p0 : Int32} {x_this_isKept : Int32} {x_this_taped : Int32} {x_this_at : Int32} {x_this_begun : Int32} {x_this_token : Int32} {x_this_value : Int32} {x_this_opened : Int32} {x_this_steps : Int32} {x_this_most : Int32} {x_this_many : Int32} {x_this_few : Int32} {x_this_everHome : Int32} {x_this_firstFit : Int32} {x_this_rowMany : Int32} {x_this_traced : Int32} {x_this_own : Int32} {x_this_isParted : Int32} {f_this_s : Nat → Int32} {r : Int32} (hf : f_X9_isSet p0 f_this_s = some r) : mFi l G yX9_isSet cX9_isSet 2 .boolean 1 [.ref h_this, .int p0] [(h_this, ob 9 [.ref h_this_s, .ref h_this_kept, .ref h_this_laid, .int x_this_isKept, .ref h_this_pile, .ref h_this_tape, .int x_this_taped, .ref h_this_letters, .int x_this_at, .int x_this_begun, .int x_this_token, .int x_this_value, .int x_this_opened, .int x_this_steps, .ref h_this_code0, .ref h_this_read, .ref h_this_saved, .ref h_this_plan, .ref h_this_bestPlan, .int x_this_most, .int x_this_many, .int x_this_few, .int x_this_everHome, .ref h_this_offThen, .ref h_this_paidThen, .int x_this_firstFit, .ref h_this_rows, .int x_this_rowMany, .ref h_this_sorts, .ref h_this_sizes, .ref h_this_number, .ref h_this_holds, .ref h_this_heldOne, .ref h_this_trace, .int x_this_traced, .int x_this_own, .int x_this_isParted]), (h_this_s, ia G 313 f_this_s)] r [(h_this, ob 9 [.ref h_this_s, .ref h_this_kept, .ref h_this_laid, .int x_this_isKept, .ref h_this_pile, .ref h_this_tape, .int x_this_taped, .ref h_this_letters, .int x_this_at, .int x_this_begun, .int x_this_token, .int x_this_value, .int x_this_opened, .int x_this_steps, .ref h_this_code0, .ref h_this_read, .ref h_this_saved, .ref h_this_plan, .ref h_this_bestPlan, .int x_this_most, .int x_this_many, .int x_this_few, .int x_this_everHome, .ref h_this_offThen, .ref h_this_paidThen, .int x_this_firstFit, .ref h_this_rows, .int x_this_rowMany, .ref h_this_sorts, .ref h_this_sizes, .ref h_this_number, .ref h_this_holds, .ref h_this_heldOne, .ref h_this_trace, .int x_this_traced, .int x_this_own, .int x_this_isParted]), (h_this_s, ia G 313 f_this_s)] := by
  refine mFi.of (by decide +kernel) (Nat.le_of_ble_eq_true rfl) ?_
  intro p e s m below meth c A C hr hlk h ls hl
  obtain ⟨hx, hb, hml, hown, hts⟩ := id C
  replace hl : lv_has ls 2 [(0, .ref h_this), (1, .int p0)] := hl
  unfold f_X9_isSet at hf
  refine lv_iload_n hx hb dX9_isSet_0 rfl (lv_at hl 1 rfl) ?_
  refine lv_iconst (v := (0 : Int32)) hx hb dX9_isSet_1 rfl ?_
  refine lv_iconst (v := (1 : Int32)) hx hb dX9_isSet_2 rfl ?_
  refine lv_aload_n hx hb dX9_isSet_3 rfl (lv_at hl 0 rfl) ?_
  refine r_get C h fk_X9_9 0 rfl rfl dX9_isSet_4 ?_
  refine lv_iconst (v := (4 : Int32)) hx hb dX9_isSet_7 rfl ?_
  refine r_ialdL C h 1 rfl (vlit rfl) 4 rfl dX9_isSet_8 ?_
  refine lv_ishl hx hb dX9_isSet_9 ?_
  refine lv_iconst (v := (1 : Int32)) hx hb dX9_isSet_10 rfl ?_
  refine lv_isub hx hb dX9_isSet_11 ?_
  replace hf := bd1_inv hf
  obtain ⟨r1, hc2, hf⟩ := hf
  refine r_ciS0 C h (c_X9_in1 hc2) ms_X9_71 rfl [] rfl rfl hl.1 rfl (Nat.le_of_ble_eq_true rfl) (rok (by decide)) dX9_isSet_12 (fun H locs h => ?_)
  replace hf := chkB_inv hf
  obtain ⟨hb3, hf⟩ := hf
  cases hf
  exact r_iret C h hr hlk hb3 dX9_isSet_15
def f_X9_log (p0 : Int32) (p1 : Int32) (x_this_most : Int32) (x_this_many : Int32) (x_this_few : Int32) (x_this_everHome : Int32) (f_this_bestPlan : Nat → Int32) (f_this_pile : Nat → Int32) (f_this_plan : Nat → Int32) (f_this_s : Nat → Int32) (f_this_saved : Nat → Int32) : Option (Int32 × Int32 × Int32 × Int32 × Int32 × (Nat → Int32) × (Nat → Int32) × (Nat → Int32) × (Nat → Int32) × (Nat → Int32)) := bd1 (f_X9_isPlan p0) (fun r1 => (if r1 = 0 then some ((-1 : Int32), x_this_most, x_this_many, x_this_few, x_this_everHome, f_this_bestPlan, f_this_pile, f_this_plan, f_this_s, f_this_saved) else bd1 (f_X9_isSet p1 f_this_s) (fun r4 => (if r4 = 0 then some ((-1 : Int32), x_this_most, x_this_many, x_this_few, x_this_everHome, f_this_bestPlan, f_this_pile, f_this_plan, f_this_s, f_this_saved) else bd9 (f_X9_triesAll p0 p1 f_this_bestPlan f_this_pile f_this_plan f_this_s f_this_saved) (fun y7 y8 y9 y10 g11 g12 g13 g14 g15 => (if y9 ≤ (4 : Int32) then some (y9, y7, y8, y9, y10, g11, g12, g13, g14, g15) else some ((-3 : Int32), y7, y8, y9, y10, g11, g12, g13, g14, g15)))))))
set_option maxRecDepth 100000 in
set_option maxHeartbeats 4000000 in
theorem c_X9_log {l : Launch} {G : Gt} {h_this h_this_s h_this_kept h_this_laid h_this_pile h_this_tape h_this_letters h_this_code0 h_this_read h_this_saved h_this_plan h_this_bestPlan h_this_offThen h_this_paidThen h_this_rows h_this_sorts h_this_sizes h_this_number h_this_holds h_this_heldOne h_this_trace : Nat} {p0 : Int32} {p1 : Int32} {x_this_isKept : Int32} {x_this_taped : Int32} {x_this_at : Int32} {x_this_begun : Int32} {x_this_token : Int32} {x_this_value : Int32} {x_this_opened : Int32} {x_this_steps : Int32} {x_this_most : Int32} {x_this_many : Int32} {x_this_few : Int32} {x_this_everHome : Int32} {x_this_firstFit : Int32} {x_this_rowMany : Int32} {x_this_traced : Int32} {x_this_own : Int32} {x_this_isParted : Int32} {f_this_bestPlan : Nat → Int32} {f_this_pile : Nat → Int32} {f_this_plan : Nat → Int32} {f_this_s : Nat → Int32} {f_this_saved : Nat → Int32} {r : Int32} {m_this_most : Int32} {m_this_many : Int32} {m_this_few : Int32} {m_this_everHome : Int32} {m_this_bestPlan : Nat → Int32} {m_this_pile : Nat → Int32} {m_this_plan : Nat → Int32} {m_this_s : Nat → Int32} {m_this_saved : Nat → Int32} (hf : f_X9_log p0 p1 x_this_most x_this_many x_this_few x_this_everHome f_this_bestPlan f_this_pile f_this_plan f_this_s f_this_saved = some (r, m_this_most, m_this_many, m_this_few, m_this_everHome, m_this_bestPlan, m_this_pile, m_this_plan, m_this_s, m_this_saved)) : mFi l G yX9_log cX9_log 3 .int 44 [.ref h_this, .int p0, .int p1] [(h_this, ob 9 [.ref h_this_s, .ref h_this_kept, .ref h_this_laid, .int x_this_isKept, .ref h_this_pile, .ref h_this_tape, .int x_this_taped, .ref h_this_letters, .int x_this_at, .int x_this_begun, .int x_this_token, .int x_this_value, .int x_this_opened, .int x_this_steps, .ref h_this_code0, .ref h_this_read, .ref h_this_saved, .ref h_this_plan, .ref h_this_bestPlan, .int x_this_most, .int x_this_many, .int x_this_few, .int x_this_everHome, .ref h_this_offThen, .ref h_this_paidThen, .int x_this_firstFit, .ref h_this_rows, .int x_this_rowMany, .ref h_this_sorts, .ref h_this_sizes, .ref h_this_number, .ref h_this_holds, .ref h_this_heldOne, .ref h_this_trace, .int x_this_traced, .int x_this_own, .int x_this_isParted]), (h_this_bestPlan, ia G 4 f_this_bestPlan), (h_this_pile, ia G 200 f_this_pile), (h_this_plan, ia G 4 f_this_plan), (h_this_s, ia G 313 f_this_s), (h_this_saved, ia G 325 f_this_saved)] r [(h_this, ob 9 [.ref h_this_s, .ref h_this_kept, .ref h_this_laid, .int x_this_isKept, .ref h_this_pile, .ref h_this_tape, .int x_this_taped, .ref h_this_letters, .int x_this_at, .int x_this_begun, .int x_this_token, .int x_this_value, .int x_this_opened, .int x_this_steps, .ref h_this_code0, .ref h_this_read, .ref h_this_saved, .ref h_this_plan, .ref h_this_bestPlan, .int m_this_most, .int m_this_many, .int m_this_few, .int m_this_everHome, .ref h_this_offThen, .ref h_this_paidThen, .int x_this_firstFit, .ref h_this_rows, .int x_this_rowMany, .ref h_this_sorts, .ref h_this_sizes, .ref h_this_number, .ref h_this_holds, .ref h_this_heldOne, .ref h_this_trace, .int x_this_traced, .int x_this_own, .int x_this_isParted]), (h_this_bestPlan, ia G 4 m_this_bestPlan), (h_this_pile, ia G 200 m_this_pile), (h_this_plan, ia G 4 m_this_plan), (h_this_s, ia G 313 m_this_s), (h_this_saved, ia G 325 m_this_saved)] := by
  refine mFi.of (by decide +kernel) (Nat.le_of_ble_eq_true rfl) ?_
  intro p e s m below meth c A C hr hlk h ls hl
  obtain ⟨hx, hb, hml, hown, hts⟩ := id C
  replace hl : lv_has ls 3 [(0, .ref h_this), (1, .int p0), (2, .int p1)] := hl
  unfold f_X9_log at hf
  refine lv_iload_n hx hb dX9_log_0 rfl (lv_at hl 1 rfl) ?_
  replace hf := bd1_inv hf
  obtain ⟨r1, hc2, hf⟩ := hf
  refine r_ciS0 C h (c_X9_isPlan hc2) ms_X9_291 rfl [] rfl rfl hl.1 rfl (Nat.le_of_ble_eq_true rfl) (rok (by decide)) dX9_log_1 (fun H locs h => ?_)
  refine lv_if_eq (tgt := 15) hx hb dX9_log_4 rfl (fun c3 => ?_) (fun c3 => ?_)
  · replace hf := ifp c3 hf
    refine lv_iconst (v := (-1 : Int32)) hx hb dX9_log_15 rfl ?_
    obtain ⟨rfl, rfl, rfl, rfl, rfl, rfl, rfl, rfl, rfl, rfl⟩ := sm10 hf
    exact r_iret C h hr hlk rfl dX9_log_16
  · replace hf := ifn c3 hf
    refine lv_aload_n hx hb dX9_log_7 rfl (lv_at hl 0 rfl) ?_
    refine lv_iload_n hx hb dX9_log_8 rfl (lv_at hl 2 rfl) ?_
    replace hf := bd1_inv hf
    obtain ⟨r4, hc5, hf⟩ := hf
    refine r_ciV0 C h (c_X9_isSet hc5) mv_X9_298 rfl 0 rfl [0, 4] rfl rfl hl.1 rfl (Nat.le_of_ble_eq_true rfl) (rok (by decide)) dX9_log_9 (fun H locs h => ?_)
    refine lv_if_ne (tgt := 17) hx hb dX9_log_12 rfl (fun c6 => ?_) (fun c6 => ?_)
    · replace hf := ifn c6 hf
      refine lv_aload_n hx hb dX9_log_17 rfl (lv_at hl 0 rfl) ?_
      refine lv_iload_n hx hb dX9_log_18 rfl (lv_at hl 1 rfl) ?_
      refine lv_iload_n hx hb dX9_log_19 rfl (lv_at hl 2 rfl) ?_
      replace hf := bd9_inv hf
      obtain ⟨y7, y8, y9, y10, g11, g12, g13, g14, g15, hc16, hf⟩ := hf
      refine r_cvV (ws' := [(h_this, ob 9 [.ref h_this_s, .ref h_this_kept, .ref h_this_laid, .int x_this_isKept, .ref h_this_pile, .ref h_this_tape, .int x_this_taped, .ref h_this_letters, .int x_this_at, .int x_this_begun, .int x_this_token, .int x_this_value, .int x_this_opened, .int x_this_steps, .ref h_this_code0, .ref h_this_read, .ref h_this_saved, .ref h_this_plan, .ref h_this_bestPlan, .int y7, .int y8, .int y9, .int y10, .ref h_this_offThen, .ref h_this_paidThen, .int x_this_firstFit, .ref h_this_rows, .int x_this_rowMany, .ref h_this_sorts, .ref h_this_sizes, .ref h_this_number, .ref h_this_holds, .ref h_this_heldOne, .ref h_this_trace, .int x_this_traced, .int x_this_own, .int x_this_isParted]), (h_this_bestPlan, ia G 4 g11), (h_this_pile, ia G 200 g12), (h_this_plan, ia G 4 g13), (h_this_s, ia G 313 g14), (h_this_saved, ia G 325 g15)]) C h (c_X9_triesAll hc16) mv_X9_294 rfl 0 rfl [0, 1, 2, 3, 4, 5] rfl rfl [0, 1, 2, 3, 4, 5] [(h_this, ob 9 [.ref h_this_s, .ref h_this_kept, .ref h_this_laid, .int x_this_isKept, .ref h_this_pile, .ref h_this_tape, .int x_this_taped, .ref h_this_letters, .int x_this_at, .int x_this_begun, .int x_this_token, .int x_this_value, .int x_this_opened, .int x_this_steps, .ref h_this_code0, .ref h_this_read, .ref h_this_saved, .ref h_this_plan, .ref h_this_bestPlan, .int y7, .int y8, .int y9, .int y10, .ref h_this_offThen, .ref h_this_paidThen, .int x_this_firstFit, .ref h_this_rows, .int x_this_rowMany, .ref h_this_sorts, .ref h_this_sizes, .ref h_this_number, .ref h_this_holds, .ref h_this_heldOne, .ref h_this_trace, .int x_this_traced, .int x_this_own, .int x_this_isParted]), (h_this_bestPlan, ia G 4 g11), (h_this_pile, ia G 200 g12), (h_this_plan, ia G 4 g13), (h_this_s, ia G 313 g14), (h_this_saved, ia G 325 g15)] rfl rfl (by decide +kernel) rfl hl.1 rfl (Nat.le_of_ble_eq_true rfl) (rok (by decide)) dX9_log_20 (fun H locs h => ?_)
      refine lv_aload_n hx hb dX9_log_23 rfl (lv_at hl 0 rfl) ?_
      refine r_get C h fk_X9_268 0 rfl rfl dX9_log_24 ?_
      refine lv_iconst (v := (4 : Int32)) hx hb dX9_log_27 rfl ?_
      refine lv_icmp_le (tgt := 36) hx hb dX9_log_28 rfl (fun c17 => ?_) (fun c17 => ?_)
      · replace hf := ifp c17 hf
        refine lv_aload_n hx hb dX9_log_36 rfl (lv_at hl 0 rfl) ?_
        refine r_get C h fk_X9_268 0 rfl rfl dX9_log_37 ?_
        obtain ⟨rfl, rfl, rfl, rfl, rfl, rfl, rfl, rfl, rfl, rfl⟩ := sm10 hf
        exact r_iret C h hr hlk rfl dX9_log_40
      · replace hf := ifn c17 hf
        refine lv_bipush (v := (-3 : Int32)) hx hb dX9_log_31 rfl ?_
        refine lv_goto (tgt := 40) hx hb dX9_log_33 rfl ?_
        obtain ⟨rfl, rfl, rfl, rfl, rfl, rfl, rfl, rfl, rfl, rfl⟩ := sm10 hf
        exact r_iret C h hr hlk rfl dX9_log_40
    · replace hf := ifp c6 hf
      refine lv_iconst (v := (-1 : Int32)) hx hb dX9_log_15 rfl ?_
      obtain ⟨rfl, rfl, rfl, rfl, rfl, rfl, rfl, rfl, rfl, rfl⟩ := sm10 hf
      exact r_iret C h hr hlk rfl dX9_log_16
def f_X9_bars_b61 (v4 : Int32) (y_this_most : Int32) (y_this_many : Int32) (y_this_few : Int32) (y_this_everHome : Int32) (g_this_bestPlan : Nat → Int32) (g_this_pile : Nat → Int32) (g_this_plan : Nat → Int32) (g_this_s : Nat → Int32) (g_this_saved : Nat → Int32) : Option (Int32 × Int32 × Int32 × Int32 × Int32 × (Nat → Int32) × (Nat → Int32) × (Nat → Int32) × (Nat → Int32) × (Nat → Int32)) := (if (g_this_s 4) ≤ v4 then some ((-3 : Int32), y_this_most, y_this_many, y_this_few, y_this_everHome, g_this_bestPlan, g_this_pile, g_this_plan, g_this_s, g_this_saved) else some (v4, y_this_most, y_this_many, y_this_few, y_this_everHome, g_this_bestPlan, g_this_pile, g_this_plan, g_this_s, g_this_saved))
def f_X9_bars_L35 : Nat → Int32 → Int32 → Int32 → Int32 → Int32 → Int32 → (Nat → Int32) → (Nat → Int32) → (Nat → Int32) → (Nat → Int32) → (Nat → Int32) → Option (Int32 × Int32 × Int32 × Int32 × Int32 × (Nat → Int32) × (Nat → Int32) × (Nat → Int32) × (Nat → Int32) × (Nat → Int32))
  | 0, _, _, _, _, _, _, _, _, _, _, _ => none
  | n + 1, v3, v4, y_this_most, y_this_many, y_this_few, y_this_everHome, g_this_bestPlan, g_this_pile, g_this_plan, g_this_s, g_this_saved => (if (g_this_s 4) ≤ v4 then f_X9_bars_b61 v4 y_this_most y_this_many y_this_few y_this_everHome g_this_bestPlan g_this_pile g_this_plan g_this_s g_this_saved else (if ((v3 >>> (v4 &&& 31)) &&& (1 : Int32)) = 0 then lt1 (v4 + (1 : Int32)) (fun (t21 : Int32) => (f_X9_bars_L35 n) v3 t21 y_this_most y_this_many y_this_few y_this_everHome g_this_bestPlan g_this_pile g_this_plan g_this_s g_this_saved) else f_X9_bars_b61 v4 y_this_most y_this_many y_this_few y_this_everHome g_this_bestPlan g_this_pile g_this_plan g_this_s g_this_saved))
def f_X9_bars (p0 : Int32) (p1 : Int32) (x_this_most : Int32) (x_this_many : Int32) (x_this_few : Int32) (x_this_everHome : Int32) (f_this_bestPlan : Nat → Int32) (f_this_pile : Nat → Int32) (f_this_plan : Nat → Int32) (f_this_s : Nat → Int32) (f_this_saved : Nat → Int32) : Option (Int32 × Int32 × Int32 × Int32 × Int32 × (Nat → Int32) × (Nat → Int32) × (Nat → Int32) × (Nat → Int32) × (Nat → Int32)) := bd1 (f_X9_isPlan p0) (fun r1 => (if r1 = 0 then some ((-1 : Int32), x_this_most, x_this_many, x_this_few, x_this_everHome, f_this_bestPlan, f_this_pile, f_this_plan, f_this_s, f_this_saved) else bd1 (f_X9_isSet p1 f_this_s) (fun r4 => (if r4 = 0 then some ((-1 : Int32), x_this_most, x_this_many, x_this_few, x_this_everHome, f_this_bestPlan, f_this_pile, f_this_plan, f_this_s, f_this_saved) else bd9 (f_X9_triesAll p0 p1 f_this_bestPlan f_this_pile f_this_plan f_this_s f_this_saved) (fun y7 y8 y9 y10 g11 g12 g13 g14 g15 => lt1 (p1 &&& (y10 ^^^ (-1 : Int32))) (fun (t17 : Int32) => f_X9_bars_L35 1000 t17 (0 : Int32) y7 y8 y9 y10 g11 g12 g13 g14 g15))))))
set_option maxRecDepth 100000 in
set_option maxHeartbeats 4000000 in
theorem c_X9_bars {l : Launch} {G : Gt} {h_this h_this_s h_this_kept h_this_laid h_this_pile h_this_tape h_this_letters h_this_code0 h_this_read h_this_saved h_this_plan h_this_bestPlan h_this_offThen h_this_paidThen h_this_rows h_this_sorts h_this_sizes h_this_number h_this_holds h_this_heldOne h_this_trace : Nat} {p0 : Int32} {p1 : Int32} {x_this_isKept : Int32} {x_this_taped : Int32} {x_this_at : Int32} {x_this_begun : Int32} {x_this_token : Int32} {x_this_value : Int32} {x_this_opened : Int32} {x_this_steps : Int32} {x_this_most : Int32} {x_this_many : Int32} {x_this_few : Int32} {x_this_everHome : Int32} {x_this_firstFit : Int32} {x_this_rowMany : Int32} {x_this_traced : Int32} {x_this_own : Int32} {x_this_isParted : Int32} {f_this_bestPlan : Nat → Int32} {f_this_pile : Nat → Int32} {f_this_plan : Nat → Int32} {f_this_s : Nat → Int32} {f_this_saved : Nat → Int32} {r : Int32} {m_this_most : Int32} {m_this_many : Int32} {m_this_few : Int32} {m_this_everHome : Int32} {m_this_bestPlan : Nat → Int32} {m_this_pile : Nat → Int32} {m_this_plan : Nat → Int32} {m_this_s : Nat → Int32} {m_this_saved : Nat → Int32} (hf : f_X9_bars p0 p1 x_this_most x_this_many x_this_few x_this_everHome f_this_bestPlan f_this_pile f_this_plan f_this_s f_this_saved = some (r, m_this_most, m_this_many, m_this_few, m_this_everHome, m_this_bestPlan, m_this_pile, m_this_plan, m_this_s, m_this_saved)) : mFi l G yX9_bars cX9_bars 5 .int 44 [.ref h_this, .int p0, .int p1] [(h_this, ob 9 [.ref h_this_s, .ref h_this_kept, .ref h_this_laid, .int x_this_isKept, .ref h_this_pile, .ref h_this_tape, .int x_this_taped, .ref h_this_letters, .int x_this_at, .int x_this_begun, .int x_this_token, .int x_this_value, .int x_this_opened, .int x_this_steps, .ref h_this_code0, .ref h_this_read, .ref h_this_saved, .ref h_this_plan, .ref h_this_bestPlan, .int x_this_most, .int x_this_many, .int x_this_few, .int x_this_everHome, .ref h_this_offThen, .ref h_this_paidThen, .int x_this_firstFit, .ref h_this_rows, .int x_this_rowMany, .ref h_this_sorts, .ref h_this_sizes, .ref h_this_number, .ref h_this_holds, .ref h_this_heldOne, .ref h_this_trace, .int x_this_traced, .int x_this_own, .int x_this_isParted]), (h_this_bestPlan, ia G 4 f_this_bestPlan), (h_this_pile, ia G 200 f_this_pile), (h_this_plan, ia G 4 f_this_plan), (h_this_s, ia G 313 f_this_s), (h_this_saved, ia G 325 f_this_saved)] r [(h_this, ob 9 [.ref h_this_s, .ref h_this_kept, .ref h_this_laid, .int x_this_isKept, .ref h_this_pile, .ref h_this_tape, .int x_this_taped, .ref h_this_letters, .int x_this_at, .int x_this_begun, .int x_this_token, .int x_this_value, .int x_this_opened, .int x_this_steps, .ref h_this_code0, .ref h_this_read, .ref h_this_saved, .ref h_this_plan, .ref h_this_bestPlan, .int m_this_most, .int m_this_many, .int m_this_few, .int m_this_everHome, .ref h_this_offThen, .ref h_this_paidThen, .int x_this_firstFit, .ref h_this_rows, .int x_this_rowMany, .ref h_this_sorts, .ref h_this_sizes, .ref h_this_number, .ref h_this_holds, .ref h_this_heldOne, .ref h_this_trace, .int x_this_traced, .int x_this_own, .int x_this_isParted]), (h_this_bestPlan, ia G 4 m_this_bestPlan), (h_this_pile, ia G 200 m_this_pile), (h_this_plan, ia G 4 m_this_plan), (h_this_s, ia G 313 m_this_s), (h_this_saved, ia G 325 m_this_saved)] := by
  refine mFi.of (by decide +kernel) (Nat.le_of_ble_eq_true rfl) ?_
  intro p e s m below meth c A C hr hlk h ls hl
  obtain ⟨hx, hb, hml, hown, hts⟩ := id C
  replace hl : lv_has ls 5 [(0, .ref h_this), (1, .int p0), (2, .int p1)] := hl
  unfold f_X9_bars at hf
  refine with_K G A 5 (fun K hK1 hK2 => ?_)
  have B61 : ∀ (v4 : Int32) (y_this_most : Int32) (y_this_many : Int32) (y_this_few : Int32) (y_this_everHome : Int32) (g_this_bestPlan : Nat → Int32) (g_this_pile : Nat → Int32) (g_this_plan : Nat → Int32) (g_this_s : Nat → Int32) (g_this_saved : Nat → Int32), f_X9_bars_b61 v4 y_this_most y_this_many y_this_few y_this_everHome g_this_bestPlan g_this_pile g_this_plan g_this_s g_this_saved = some (r, m_this_most, m_this_many, m_this_few, m_this_everHome, m_this_bestPlan, m_this_pile, m_this_plan, m_this_s, m_this_saved) → K 61 ([] : List Value) [(h_this, ob 9 [.ref h_this_s, .ref h_this_kept, .ref h_this_laid, .int x_this_isKept, .ref h_this_pile, .ref h_this_tape, .int x_this_taped, .ref h_this_letters, .int x_this_at, .int x_this_begun, .int x_this_token, .int x_this_value, .int x_this_opened, .int x_this_steps, .ref h_this_code0, .ref h_this_read, .ref h_this_saved, .ref h_this_plan, .ref h_this_bestPlan, .int y_this_most, .int y_this_many, .int y_this_few, .int y_this_everHome, .ref h_this_offThen, .ref h_this_paidThen, .int x_this_firstFit, .ref h_this_rows, .int x_this_rowMany, .ref h_this_sorts, .ref h_this_sizes, .ref h_this_number, .ref h_this_holds, .ref h_this_heldOne, .ref h_this_trace, .int x_this_traced, .int x_this_own, .int x_this_isParted]), (h_this_bestPlan, ia G 4 g_this_bestPlan), (h_this_pile, ia G 200 g_this_pile), (h_this_plan, ia G 4 g_this_plan), (h_this_s, ia G 313 g_this_s), (h_this_saved, ia G 325 g_this_saved)] [(0, .ref h_this), (4, .int v4)] := by
    intro v4 y_this_most y_this_many y_this_few y_this_everHome g_this_bestPlan g_this_pile g_this_plan g_this_s g_this_saved hf
    unfold f_X9_bars_b61 at hf
    refine hK1 _ _ _ _ (fun H locs ls h hl => ?_)
    refine lv_iload hx hb dX9_bars_61 (lv_at hl 1 rfl) ?_
    refine lv_aload_n hx hb dX9_bars_63 rfl (lv_at hl 0 rfl) ?_
    refine r_get C h fk_X9_9 0 rfl rfl dX9_bars_64 ?_
    refine lv_iconst (v := (4 : Int32)) hx hb dX9_bars_67 rfl ?_
    refine r_ialdL C h 4 rfl (vlit rfl) 4 rfl dX9_bars_68 ?_
    refine lv_icmp_ge (tgt := 77) hx hb dX9_bars_69 rfl (fun c19 => ?_) (fun c19 => ?_)
    · replace hf := ifp c19 hf
      refine lv_bipush (v := (-3 : Int32)) hx hb dX9_bars_77 rfl ?_
      obtain ⟨rfl, rfl, rfl, rfl, rfl, rfl, rfl, rfl, rfl, rfl⟩ := sm10 hf
      exact r_iret C h hr hlk rfl dX9_bars_79
    · replace hf := ifn c19 hf
      refine lv_iload hx hb dX9_bars_72 (lv_at hl 1 rfl) ?_
      refine lv_goto (tgt := 79) hx hb dX9_bars_74 rfl ?_
      obtain ⟨rfl, rfl, rfl, rfl, rfl, rfl, rfl, rfl, rfl, rfl⟩ := sm10 hf
      exact r_iret C h hr hlk rfl dX9_bars_79
  have L35 : ∀ (n : Nat) (v3 : Int32) (v4 : Int32) (y_this_most : Int32) (y_this_many : Int32) (y_this_few : Int32) (y_this_everHome : Int32) (g_this_bestPlan : Nat → Int32) (g_this_pile : Nat → Int32) (g_this_plan : Nat → Int32) (g_this_s : Nat → Int32) (g_this_saved : Nat → Int32), f_X9_bars_L35 n v3 v4 y_this_most y_this_many y_this_few y_this_everHome g_this_bestPlan g_this_pile g_this_plan g_this_s g_this_saved = some (r, m_this_most, m_this_many, m_this_few, m_this_everHome, m_this_bestPlan, m_this_pile, m_this_plan, m_this_s, m_this_saved) → K 35 ([] : List Value) [(h_this, ob 9 [.ref h_this_s, .ref h_this_kept, .ref h_this_laid, .int x_this_isKept, .ref h_this_pile, .ref h_this_tape, .int x_this_taped, .ref h_this_letters, .int x_this_at, .int x_this_begun, .int x_this_token, .int x_this_value, .int x_this_opened, .int x_this_steps, .ref h_this_code0, .ref h_this_read, .ref h_this_saved, .ref h_this_plan, .ref h_this_bestPlan, .int y_this_most, .int y_this_many, .int y_this_few, .int y_this_everHome, .ref h_this_offThen, .ref h_this_paidThen, .int x_this_firstFit, .ref h_this_rows, .int x_this_rowMany, .ref h_this_sorts, .ref h_this_sizes, .ref h_this_number, .ref h_this_holds, .ref h_this_heldOne, .ref h_this_trace, .int x_this_traced, .int x_this_own, .int x_this_isParted]), (h_this_bestPlan, ia G 4 g_this_bestPlan), (h_this_pile, ia G 200 g_this_pile), (h_this_plan, ia G 4 g_this_plan), (h_this_s, ia G 313 g_this_s), (h_this_saved, ia G 325 g_this_saved)] [(0, .ref h_this), (3, .int v3), (4, .int v4)] := by
    intro n
    induction n with
    | zero =>
      intro v3 v4 y_this_most y_this_many y_this_few y_this_everHome g_this_bestPlan g_this_pile g_this_plan g_this_s g_this_saved hf
      replace hf : (none : Option _) = some _ := hf
      cases hf
    | succ n ih =>
      intro v3 v4 y_this_most y_this_many y_this_few y_this_everHome g_this_bestPlan g_this_pile g_this_plan g_this_s g_this_saved hf
      rw [f_X9_bars_L35] at hf
      refine hK1 _ _ _ _ (fun H locs ls h hl => ?_)
      refine lv_iload hx hb dX9_bars_35 (lv_at hl 2 rfl) ?_
      refine lv_aload_n hx hb dX9_bars_37 rfl (lv_at hl 0 rfl) ?_
      refine r_get C h fk_X9_9 0 rfl rfl dX9_bars_38 ?_
      refine lv_iconst (v := (4 : Int32)) hx hb dX9_bars_41 rfl ?_
      refine r_ialdL C h 4 rfl (vlit rfl) 4 rfl dX9_bars_42 ?_
      refine lv_icmp_ge (tgt := 61) hx hb dX9_bars_43 rfl (fun c18 => ?_) (fun c18 => ?_)
      · replace hf := ifp c18 hf
        exact hK2 _ _ _ _ (B61 v4 y_this_most y_this_many y_this_few y_this_everHome g_this_bestPlan g_this_pile g_this_plan g_this_s g_this_saved hf) _ _ _ h (lv_sub hl [0, 2] rfl)
      · replace hf := ifn c18 hf
        refine lv_iload_n hx hb dX9_bars_46 rfl (lv_at hl 1 rfl) ?_
        refine lv_iload hx hb dX9_bars_47 (lv_at hl 2 rfl) ?_
        refine lv_ishr hx hb dX9_bars_49 ?_
        refine lv_iconst (v := (1 : Int32)) hx hb dX9_bars_50 rfl ?_
        refine lv_iand hx hb dX9_bars_51 ?_
        refine lv_if_ne (tgt := 61) hx hb dX9_bars_52 rfl (fun c20 => ?_) (fun c20 => ?_)
        · replace hf := ifn c20 hf
          exact hK2 _ _ _ _ (B61 v4 y_this_most y_this_many y_this_few y_this_everHome g_this_bestPlan g_this_pile g_this_plan g_this_s g_this_saved hf) _ _ _ h (lv_sub hl [0, 2] rfl)
        · replace hf := ifp c20 hf
          obtain ⟨t21, et21⟩ : ∃ y : Int32, y = v4 + (1 : Int32) := ⟨_, rfl⟩
          replace hf := lt1_inv et21 hf
          refine lv_iinc (v := t21) (lv' := [(4, .int t21), (0, .ref h_this), (3, .int v3)]) hx hb dX9_bars_55 hl (k := 2) rfl (by rw [et21]; rfl) (by decide) rfl (fun ls hl => ?_)
          refine lv_goto (tgt := 35) hx hb dX9_bars_58 rfl ?_
          exact hK2 _ _ _ _ (ih v3 t21 y_this_most y_this_many y_this_few y_this_everHome g_this_bestPlan g_this_pile g_this_plan g_this_s g_this_saved hf) _ _ _ h (lv_sub hl [1, 2, 0] rfl)
  refine lv_iload_n hx hb dX9_bars_0 rfl (lv_at hl 1 rfl) ?_
  replace hf := bd1_inv hf
  obtain ⟨r1, hc2, hf⟩ := hf
  refine r_ciS0 C h (c_X9_isPlan hc2) ms_X9_291 rfl [] rfl rfl hl.1 rfl (Nat.le_of_ble_eq_true rfl) (rok (by decide)) dX9_bars_1 (fun H locs h => ?_)
  refine lv_if_eq (tgt := 15) hx hb dX9_bars_4 rfl (fun c3 => ?_) (fun c3 => ?_)
  · replace hf := ifp c3 hf
    refine lv_iconst (v := (-1 : Int32)) hx hb dX9_bars_15 rfl ?_
    obtain ⟨rfl, rfl, rfl, rfl, rfl, rfl, rfl, rfl, rfl, rfl⟩ := sm10 hf
    exact r_iret C h hr hlk rfl dX9_bars_16
  · replace hf := ifn c3 hf
    refine lv_aload_n hx hb dX9_bars_7 rfl (lv_at hl 0 rfl) ?_
    refine lv_iload_n hx hb dX9_bars_8 rfl (lv_at hl 2 rfl) ?_
    replace hf := bd1_inv hf
    obtain ⟨r4, hc5, hf⟩ := hf
    refine r_ciV0 C h (c_X9_isSet hc5) mv_X9_298 rfl 0 rfl [0, 4] rfl rfl hl.1 rfl (Nat.le_of_ble_eq_true rfl) (rok (by decide)) dX9_bars_9 (fun H locs h => ?_)
    refine lv_if_ne (tgt := 17) hx hb dX9_bars_12 rfl (fun c6 => ?_) (fun c6 => ?_)
    · replace hf := ifn c6 hf
      refine lv_aload_n hx hb dX9_bars_17 rfl (lv_at hl 0 rfl) ?_
      refine lv_iload_n hx hb dX9_bars_18 rfl (lv_at hl 1 rfl) ?_
      refine lv_iload_n hx hb dX9_bars_19 rfl (lv_at hl 2 rfl) ?_
      replace hf := bd9_inv hf
      obtain ⟨y7, y8, y9, y10, g11, g12, g13, g14, g15, hc16, hf⟩ := hf
      refine r_cvV (ws' := [(h_this, ob 9 [.ref h_this_s, .ref h_this_kept, .ref h_this_laid, .int x_this_isKept, .ref h_this_pile, .ref h_this_tape, .int x_this_taped, .ref h_this_letters, .int x_this_at, .int x_this_begun, .int x_this_token, .int x_this_value, .int x_this_opened, .int x_this_steps, .ref h_this_code0, .ref h_this_read, .ref h_this_saved, .ref h_this_plan, .ref h_this_bestPlan, .int y7, .int y8, .int y9, .int y10, .ref h_this_offThen, .ref h_this_paidThen, .int x_this_firstFit, .ref h_this_rows, .int x_this_rowMany, .ref h_this_sorts, .ref h_this_sizes, .ref h_this_number, .ref h_this_holds, .ref h_this_heldOne, .ref h_this_trace, .int x_this_traced, .int x_this_own, .int x_this_isParted]), (h_this_bestPlan, ia G 4 g11), (h_this_pile, ia G 200 g12), (h_this_plan, ia G 4 g13), (h_this_s, ia G 313 g14), (h_this_saved, ia G 325 g15)]) C h (c_X9_triesAll hc16) mv_X9_294 rfl 0 rfl [0, 1, 2, 3, 4, 5] rfl rfl [0, 1, 2, 3, 4, 5] [(h_this, ob 9 [.ref h_this_s, .ref h_this_kept, .ref h_this_laid, .int x_this_isKept, .ref h_this_pile, .ref h_this_tape, .int x_this_taped, .ref h_this_letters, .int x_this_at, .int x_this_begun, .int x_this_token, .int x_this_value, .int x_this_opened, .int x_this_steps, .ref h_this_code0, .ref h_this_read, .ref h_this_saved, .ref h_this_plan, .ref h_this_bestPlan, .int y7, .int y8, .int y9, .int y10, .ref h_this_offThen, .ref h_this_paidThen, .int x_this_firstFit, .ref h_this_rows, .int x_this_rowMany, .ref h_this_sorts, .ref h_this_sizes, .ref h_this_number, .ref h_this_holds, .ref h_this_heldOne, .ref h_this_trace, .int x_this_traced, .int x_this_own, .int x_this_isParted]), (h_this_bestPlan, ia G 4 g11), (h_this_pile, ia G 200 g12), (h_this_plan, ia G 4 g13), (h_this_s, ia G 313 g14), (h_this_saved, ia G 325 g15)] rfl rfl (by decide +kernel) rfl hl.1 rfl (Nat.le_of_ble_eq_true rfl) (rok (by decide)) dX9_bars_20 (fun H locs h => ?_)
      refine lv_iload_n hx hb dX9_bars_23 rfl (lv_at hl 2 rfl) ?_
      refine lv_aload_n hx hb dX9_bars_24 rfl (lv_at hl 0 rfl) ?_
      refine r_get C h fk_X9_271 0 rfl rfl dX9_bars_25 ?_
      refine lv_iconst (v := (-1 : Int32)) hx hb dX9_bars_28 rfl ?_
      refine lv_ixor hx hb dX9_bars_29 ?_
      refine lv_iand hx hb dX9_bars_30 ?_
      refine lv_topi (fun t17 et17 => ?_)
      replace hf := lt1_inv et17 hf
      refine lv_istore_n (lv' := [(3, .int t17), (0, .ref h_this), (1, .int p0), (2, .int p1)]) hx hb dX9_bars_31 rfl hl (by decide) rfl (fun ls hl => ?_)
      refine lv_iconst (v := (0 : Int32)) hx hb dX9_bars_32 rfl ?_
      refine lv_istore (lv' := [(4, .int (0 : Int32)), (3, .int t17), (0, .ref h_this), (1, .int p0), (2, .int p1)]) hx hb dX9_bars_33 hl (by decide) rfl (fun ls hl => ?_)
      exact hK2 _ _ _ _ (L35 1000 t17 (0 : Int32) y7 y8 y9 y10 g11 g12 g13 g14 g15 hf) _ _ _ h (lv_sub hl [2, 1, 0] rfl)
    · replace hf := ifp c6 hf
      refine lv_iconst (v := (-1 : Int32)) hx hb dX9_bars_15 rfl ?_
      obtain ⟨rfl, rfl, rfl, rfl, rfl, rfl, rfl, rfl, rfl, rfl⟩ := sm10 hf
      exact r_iret C h hr hlk rfl dX9_bars_16
