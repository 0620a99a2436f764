def f_X9_isSo_b43 (f_this_s : Nat → Int32) (v2 : Int32) (s0 : Int32) : Option (Int32) := chkI (v2 + (2 : Int32)) 313 (chkI (v2 + (3 : Int32)) 313 (bd1 (f_X9_in1 s0 (f_this_s (v2 + (2 : Int32)).toNatClampNeg) (f_this_s (v2 + (3 : Int32)).toNatClampNeg)) (fun r8 => chkB r8 (some r8))))
def f_X9_isSo (p0 : Int32) (f_this_offThen : Nat → Int32) (f_this_paidThen : Nat → Int32) (f_this_s : Nat → Int32) : Option (Int32) := lt1 ((65 : Int32) + ((4 : Int32) * p0)) (fun (t1 : Int32) => chkI (t1 + (1 : Int32)) 313 ((if (f_this_s (t1 + (1 : Int32)).toNatClampNeg) = 0 then chkI t1 313 (chkI (f_this_s t1.toNatClampNeg) 16 (f_X9_isSo_b43 f_this_s t1 (f_this_offThen (f_this_s t1.toNatClampNeg).toNatClampNeg))) else chkI t1 313 (chkI (f_this_s t1.toNatClampNeg) 16 (f_X9_isSo_b43 f_this_s t1 (f_this_paidThen (f_this_s t1.toNatClampNeg).toNatClampNeg))))))
set_option maxRecDepth 100000 in
set_option maxHeartbeats 4000000 in
theorem c_X9_isSo {l : Launch} {G : Gt} {h_this h_this_s h_this_kept h_this_laid h_this_pile h_this_tape h_this_letters h_this_code0 h_this_read h_this_saved h_this_plan h_this_bestPlan h_this_offThen h_this_paidThen h_this_rows h_this_sorts h_this_sizes h_this_number h_this_holds h_this_heldOne h_this_trace : Nat} {p0 : Int32} {x_this_isKept : Int32} {x_this_taped : Int32} {x_this_at : Int32} {x_this_begun : Int32} {x_this_token : Int32} {x_this_value : Int32} {x_this_opened : Int32} {x_this_steps : Int32} {x_this_most : Int32} {x_this_many : Int32} {x_this_few : Int32} {x_this_everHome : Int32} {x_this_firstFit : Int32} {x_this_rowMany : Int32} {x_this_traced : Int32} {x_this_own : Int32} {x_this_isParted : Int32} {f_this_offThen : Nat → Int32} {f_this_paidThen : Nat → Int32} {f_this_s : Nat → Int32} {r : Int32} (hf : f_X9_isSo p0 f_this_offThen f_this_paidThen f_this_s = some r) : mFi l G yX9_isSo cX9_isSo 3 .boolean 1 [.ref h_this, .int p0] [(h_this, ob 9 [.ref h_this_s, .ref h_this_kept, .ref h_this_laid, .int x_this_isKept, .ref h_this_pile, .ref h_this_tape, .int x_this_taped, .ref h_this_letters, .int x_this_at, .int x_this_begun, .int x_this_token, .int x_this_value, .int x_this_opened, .int x_this_steps, .ref h_this_code0, .ref h_this_read, .ref h_this_saved, .ref h_this_plan, .ref h_this_bestPlan, .int x_this_most, .int x_this_many, .int x_this_few, .int x_this_everHome, .ref h_this_offThen, .ref h_this_paidThen, .int x_this_firstFit, .ref h_this_rows, .int x_this_rowMany, .ref h_this_sorts, .ref h_this_sizes, .ref h_this_number, .ref h_this_holds, .ref h_this_heldOne, .ref h_this_trace, .int x_this_traced, .int x_this_own, .int x_this_isParted]), (h_this_offThen, ia G 16 f_this_offThen), (h_this_paidThen, ia G 16 f_this_paidThen), (h_this_s, ia G 313 f_this_s)] r [(h_this, ob 9 [.ref h_this_s, .ref h_this_kept, .ref h_this_laid, .int x_this_isKept, .ref h_this_pile, .ref h_this_tape, .int x_this_taped, .ref h_this_letters, .int x_this_at, .int x_this_begun, .int x_this_token, .int x_this_value, .int x_this_opened, .int x_this_steps, .ref h_this_code0, .ref h_this_read, .ref h_this_saved, .ref h_this_plan, .ref h_this_bestPlan, .int x_this_most, .int x_this_many, .int x_this_few, .int x_this_everHome, .ref h_this_offThen, .ref h_this_paidThen, .int x_this_firstFit, .ref h_this_rows, .int x_this_rowMany, .ref h_this_sorts, .ref h_this_sizes, .ref h_this_number, .ref h_this_holds, .ref h_this_heldOne, .ref h_this_trace, .int x_this_traced, .int x_this_own, .int x_this_isParted]), (h_this_offThen, ia G 16 f_this_offThen), (h_this_paidThen, ia G 16 f_this_paidThen), (h_this_s, ia G 313 f_this_s)] := by
  refine mFi.of (by decide +kernel) (Nat.le_of_ble_eq_true rfl) ?_
  intro p e s m below meth c A C hr hlk h ls hl
  obtain ⟨hx, hb, hml, hown, hts⟩ := id C
  replace hl : lv_has ls 3 [(0, .ref h_this), (1, .int p0)] := hl
  unfold f_X9_isSo at hf
  refine with_K G A 3 (fun K hK1 hK2 => ?_)
  have B43 : ∀ (v2 : Int32) (s0 : Int32), f_X9_isSo_b43 f_this_s v2 s0 = some r → K 43 [.int s0] [(h_this, ob 9 [.ref h_this_s, .ref h_this_kept, .ref h_this_laid, .int x_this_isKept, .ref h_this_pile, .ref h_this_tape, .int x_this_taped, .ref h_this_letters, .int x_this_at, .int x_this_begun, .int x_this_token, .int x_this_value, .int x_this_opened, .int x_this_steps, .ref h_this_code0, .ref h_this_read, .ref h_this_saved, .ref h_this_plan, .ref h_this_bestPlan, .int x_this_most, .int x_this_many, .int x_this_few, .int x_this_everHome, .ref h_this_offThen, .ref h_this_paidThen, .int x_this_firstFit, .ref h_this_rows, .int x_this_rowMany, .ref h_this_sorts, .ref h_this_sizes, .ref h_this_number, .ref h_this_holds, .ref h_this_heldOne, .ref h_this_trace, .int x_this_traced, .int x_this_own, .int x_this_isParted]), (h_this_offThen, ia G 16 f_this_offThen), (h_this_paidThen, ia G 16 f_this_paidThen), (h_this_s, ia G 313 f_this_s)] [(0, .ref h_this), (2, .int v2)] := by
    intro v2 s0 hf
    unfold f_X9_isSo_b43 at hf
    refine hK1 _ _ _ _ (fun H locs ls h hl => ?_)
    refine lv_aload_n hx hb dX9_isSo_43 rfl (lv_at hl 0 rfl) ?_
    refine r_get C h fk_X9_9 0 rfl rfl dX9_isSo_44 ?_
    refine lv_iload_n hx hb dX9_isSo_47 rfl (lv_at hl 1 rfl) ?_
    refine lv_iconst (v := (2 : Int32)) hx hb dX9_isSo_48 rfl ?_
    refine lv_iadd hx hb dX9_isSo_49 ?_
    replace hf := chkI_inv hf
    obtain ⟨hi6, hf⟩ := hf
    refine r_iald C h 3 rfl hi6 dX9_isSo_50 ?_
    refine lv_aload_n hx hb dX9_isSo_51 rfl (lv_at hl 0 rfl) ?_
    refine r_get C h fk_X9_9 0 rfl rfl dX9_isSo_52 ?_
    refine lv_iload_n hx hb dX9_isSo_55 rfl (lv_at hl 1 rfl) ?_
    refine lv_iconst (v := (3 : Int32)) hx hb dX9_isSo_56 rfl ?_
    refine lv_iadd hx hb dX9_isSo_57 ?_
    replace hf := chkI_inv hf
    obtain ⟨hi7, hf⟩ := hf
    refine r_iald C h 3 rfl hi7 dX9_isSo_58 ?_
    replace hf := bd1_inv hf
    obtain ⟨r8, hc9, hf⟩ := hf
    refine r_ciS0 C h (c_X9_in1 hc9) ms_X9_71 rfl [] rfl rfl hl.1 rfl (Nat.le_of_ble_eq_true rfl) (rok (by decide)) dX9_isSo_59 (fun H locs h => ?_)
    replace hf := chkB_inv hf
    obtain ⟨hb10, hf⟩ := hf
    cases hf
    exact r_iret C h hr hlk hb10 dX9_isSo_62
  refine lv_bipush (v := (65 : Int32)) hx hb dX9_isSo_0 rfl ?_
  refine lv_iconst (v := (4 : Int32)) hx hb dX9_isSo_2 rfl ?_
  refine lv_iload_n hx hb dX9_isSo_3 rfl (lv_at hl 1 rfl) ?_
  refine lv_imul hx hb dX9_isSo_4 ?_
  refine lv_iadd hx hb dX9_isSo_5 ?_
  refine lv_topi (fun t1 et1 => ?_)
  replace hf := lt1_inv et1 hf
  refine lv_istore_n (lv' := [(2, .int t1), (0, .ref h_this), (1, .int p0)]) hx hb dX9_isSo_6 rfl hl (by decide) rfl (fun ls hl => ?_)
  refine lv_aload_n hx hb dX9_isSo_7 rfl (lv_at hl 1 rfl) ?_
  refine r_get C h fk_X9_9 0 rfl rfl dX9_isSo_8 ?_
  refine lv_iload_n hx hb dX9_isSo_11 rfl (lv_at hl 0 rfl) ?_
  refine lv_iconst (v := (1 : Int32)) hx hb dX9_isSo_12 rfl ?_
  refine lv_iadd hx hb dX9_isSo_13 ?_
  replace hf := chkI_inv hf
  obtain ⟨hi2, hf⟩ := hf
  refine r_iald C h 3 rfl hi2 dX9_isSo_14 ?_
  refine lv_if_ne (tgt := 32) hx hb dX9_isSo_15 rfl (fun c3 => ?_) (fun c3 => ?_)
  · replace hf := ifn c3 hf
    refine lv_aload_n hx hb dX9_isSo_32 rfl (lv_at hl 1 rfl) ?_
    refine r_get C h fk_X9_47 0 rfl rfl dX9_isSo_33 ?_
    refine lv_aload_n hx hb dX9_isSo_36 rfl (lv_at hl 1 rfl) ?_
    refine r_get C h fk_X9_9 0 rfl rfl dX9_isSo_37 ?_
    refine lv_iload_n hx hb dX9_isSo_40 rfl (lv_at hl 0 rfl) ?_
    replace hf := chkI_inv hf
    obtain ⟨hi4, hf⟩ := hf
    refine r_iald C h 3 rfl hi4 dX9_isSo_41 ?_
    replace hf := chkI_inv hf
    obtain ⟨hi5, hf⟩ := hf
    refine r_iald C h 2 rfl hi5 dX9_isSo_42 ?_
    exact hK2 _ _ _ _ (B43 t1 (f_this_paidThen (f_this_s t1.toNatClampNeg).toNatClampNeg) hf) _ _ _ h (lv_sub hl [1, 0] rfl)
  · replace hf := ifp c3 hf
    refine lv_aload_n hx hb dX9_isSo_18 rfl (lv_at hl 1 rfl) ?_
    refine r_get C h fk_X9_44 0 rfl rfl dX9_isSo_19 ?_
    refine lv_aload_n hx hb dX9_isSo_22 rfl (lv_at hl 1 rfl) ?_
    refine r_get C h fk_X9_9 0 rfl rfl dX9_isSo_23 ?_
    refine lv_iload_n hx hb dX9_isSo_26 rfl (lv_at hl 0 rfl) ?_
    replace hf := chkI_inv hf
    obtain ⟨hi11, hf⟩ := hf
    refine r_iald C h 3 rfl hi11 dX9_isSo_27 ?_
    replace hf := chkI_inv hf
    obtain ⟨hi12, hf⟩ := hf
    refine r_iald C h 1 rfl hi12 dX9_isSo_28 ?_
    refine lv_goto (tgt := 43) hx hb dX9_isSo_29 rfl ?_
    exact hK2 _ _ _ _ (B43 t1 (f_this_offThen (f_this_s t1.toNatClampNeg).toNatClampNeg) hf) _ _ _ h (lv_sub hl [1, 0] rfl)
def f_X9_fitting_b105 (rec9 : Int32 → Int32 → Int32 → (Nat → Int32) → (Nat → Int32) → Option (Int32 × Int32 × (Nat → Int32) × (Nat → Int32))) (v3 : Int32) (v4 : Int32) (s0 : Int32) (s1 : Int32) (y_this_firstFit : Int32) (g_this_offThen : Nat → Int32) (g_this_paidThen : Nat → Int32) : Option (Int32 × Int32 × (Nat → Int32) × (Nat → Int32)) := lt1 (s0 + s1) (fun (t7 : Int32) => (if v4 = 0 then lt1 (v3 + (1 : Int32)) (fun (t9 : Int32) => rec9 t7 t9 y_this_firstFit g_this_offThen g_this_paidThen) else (if 0 ≤ y_this_firstFit then lt1 (v3 + (1 : Int32)) (fun (t11 : Int32) => rec9 t7 t11 y_this_firstFit g_this_offThen g_this_paidThen) else lt1 (v3 + (1 : Int32)) (fun (t12 : Int32) => rec9 t7 t12 v3 g_this_offThen g_this_paidThen))))
def f_X9_fitting_b94 (rec9 : Int32 → Int32 → Int32 → (Nat → Int32) → (Nat → Int32) → Option (Int32 × Int32 × (Nat → Int32) × (Nat → Int32))) (v2 : Int32) (v3 : Int32) (v4 : Int32) (y_this_firstFit : Int32) (g_this_offThen : Nat → Int32) (g_this_paidThen : Nat → Int32) : Option (Int32 × Int32 × (Nat → Int32) × (Nat → Int32)) := (if v4 = 0 then f_X9_fitting_b105 rec9 v3 v4 v2 (0 : Int32) y_this_firstFit g_this_offThen g_this_paidThen else f_X9_fitting_b105 rec9 v3 v4 v2 (1 : Int32) y_this_firstFit g_this_offThen g_this_paidThen)
def f_X9_fitting_L49 (rec9 : Int32 → Int32 → Int32 → (Nat → Int32) → (Nat → Int32) → Option (Int32 × Int32 × (Nat → Int32) × (Nat → Int32))) (p0 : Int32) (f_this_s : Nat → Int32) : Nat → Int32 → Int32 → Int32 → Int32 → Int32 → (Nat → Int32) → (Nat → Int32) → Option (Int32 × Int32 × (Nat → Int32) × (Nat → Int32))
  | 0, _, _, _, _, _, _, _ => none
  | n + 1, v2, v3, v4, v5, y_this_firstFit, g_this_offThen, g_this_paidThen => (if (f_this_s 6) ≤ v5 then f_X9_fitting_b94 rec9 v2 v3 v4 y_this_firstFit g_this_offThen g_this_paidThen else (if v4 = 0 then f_X9_fitting_b94 rec9 v2 v3 v4 y_this_firstFit g_this_offThen g_this_paidThen else (if v5 = p0 then lt1 (v5 + (1 : Int32)) (fun (t15 : Int32) => (f_X9_fitting_L49 rec9 p0 f_this_s n) v2 v3 (1 : Int32) t15 y_this_firstFit g_this_offThen g_this_paidThen) else bd1 (f_X9_isSo v5 g_this_offThen g_this_paidThen f_this_s) (fun r16 => (if r16 = 0 then lt1 (v5 + (1 : Int32)) (fun (t19 : Int32) => (f_X9_fitting_L49 rec9 p0 f_this_s n) v2 v3 (0 : Int32) t19 y_this_firstFit g_this_offThen g_this_paidThen) else lt1 (v5 + (1 : Int32)) (fun (t20 : Int32) => (f_X9_fitting_L49 rec9 p0 f_this_s n) v2 v3 (1 : Int32) t20 y_this_firstFit g_this_offThen g_this_paidThen))))))
def f_X9_fitting_L9 (p0 : Int32) (f_this_s : Nat → Int32) : Nat → Int32 → Int32 → Int32 → (Nat → Int32) → (Nat → Int32) → Option (Int32 × Int32 × (Nat → Int32) × (Nat → Int32))
  | 0, _, _, _, _, _ => none
  | n + 1, v2, v3, y_this_firstFit, g_this_offThen, g_this_paidThen => (if (500 : Int32) ≤ v3 then some (v2, y_this_firstFit, g_this_offThen, g_this_paidThen) else bd2 (f_X9_tellsLone ((1 : Int32) + (v3 / (100 : Int32))) ((v3 / (10 : Int32)) - (v3 / (10 : Int32)) / (10 : Int32) * (10 : Int32)) (((9 : Int32) * (v3 - v3 / (10 : Int32) * (10 : Int32))) + (9 : Int32)) g_this_offThen g_this_paidThen f_this_s) (fun g2 g3 => f_X9_fitting_L49 (f_X9_fitting_L9 p0 f_this_s n) p0 f_this_s 1000 v2 v3 (1 : Int32) (0 : Int32) y_this_firstFit g2 g3))
def f_X9_fitting (p0 : Int32) (f_this_offThen : Nat → Int32) (f_this_paidThen : Nat → Int32) (f_this_s : Nat → Int32) : Option (Int32 × Int32 × (Nat → Int32) × (Nat → Int32)) := f_X9_fitting_L9 p0 f_this_s 1000 (0 : Int32) (0 : Int32) (-1 : Int32) f_this_offThen f_this_paidThen
set_option maxRecDepth 100000 in
set_option maxHeartbeats 4000000 in
theorem c_X9_fitting {l : Launch} {G : Gt} {h_this h_this_s h_this_kept h_this_laid h_this_pile h_this_tape h_this_letters h_this_code0 h_this_read h_this_saved h_this_plan h_this_bestPlan h_this_offThen h_this_paidThen h_this_rows h_this_sorts h_this_sizes h_this_number h_this_holds h_this_heldOne h_this_trace : Nat} {p0 : Int32} {x_this_isKept : Int32} {x_this_taped : Int32} {x_this_at : Int32} {x_this_begun : Int32} {x_this_token : Int32} {x_this_value : Int32} {x_this_opened : Int32} {x_this_steps : Int32} {x_this_most : Int32} {x_this_many : Int32} {x_this_few : Int32} {x_this_everHome : Int32} {x_this_firstFit : Int32} {x_this_rowMany : Int32} {x_this_traced : Int32} {x_this_own : Int32} {x_this_isParted : Int32} {f_this_offThen : Nat → Int32} {f_this_paidThen : Nat → Int32} {f_this_s : Nat → Int32} {r : Int32} {m_this_firstFit : Int32} {m_this_offThen : Nat → Int32} {m_this_paidThen : Nat → Int32} (hf : f_X9_fitting p0 f_this_offThen f_this_paidThen f_this_s = some (r, m_this_firstFit, m_this_offThen, m_this_paidThen)) : mFi l G yX9_fitting cX9_fitting 6 .int 2 [.ref h_this, .int p0] [(h_this, ob 9 [.ref h_this_s, .ref h_this_kept, .ref h_this_laid, .int x_this_isKept, .ref h_this_pile, .ref h_this_tape, .int x_this_taped, .ref h_this_letters, .int x_this_at, .int x_this_begun, .int x_this_token, .int x_this_value, .int x_this_opened, .int x_this_steps, .ref h_this_code0, .ref h_this_read, .ref h_this_saved, .ref h_this_plan, .ref h_this_bestPlan, .int x_this_most, .int x_this_many, .int x_this_few, .int x_this_everHome, .ref h_this_offThen, .ref h_this_paidThen, .int x_this_firstFit, .ref h_this_rows, .int x_this_rowMany, .ref h_this_sorts, .ref h_this_sizes, .ref h_this_number, .ref h_this_holds, .ref h_this_heldOne, .ref h_this_trace, .int x_this_traced, .int x_this_own, .int x_this_isParted]), (h_this_offThen, ia G 16 f_this_offThen), (h_this_paidThen, ia G 16 f_this_paidThen), (h_this_s, ia G 313 f_this_s)] r [(h_this, ob 9 [.ref h_this_s, .ref h_this_kept, .ref h_this_laid, .int x_this_isKept, .ref h_this_pile, .ref h_this_tape, .int x_this_taped, .ref h_this_letters, .int x_this_at, .int x_this_begun, .int x_this_token, .int x_this_value, .int x_this_opened, .int x_this_steps, .ref h_this_code0, .ref h_this_read, .ref h_this_saved, .ref h_this_plan, .ref h_this_bestPlan, .int x_this_most, .int x_this_many, .int x_this_few, .int x_this_everHome, .ref h_this_offThen, .ref h_this_paidThen, .int m_this_firstFit, .ref h_this_rows, .int x_this_rowMany, .ref h_this_sorts, .ref h_this_sizes, .ref h_this_number, .ref h_this_holds, .ref h_this_heldOne, .ref h_this_trace, .int x_this_traced, .int x_this_own, .int x_this_isParted]), (h_this_offThen, ia G 16 m_this_offThen), (h_this_paidThen, ia G 16 m_this_paidThen), (h_this_s, ia G 313 f_this_s)] := by
  refine mFi.of (by decide +kernel) (Nat.le_of_ble_eq_true rfl) ?_
  intro p e s m below meth c A C hr hlk h ls hl
  obtain ⟨hx, hb, hml, hown, hts⟩ := id C
  replace hl : lv_has ls 6 [(0, .ref h_this), (1, .int p0)] := hl
  unfold f_X9_fitting at hf
  refine with_K G A 6 (fun K hK1 hK2 => ?_)
  have B105 : ∀ (rec9 : Int32 → Int32 → Int32 → (Nat → Int32) → (Nat → Int32) → Option (Int32 × Int32 × (Nat → Int32) × (Nat → Int32))) (hrec9 : ∀ (v2 : Int32) (v3 : Int32) (y_this_firstFit : Int32) (g_this_offThen : Nat → Int32) (g_this_paidThen : Nat → Int32), rec9 v2 v3 y_this_firstFit g_this_offThen g_this_paidThen = some (r, m_this_firstFit, m_this_offThen, m_this_paidThen) → K 9 ([] : List Value) [(h_this, ob 9 [.ref h_this_s, .ref h_this_kept, .ref h_this_laid, .int x_this_isKept, .ref h_this_pile, .ref h_this_tape, .int x_this_taped, .ref h_this_letters, .int x_this_at, .int x_this_begun, .int x_this_token, .int x_this_value, .int x_this_opened, .int x_this_steps, .ref h_this_code0, .ref h_this_read, .ref h_this_saved, .ref h_this_plan, .ref h_this_bestPlan, .int x_this_most, .int x_this_many, .int x_this_few, .int x_this_everHome, .ref h_this_offThen, .ref h_this_paidThen, .int y_this_firstFit, .ref h_this_rows, .int x_this_rowMany, .ref h_this_sorts, .ref h_this_sizes, .ref h_this_number, .ref h_this_holds, .ref h_this_heldOne, .ref h_this_trace, .int x_this_traced, .int x_this_own, .int x_this_isParted]), (h_this_offThen, ia G 16 g_this_offThen), (h_this_paidThen, ia G 16 g_this_paidThen), (h_this_s, ia G 313 f_this_s)] [(0, .ref h_this), (1, .int p0), (2, .int v2), (3, .int v3)]) (v3 : Int32) (v4 : Int32) (s0 : Int32) (s1 : Int32) (y_this_firstFit : Int32) (g_this_offThen : Nat → Int32) (g_this_paidThen : Nat → Int32), f_X9_fitting_b105 rec9 v3 v4 s0 s1 y_this_firstFit g_this_offThen g_this_paidThen = some (r, m_this_firstFit, m_this_offThen, m_this_paidThen) → K 105 [.int s1, .int s0] [(h_this, ob 9 [.ref h_this_s, .ref h_this_kept, .ref h_this_laid, .int x_this_isKept, .ref h_this_pile, .ref h_this_tape, .int x_this_taped, .ref h_this_letters, .int x_this_at, .int x_this_begun, .int x_this_token, .int x_this_value, .int x_this_opened, .int x_this_steps, .ref h_this_code0, .ref h_this_read, .ref h_this_saved, .ref h_this_plan, .ref h_this_bestPlan, .int x_this_most, .int x_this_many, .int x_this_few, .int x_this_everHome, .ref h_this_offThen, .ref h_this_paidThen, .int y_this_firstFit, .ref h_this_rows, .int x_this_rowMany, .ref h_this_sorts, .ref h_this_sizes, .ref h_this_number, .ref h_this_holds, .ref h_this_heldOne, .ref h_this_trace, .int x_this_traced, .int x_this_own, .int x_this_isParted]), (h_this_offThen, ia G 16 g_this_offThen), (h_this_paidThen, ia G 16 g_this_paidThen), (h_this_s, ia G 313 f_this_s)] [(0, .ref h_this), (1, .int p0), (3, .int v3), (4, .int v4)] := by
    intro rec9 hrec9 v3 v4 s0 s1 y_this_firstFit g_this_offThen g_this_paidThen hf
    unfold f_X9_fitting_b105 at hf
    refine hK1 _ _ _ _ (fun H locs ls h hl => ?_)
    refine lv_iadd hx hb dX9_fitting_105 ?_
    refine lv_topi (fun t7 et7 => ?_)
    replace hf := lt1_inv et7 hf
    refine lv_istore_n (lv' := [(2, .int t7), (0, .ref h_this), (1, .int p0), (3, .int v3), (4, .int v4)]) hx hb dX9_fitting_106 rfl hl (by decide) rfl (fun ls hl => ?_)
    refine lv_aload_n hx hb dX9_fitting_107 rfl (lv_at hl 1 rfl) ?_
    refine lv_iload hx hb dX9_fitting_108 (lv_at hl 4 rfl) ?_
    refine lv_if_eq (tgt := 124) hx hb dX9_fitting_110 rfl (fun c8 => ?_) (fun c8 => ?_)
    · replace hf := ifp c8 hf
      refine lv_aload_n hx hb dX9_fitting_124 rfl (lv_at hl 1 rfl) ?_
      refine r_get C h fk_X9_304 0 rfl rfl dX9_fitting_125 ?_
      refine r_put (ws' := [(h_this, ob 9 [.ref h_this_s, .ref h_this_kept, .ref h_this_laid, .int x_this_isKept, .ref h_this_pile, .ref h_this_tape, .int x_this_taped, .ref h_this_letters, .int x_this_at, .int x_this_begun, .int x_this_token, .int x_this_value, .int x_this_opened, .int x_this_steps, .ref h_this_code0, .ref h_this_read, .ref h_this_saved, .ref h_this_plan, .ref h_this_bestPlan, .int x_this_most, .int x_this_many, .int x_this_few, .int x_this_everHome, .ref h_this_offThen, .ref h_this_paidThen, .int y_this_firstFit, .ref h_this_rows, .int x_this_rowMany, .ref h_this_sorts, .ref h_this_sizes, .ref h_this_number, .ref h_this_holds, .ref h_this_heldOne, .ref h_this_trace, .int x_this_traced, .int x_this_own, .int x_this_isParted]), (h_this_offThen, ia G 16 g_this_offThen), (h_this_paidThen, ia G 16 g_this_paidThen), (h_this_s, ia G 313 f_this_s)]) C h fw_X9_304 0 rfl rfl rfl (Nat.le_of_ble_eq_true rfl) dX9_fitting_128 rfl (fun H locs h => ?_)
      obtain ⟨t9, et9⟩ : ∃ y : Int32, y = v3 + (1 : Int32) := ⟨_, rfl⟩
      replace hf := lt1_inv et9 hf
      refine lv_iinc (v := t9) (lv' := [(3, .int t9), (2, .int t7), (0, .ref h_this), (1, .int p0), (4, .int v4)]) hx hb dX9_fitting_131 hl (k := 3) rfl (by rw [et9]; rfl) (by decide) rfl (fun ls hl => ?_)
      refine lv_goto (tgt := 9) hx hb dX9_fitting_134 rfl ?_
      exact hK2 _ _ _ _ (hrec9 t7 t9 y_this_firstFit g_this_offThen g_this_paidThen hf) _ _ _ h (lv_sub hl [2, 3, 1, 0] rfl)
    · replace hf := ifn c8 hf
      refine lv_aload_n hx hb dX9_fitting_113 rfl (lv_at hl 1 rfl) ?_
      refine r_get C h fk_X9_304 0 rfl rfl dX9_fitting_114 ?_
      refine lv_if_ge (tgt := 124) hx hb dX9_fitting_117 rfl (fun c10 => ?_) (fun c10 => ?_)
      · replace hf := ifp c10 hf
        refine lv_aload_n hx hb dX9_fitting_124 rfl (lv_at hl 1 rfl) ?_
        refine r_get C h fk_X9_304 0 rfl rfl dX9_fitting_125 ?_
        refine r_put (ws' := [(h_this, ob 9 [.ref h_this_s, .ref h_this_kept, .ref h_this_laid, .int x_this_isKept, .ref h_this_pile, .ref h_this_tape, .int x_this_taped, .ref h_this_letters, .int x_this_at, .int x_this_begun, .int x_this_token, .int x_this_value, .int x_this_opened, .int x_this_steps, .ref h_this_code0, .ref h_this_read, .ref h_this_saved, .ref h_this_plan, .ref h_this_bestPlan, .int x_this_most, .int x_this_many, .int x_this_few, .int x_this_everHome, .ref h_this_offThen, .ref h_this_paidThen, .int y_this_firstFit, .ref h_this_rows, .int x_this_rowMany, .ref h_this_sorts, .ref h_this_sizes, .ref h_this_number, .ref h_this_holds, .ref h_this_heldOne, .ref h_this_trace, .int x_this_traced, .int x_this_own, .int x_this_isParted]), (h_this_offThen, ia G 16 g_this_offThen), (h_this_paidThen, ia G 16 g_this_paidThen), (h_this_s, ia G 313 f_this_s)]) C h fw_X9_304 0 rfl rfl rfl (Nat.le_of_ble_eq_true rfl) dX9_fitting_128 rfl (fun H locs h => ?_)
        obtain ⟨t11, et11⟩ : ∃ y : Int32, y = v3 + (1 : Int32) := ⟨_, rfl⟩
        replace hf := lt1_inv et11 hf
        refine lv_iinc (v := t11) (lv' := [(3, .int t11), (2, .int t7), (0, .ref h_this), (1, .int p0), (4, .int v4)]) hx hb dX9_fitting_131 hl (k := 3) rfl (by rw [et11]; rfl) (by decide) rfl (fun ls hl => ?_)
        refine lv_goto (tgt := 9) hx hb dX9_fitting_134 rfl ?_
        exact hK2 _ _ _ _ (hrec9 t7 t11 y_this_firstFit g_this_offThen g_this_paidThen hf) _ _ _ h (lv_sub hl [2, 3, 1, 0] rfl)
      · replace hf := ifn c10 hf
        refine lv_iload_n hx hb dX9_fitting_120 rfl (lv_at hl 3 rfl) ?_
        refine lv_goto (tgt := 128) hx hb dX9_fitting_121 rfl ?_
        refine r_put (ws' := [(h_this, ob 9 [.ref h_this_s, .ref h_this_kept, .ref h_this_laid, .int x_this_isKept, .ref h_this_pile, .ref h_this_tape, .int x_this_taped, .ref h_this_letters, .int x_this_at, .int x_this_begun, .int x_this_token, .int x_this_value, .int x_this_opened, .int x_this_steps, .ref h_this_code0, .ref h_this_read, .ref h_this_saved, .ref h_this_plan, .ref h_this_bestPlan, .int x_this_most, .int x_this_many, .int x_this_few, .int x_this_everHome, .ref h_this_offThen, .ref h_this_paidThen, .int v3, .ref h_this_rows, .int x_this_rowMany, .ref h_this_sorts, .ref h_this_sizes, .ref h_this_number, .ref h_this_holds, .ref h_this_heldOne, .ref h_this_trace, .int x_this_traced, .int x_this_own, .int x_this_isParted]), (h_this_offThen, ia G 16 g_this_offThen), (h_this_paidThen, ia G 16 g_this_paidThen), (h_this_s, ia G 313 f_this_s)]) C h fw_X9_304 0 rfl rfl rfl (Nat.le_of_ble_eq_true rfl) dX9_fitting_128 rfl (fun H locs h => ?_)
        obtain ⟨t12, et12⟩ : ∃ y : Int32, y = v3 + (1 : Int32) := ⟨_, rfl⟩
        replace hf := lt1_inv et12 hf
        refine lv_iinc (v := t12) (lv' := [(3, .int t12), (2, .int t7), (0, .ref h_this), (1, .int p0), (4, .int v4)]) hx hb dX9_fitting_131 hl (k := 3) rfl (by rw [et12]; rfl) (by decide) rfl (fun ls hl => ?_)
        refine lv_goto (tgt := 9) hx hb dX9_fitting_134 rfl ?_
        exact hK2 _ _ _ _ (hrec9 t7 t12 v3 g_this_offThen g_this_paidThen hf) _ _ _ h (lv_sub hl [2, 3, 1, 0] rfl)
  have B94 : ∀ (rec9 : Int32 → Int32 → Int32 → (Nat → Int32) → (Nat → Int32) → Option (Int32 × Int32 × (Nat → Int32) × (Nat → Int32))) (hrec9 : ∀ (v2 : Int32) (v3 : Int32) (y_this_firstFit : Int32) (g_this_offThen : Nat → Int32) (g_this_paidThen : Nat → Int32), rec9 v2 v3 y_this_firstFit g_this_offThen g_this_paidThen = some (r, m_this_firstFit, m_this_offThen, m_this_paidThen) → K 9 ([] : List Value) [(h_this, ob 9 [.ref h_this_s, .ref h_this_kept, .ref h_this_laid, .int x_this_isKept, .ref h_this_pile, .ref h_this_tape, .int x_this_taped, .ref h_this_letters, .int x_this_at, .int x_this_begun, .int x_this_token, .int x_this_value, .int x_this_opened, .int x_this_steps, .ref h_this_code0, .ref h_this_read, .ref h_this_saved, .ref h_this_plan, .ref h_this_bestPlan, .int x_this_most, .int x_this_many, .int x_this_few, .int x_this_everHome, .ref h_this_offThen, .ref h_this_paidThen, .int y_this_firstFit, .ref h_this_rows, .int x_this_rowMany, .ref h_this_sorts, .ref h_this_sizes, .ref h_this_number, .ref h_this_holds, .ref h_this_heldOne, .ref h_this_trace, .int x_this_traced, .int x_this_own, .int x_this_isParted]), (h_this_offThen, ia G 16 g_this_offThen), (h_this_paidThen, ia G 16 g_this_paidThen), (h_this_s, ia G 313 f_this_s)] [(0, .ref h_this), (1, .int p0), (2, .int v2), (3, .int v3)]) (v2 : Int32) (v3 : Int32) (v4 : Int32) (y_this_firstFit : Int32) (g_this_offThen : Nat → Int32) (g_this_paidThen : Nat → Int32), f_X9_fitting_b94 rec9 v2 v3 v4 y_this_firstFit g_this_offThen g_this_paidThen = some (r, m_this_firstFit, m_this_offThen, m_this_paidThen) → K 94 ([] : List Value) [(h_this, ob 9 [.ref h_this_s, .ref h_this_kept, .ref h_this_laid, .int x_this_isKept, .ref h_this_pile, .ref h_this_tape, .int x_this_taped, .ref h_this_letters, .int x_this_at, .int x_this_begun, .int x_this_token, .int x_this_value, .int x_this_opened, .int x_this_steps, .ref h_this_code0, .ref h_this_read, .ref h_this_saved, .ref h_this_plan, .ref h_this_bestPlan, .int x_this_most, .int x_this_many, .int x_this_few, .int x_this_everHome, .ref h_this_offThen, .ref h_this_paidThen, .int y_this_firstFit, .ref h_this_rows, .int x_this_rowMany, .ref h_this_sorts, .ref h_this_sizes, .ref h_this_number, .ref h_this_holds, .ref h_this_heldOne, .ref h_this_trace, .int x_this_traced, .int x_this_own, .int x_this_isParted]), (h_this_offThen, ia G 16 g_this_offThen), (h_this_paidThen, ia G 16 g_this_paidThen), (h_this_s, ia G 313 f_this_s)] [(0, .ref h_this), (1, .int p0), (2, .int v2), (3, .int v3), (4, .int v4)] := by
    intro rec9 hrec9 v2 v3 v4 y_this_firstFit g_this_offThen g_this_paidThen hf
    unfold f_X9_fitting_b94 at hf
    refine hK1 _ _ _ _ (fun H locs ls h hl => ?_)
    refine lv_iload_n hx hb dX9_fitting_94 rfl (lv_at hl 2 rfl) ?_
    refine lv_iload hx hb dX9_fitting_95 (lv_at hl 4 rfl) ?_
    refine lv_if_eq (tgt := 104) hx hb dX9_fitting_97 rfl (fun c6 => ?_) (fun c6 => ?_)
    · replace hf := ifp c6 hf
      refine lv_iconst (v := (0 : Int32)) hx hb dX9_fitting_104 rfl ?_
      exact hK2 _ _ _ _ (B105 _ hrec9 v3 v4 v2 (0 : Int32) y_this_firstFit g_this_offThen g_this_paidThen hf) _ _ _ h (lv_sub hl [0, 1, 3, 4] rfl)
    · replace hf := ifn c6 hf
      refine lv_iconst (v := (1 : Int32)) hx hb dX9_fitting_100 rfl ?_
      refine lv_goto (tgt := 105) hx hb dX9_fitting_101 rfl ?_
      exact hK2 _ _ _ _ (B105 _ hrec9 v3 v4 v2 (1 : Int32) y_this_firstFit g_this_offThen g_this_paidThen hf) _ _ _ h (lv_sub hl [0, 1, 3, 4] rfl)
  have L49 : ∀ (rec9 : Int32 → Int32 → Int32 → (Nat → Int32) → (Nat → Int32) → Option (Int32 × Int32 × (Nat → Int32) × (Nat → Int32))) (hrec9 : ∀ (v2 : Int32) (v3 : Int32) (y_this_firstFit : Int32) (g_this_offThen : Nat → Int32) (g_this_paidThen : Nat → Int32), rec9 v2 v3 y_this_firstFit g_this_offThen g_this_paidThen = some (r, m_this_firstFit, m_this_offThen, m_this_paidThen) → K 9 ([] : List Value) [(h_this, ob 9 [.ref h_this_s, .ref h_this_kept, .ref h_this_laid, .int x_this_isKept, .ref h_this_pile, .ref h_this_tape, .int x_this_taped, .ref h_this_letters, .int x_this_at, .int x_this_begun, .int x_this_token, .int x_this_value, .int x_this_opened, .int x_this_steps, .ref h_this_code0, .ref h_this_read, .ref h_this_saved, .ref h_this_plan, .ref h_this_bestPlan, .int x_this_most, .int x_this_many, .int x_this_few, .int x_this_everHome, .ref h_this_offThen, .ref h_this_paidThen, .int y_this_firstFit, .ref h_this_rows, .int x_this_rowMany, .ref h_this_sorts, .ref h_this_sizes, .ref h_this_number, .ref h_this_holds, .ref h_this_heldOne, .ref h_this_trace, .int x_this_traced, .int x_this_own, .int x_this_isParted]), (h_this_offThen, ia G 16 g_this_offThen), (h_this_paidThen, ia G 16 g_this_paidThen), (h_this_s, ia G 313 f_this_s)] [(0, .ref h_this), (1, .int p0), (2, .int v2), (3, .int v3)]) (n : Nat) (v2 : Int32) (v3 : Int32) (v4 : Int32) (v5 : Int32) (y_this_firstFit : Int32) (g_this_offThen : Nat → Int32) (g_this_paidThen : Nat → Int32), f_X9_fitting_L49 rec9 p0 f_this_s n v2 v3 v4 v5 y_this_firstFit g_this_offThen g_this_paidThen = some (r, m_this_firstFit, m_this_offThen, m_this_paidThen) → K 49 ([] : List Value) [(h_this, ob 9 [.ref h_this_s, .ref h_this_kept, .ref h_this_laid, .int x_this_isKept, .ref h_this_pile, .ref h_this_tape, .int x_this_taped, .ref h_this_letters, .int x_this_at, .int x_this_begun, .int x_this_token, .int x_this_value, .int x_this_opened, .int x_this_steps, .ref h_this_code0, .ref h_this_read, .ref h_this_saved, .ref h_this_plan, .ref h_this_bestPlan, .int x_this_most, .int x_this_many, .int x_this_few, .int x_this_everHome, .ref h_this_offThen, .ref h_this_paidThen, .int y_this_firstFit, .ref h_this_rows, .int x_this_rowMany, .ref h_this_sorts, .ref h_this_sizes, .ref h_this_number, .ref h_this_holds, .ref h_this_heldOne, .ref h_this_trace, .int x_this_traced, .int x_this_own, .int x_this_isParted]), (h_this_offThen, ia G 16 g_this_offThen), (h_this_paidThen, ia G 16 g_this_paidThen), (h_this_s, ia G 313 f_this_s)] [(0, .ref h_this), (1, .int p0), (2, .int v2), (3, .int v3), (4, .int v4), (5, .int v5)] := by
    intro rec9 hrec9 n
    induction n with
    | zero =>
      intro v2 v3 v4 v5 y_this_firstFit g_this_offThen g_this_paidThen hf
      replace hf : (none : Option _) = some _ := hf
      cases hf
    | succ n ih =>
      intro v2 v3 v4 v5 y_this_firstFit g_this_offThen g_this_paidThen hf
      rw [f_X9_fitting_L49] at hf
      refine hK1 _ _ _ _ (fun H locs ls h hl => ?_)
      refine lv_iload hx hb dX9_fitting_49 (lv_at hl 5 rfl) ?_
      refine lv_aload_n hx hb dX9_fitting_51 rfl (lv_at hl 0 rfl) ?_
      refine r_get C h fk_X9_9 0 rfl rfl dX9_fitting_52 ?_
      refine lv_bipush (v := (6 : Int32)) hx hb dX9_fitting_55 rfl ?_
      refine r_ialdL C h 3 rfl (vlit rfl) 6 rfl dX9_fitting_57 ?_
      refine lv_icmp_ge (tgt := 94) hx hb dX9_fitting_58 rfl (fun c5 => ?_) (fun c5 => ?_)
      · replace hf := ifp c5 hf
        exact hK2 _ _ _ _ (B94 _ hrec9 v2 v3 v4 y_this_firstFit g_this_offThen g_this_paidThen hf) _ _ _ h (lv_sub hl [0, 1, 2, 3, 4] rfl)
      · replace hf := ifn c5 hf
        refine lv_iload hx hb dX9_fitting_61 (lv_at hl 4 rfl) ?_
        refine lv_if_eq (tgt := 94) hx hb dX9_fitting_63 rfl (fun c13 => ?_) (fun c13 => ?_)
        · replace hf := ifp c13 hf
          exact hK2 _ _ _ _ (B94 _ hrec9 v2 v3 v4 y_this_firstFit g_this_offThen g_this_paidThen hf) _ _ _ h (lv_sub hl [0, 1, 2, 3, 4] rfl)
        · replace hf := ifn c13 hf
          refine lv_iload hx hb dX9_fitting_66 (lv_at hl 5 rfl) ?_
          refine lv_iload_n hx hb dX9_fitting_68 rfl (lv_at hl 1 rfl) ?_
          refine lv_icmp_eq (tgt := 81) hx hb dX9_fitting_69 rfl (fun c14 => ?_) (fun c14 => ?_)
          · replace hf := ifp c14 hf
            refine lv_iconst (v := (1 : Int32)) hx hb dX9_fitting_81 rfl ?_
            refine lv_goto (tgt := 86) hx hb dX9_fitting_82 rfl ?_
            refine lv_istore (lv' := [(4, .int (1 : Int32)), (0, .ref h_this), (1, .int p0), (2, .int v2), (3, .int v3), (5, .int v5)]) hx hb dX9_fitting_86 hl (by decide) rfl (fun ls hl => ?_)
            obtain ⟨t15, et15⟩ : ∃ y : Int32, y = v5 + (1 : Int32) := ⟨_, rfl⟩
            replace hf := lt1_inv et15 hf
            refine lv_iinc (v := t15) (lv' := [(5, .int t15), (4, .int (1 : Int32)), (0, .ref h_this), (1, .int p0), (2, .int v2), (3, .int v3)]) hx hb dX9_fitting_88 hl (k := 5) rfl (by rw [et15]; rfl) (by decide) rfl (fun ls hl => ?_)
            refine lv_goto (tgt := 49) hx hb dX9_fitting_91 rfl ?_
            exact hK2 _ _ _ _ (ih v2 v3 (1 : Int32) t15 y_this_firstFit g_this_offThen g_this_paidThen hf) _ _ _ h (lv_sub hl [2, 3, 4, 5, 1, 0] rfl)
          · replace hf := ifn c14 hf
            refine lv_aload_n hx hb dX9_fitting_72 rfl (lv_at hl 0 rfl) ?_
            refine lv_iload hx hb dX9_fitting_73 (lv_at hl 5 rfl) ?_
            replace hf := bd1_inv hf
            obtain ⟨r16, hc17, hf⟩ := hf
            refine r_ciV0 C h (c_X9_isSo hc17) mv_X9_310 rfl 0 rfl [0, 1, 2, 3] rfl rfl hl.1 rfl (Nat.le_of_ble_eq_true rfl) (rok (by decide)) dX9_fitting_75 (fun H locs h => ?_)
            refine lv_if_eq (tgt := 85) hx hb dX9_fitting_78 rfl (fun c18 => ?_) (fun c18 => ?_)
            · replace hf := ifp c18 hf
              refine lv_iconst (v := (0 : Int32)) hx hb dX9_fitting_85 rfl ?_
              refine lv_istore (lv' := [(4, .int (0 : Int32)), (0, .ref h_this), (1, .int p0), (2, .int v2), (3, .int v3), (5, .int v5)]) hx hb dX9_fitting_86 hl (by decide) rfl (fun ls hl => ?_)
              obtain ⟨t19, et19⟩ : ∃ y : Int32, y = v5 + (1 : Int32) := ⟨_, rfl⟩
              replace hf := lt1_inv et19 hf
              refine lv_iinc (v := t19) (lv' := [(5, .int t19), (4, .int (0 : Int32)), (0, .ref h_this), (1, .int p0), (2, .int v2), (3, .int v3)]) hx hb dX9_fitting_88 hl (k := 5) rfl (by rw [et19]; rfl) (by decide) rfl (fun ls hl => ?_)
              refine lv_goto (tgt := 49) hx hb dX9_fitting_91 rfl ?_
              exact hK2 _ _ _ _ (ih v2 v3 (0 : Int32) t19 y_this_firstFit g_this_offThen g_this_paidThen hf) _ _ _ h (lv_sub hl [2, 3, 4, 5, 1, 0] rfl)
            · replace hf := ifn c18 hf
              refine lv_iconst (v := (1 : Int32)) hx hb dX9_fitting_81 rfl ?_
              refine lv_goto (tgt := 86) hx hb dX9_fitting_82 rfl ?_
              refine lv_istore (lv' := [(4, .int (1 : Int32)), (0, .ref h_this), (1, .int p0), (2, .int v2), (3, .int v3), (5, .int v5)]) hx hb dX9_fitting_86 hl (by decide) rfl (fun ls hl => ?_)
              obtain ⟨t20, et20⟩ : ∃ y : Int32, y = v5 + (1 : Int32) := ⟨_, rfl⟩
              replace hf := lt1_inv et20 hf
              refine lv_iinc (v := t20) (lv' := [(5, .int t20), (4, .int (1 : Int32)), (0, .ref h_this), (1, .int p0), (2, .int v2), (3, .int v3)]) hx hb dX9_fitting_88 hl (k := 5) rfl (by rw [et20]; rfl) (by decide) rfl (fun ls hl => ?_)
              refine lv_goto (tgt := 49) hx hb dX9_fitting_91 rfl ?_
              exact hK2 _ _ _ _ (ih v2 v3 (1 : Int32) t20 y_this_firstFit g_this_offThen g_this_paidThen hf) _ _ _ h (lv_sub hl [2, 3, 4, 5, 1, 0] rfl)
  have L9 : ∀ (n : Nat) (v2 : Int32) (v3 : Int32) (y_this_firstFit : Int32) (g_this_offThen : Nat → Int32) (g_this_paidThen : Nat → Int32), f_X9_fitting_L9 p0 f_this_s n v2 v3 y_this_firstFit g_this_offThen g_this_paidThen = some (r, m_this_firstFit, m_this_offThen, m_this_paidThen) → K 9 ([] : List Value) [(h_this, ob 9 [.ref h_this_s, .ref h_this_kept, .ref h_this_laid, .int x_this_isKept, .ref h_this_pile, .ref h_this_tape, .int x_this_taped, .ref h_this_letters, .int x_this_at, .int x_this_begun, .int x_this_token, .int x_this_value, .int x_this_opened, .int x_this_steps, .ref h_this_code0, .ref h_this_read, .ref h_this_saved, .ref h_this_plan, .ref h_this_bestPlan, .int x_this_most, .int x_this_many, .int x_this_few, .int x_this_everHome, .ref h_this_offThen, .ref h_this_paidThen, .int y_this_firstFit, .ref h_this_rows, .int x_this_rowMany, .ref h_this_sorts, .ref h_this_sizes, .ref h_this_number, .ref h_this_holds, .ref h_this_heldOne, .ref h_this_trace, .int x_this_traced, .int x_this_own, .int x_this_isParted]), (h_this_offThen, ia G 16 g_this_offThen), (h_this_paidThen, ia G 16 g_this_paidThen), (h_this_s, ia G 313 f_this_s)] [(0, .ref h_this), (1, .int p0), (2, .int v2), (3, .int v3)] := by
    intro n
    induction n with
    | zero =>
      intro v2 v3 y_this_firstFit g_this_offThen g_this_paidThen hf
      replace hf : (none : Option _) = some _ := hf
      cases hf
    | succ n ih =>
      intro v2 v3 y_this_firstFit g_this_offThen g_this_paidThen hf
      rw [f_X9_fitting_L9] at hf
      refine hK1 _ _ _ _ (fun H locs ls h hl => ?_)
      refine lv_iload_n hx hb dX9_fitting_9 rfl (lv_at hl 3 rfl) ?_
      refine lv_sipush (v := (500 : Int32)) hx hb dX9_fitting_10 rfl ?_
      refine lv_icmp_ge (tgt := 137) hx hb dX9_fitting_13 rfl (fun c1 => ?_) (fun c1 => ?_)
      · replace hf := ifp c1 hf
        refine lv_iload_n hx hb dX9_fitting_137 rfl (lv_at hl 2 rfl) ?_
        cases hf
        exact r_iret C h hr hlk rfl dX9_fitting_138
      · replace hf := ifn c1 hf
        refine lv_aload_n hx hb dX9_fitting_16 rfl (lv_at hl 0 rfl) ?_
        refine lv_iconst (v := (1 : Int32)) hx hb dX9_fitting_17 rfl ?_
        refine lv_iload_n hx hb dX9_fitting_18 rfl (lv_at hl 3 rfl) ?_
        refine lv_bipush (v := (100 : Int32)) hx hb dX9_fitting_19 rfl ?_
        refine lv_idiv hx hb dX9_fitting_21 (by decide) ?_
        refine lv_iadd hx hb dX9_fitting_22 ?_
        refine lv_iload_n hx hb dX9_fitting_23 rfl (lv_at hl 3 rfl) ?_
        refine lv_bipush (v := (10 : Int32)) hx hb dX9_fitting_24 rfl ?_
        refine lv_idiv hx hb dX9_fitting_26 (by decide) ?_
        refine lv_bipush (v := (10 : Int32)) hx hb dX9_fitting_27 rfl ?_
        refine lv_irem hx hb dX9_fitting_29 (by decide) ?_
        refine lv_bipush (v := (9 : Int32)) hx hb dX9_fitting_30 rfl ?_
        refine lv_iload_n hx hb dX9_fitting_32 rfl (lv_at hl 3 rfl) ?_
        refine lv_bipush (v := (10 : Int32)) hx hb dX9_fitting_33 rfl ?_
        refine lv_irem hx hb dX9_fitting_35 (by decide) ?_
        refine lv_imul hx hb dX9_fitting_36 ?_
        refine lv_bipush (v := (9 : Int32)) hx hb dX9_fitting_37 rfl ?_
        refine lv_iadd hx hb dX9_fitting_39 ?_
        replace hf := bd2_inv hf
        obtain ⟨g2, g3, hc4, hf⟩ := hf
        refine r_cvV (ws' := [(h_this, ob 9 [.ref h_this_s, .ref h_this_kept, .ref h_this_laid, .int x_this_isKept, .ref h_this_pile, .ref h_this_tape, .int x_this_taped, .ref h_this_letters, .int x_this_at, .int x_this_begun, .int x_this_token, .int x_this_value, .int x_this_opened, .int x_this_steps, .ref h_this_code0, .ref h_this_read, .ref h_this_saved, .ref h_this_plan, .ref h_this_bestPlan, .int x_this_most, .int x_this_many, .int x_this_few, .int x_this_everHome, .ref h_this_offThen, .ref h_this_paidThen, .int y_this_firstFit, .ref h_this_rows, .int x_this_rowMany, .ref h_this_sorts, .ref h_this_sizes, .ref h_this_number, .ref h_this_holds, .ref h_this_heldOne, .ref h_this_trace, .int x_this_traced, .int x_this_own, .int x_this_isParted]), (h_this_offThen, ia G 16 g2), (h_this_paidThen, ia G 16 g3), (h_this_s, ia G 313 f_this_s)]) C h (c_X9_tellsLone hc4) mv_X9_307 rfl 0 rfl [0, 1, 2, 3] rfl rfl [1, 2] [(h_this_offThen, ia G 16 g2), (h_this_paidThen, ia G 16 g3)] rfl rfl (by decide +kernel) rfl hl.1 rfl (Nat.le_of_ble_eq_true rfl) (rok (by decide)) dX9_fitting_40 (fun H locs h => ?_)
        refine lv_iconst (v := (1 : Int32)) hx hb dX9_fitting_43 rfl ?_
        refine lv_istore (lv' := [(4, .int (1 : Int32)), (0, .ref h_this), (1, .int p0), (2, .int v2), (3, .int v3)]) hx hb dX9_fitting_44 hl (by decide) rfl (fun ls hl => ?_)
        refine lv_iconst (v := (0 : Int32)) hx hb dX9_fitting_46 rfl ?_
        refine lv_istore (lv' := [(5, .int (0 : Int32)), (4, .int (1 : Int32)), (0, .ref h_this), (1, .int p0), (2, .int v2), (3, .int v3)]) hx hb dX9_fitting_47 hl (by decide) rfl (fun ls hl => ?_)
        exact hK2 _ _ _ _ (L49 _ ih 1000 v2 v3 (1 : Int32) (0 : Int32) y_this_firstFit g2 g3 hf) _ _ _ h (lv_sub hl [2, 3, 4, 5, 1, 0] rfl)
  refine lv_iconst (v := (0 : Int32)) hx hb dX9_fitting_0 rfl ?_
  refine lv_istore_n (lv' := [(2, .int (0 : Int32)), (0, .ref h_this), (1, .int p0)]) hx hb dX9_fitting_1 rfl hl (by decide) rfl (fun ls hl => ?_)
  refine lv_aload_n hx hb dX9_fitting_2 rfl (lv_at hl 1 rfl) ?_
  refine lv_iconst (v := (-1 : Int32)) hx hb dX9_fitting_3 rfl ?_
  refine r_put (ws' := [(h_this, ob 9 [.ref h_this_s, .ref h_this_kept, .ref h_this_laid, .int x_this_isKept, .ref h_this_pile, .ref h_this_tape, .int x_this_taped, .ref h_this_letters, .int x_this_at, .int x_this_begun, .int x_this_token, .int x_this_value, .int x_this_opened, .int x_this_steps, .ref h_this_code0, .ref h_this_read, .ref h_this_saved, .ref h_this_plan, .ref h_this_bestPlan, .int x_this_most, .int x_this_many, .int x_this_few, .int x_this_everHome, .ref h_this_offThen, .ref h_this_paidThen, .int (-1 : Int32), .ref h_this_rows, .int x_this_rowMany, .ref h_this_sorts, .ref h_this_sizes, .ref h_this_number, .ref h_this_holds, .ref h_this_heldOne, .ref h_this_trace, .int x_this_traced, .int x_this_own, .int x_this_isParted]), (h_this_offThen, ia G 16 f_this_offThen), (h_this_paidThen, ia G 16 f_this_paidThen), (h_this_s, ia G 313 f_this_s)]) C h fw_X9_304 0 rfl rfl rfl (Nat.le_of_ble_eq_true rfl) dX9_fitting_4 rfl (fun H locs h => ?_)
  refine lv_iconst (v := (0 : Int32)) hx hb dX9_fitting_7 rfl ?_
  refine lv_istore_n (lv' := [(3, .int (0 : Int32)), (2, .int (0 : Int32)), (0, .ref h_this), (1, .int p0)]) hx hb dX9_fitting_8 rfl hl (by decide) rfl (fun ls hl => ?_)
  exact hK2 _ _ _ _ (L9 1000 (0 : Int32) (0 : Int32) (-1 : Int32) f_this_offThen f_this_paidThen hf) _ _ _ h (lv_sub hl [2, 3, 1, 0] rfl)
def f_X9_lone_b28 (p0 : Int32) (v2 : Int32) (y_this_firstFit : Int32) (g_this_offThen : Nat → Int32) (g_this_paidThen : Nat → Int32) : Option (Int32 × Int32 × (Nat → Int32) × (Nat → Int32)) := (if p0 = 0 then some (v2, y_this_firstFit, g_this_offThen, g_this_paidThen) else (if p0 = (1 : Int32) then some ((1 : Int32) + (y_this_firstFit / (100 : Int32)), y_this_firstFit, g_this_offThen, g_this_paidThen) else (if p0 = (2 : Int32) then some ((y_this_firstFit / (10 : Int32)) - (y_this_firstFit / (10 : Int32)) / (10 : Int32) * (10 : Int32), y_this_firstFit, g_this_offThen, g_this_paidThen) else some (((9 : Int32) * (y_this_firstFit - y_this_firstFit / (10 : Int32) * (10 : Int32))) + (9 : Int32), y_this_firstFit, g_this_offThen, g_this_paidThen))))
def f_X9_lone (p0 : Int32) (x_this_firstFit : Int32) (f_this_offThen : Nat → Int32) (f_this_paidThen : Nat → Int32) (f_this_s : Nat → Int32) : Option (Int32 × Int32 × (Nat → Int32) × (Nat → Int32)) := bd1 (f_X9_in1 p0 (0 : Int32) (3 : Int32)) (fun r1 => (if r1 = 0 then some ((-1 : Int32), x_this_firstFit, f_this_offThen, f_this_paidThen) else bd4 (f_X9_fitting (-1 : Int32) f_this_offThen f_this_paidThen f_this_s) (fun r4 y5 g6 g7 => (if p0 ≤ 0 then f_X9_lone_b28 p0 r4 y5 g6 g7 else (if r4 = 0 then some ((-3 : Int32), y5, g6, g7) else f_X9_lone_b28 p0 r4 y5 g6 g7)))))
set_option maxRecDepth 100000 in
set_option maxHeartbeats 4000000 in
theorem c_X9_lone {l : Launch} {G : Gt} {h_this h_this_s h_this_kept h_this_laid h_this_pile h_this_tape h_this_letters h_this_code0 h_this_read h_this_saved h_this_plan h_this_bestPlan h_this_offThen h_this_paidThen h_this_rows h_this_sorts h_this_sizes h_this_number h_this_holds h_this_heldOne h_this_trace : Nat} {p0 : Int32} {x_this_isKept : Int32} {x_this_taped : Int32} {x_this_at : Int32} {x_this_begun : Int32} {x_this_token : Int32} {x_this_value : Int32} {x_this_opened : Int32} {x_this_steps : Int32} {x_this_most : Int32} {x_this_many : Int32} {x_this_few : Int32} {x_this_everHome : Int32} {x_this_firstFit : Int32} {x_this_rowMany : Int32} {x_this_traced : Int32} {x_this_own : Int32} {x_this_isParted : Int32} {f_this_offThen : Nat → Int32} {f_this_paidThen : Nat → Int32} {f_this_s : Nat → Int32} {r : Int32} {m_this_firstFit : Int32} {m_this_offThen : Nat → Int32} {m_this_paidThen : Nat → Int32} (hf : f_X9_lone p0 x_this_firstFit f_this_offThen f_this_paidThen f_this_s = some (r, m_this_firstFit, m_this_offThen, m_this_paidThen)) : mFi l G yX9_lone cX9_lone 3 .int 3 [.ref h_this, .int p0] [(h_this, ob 9 [.ref h_this_s, .ref h_this_kept, .ref h_this_laid, .int x_this_isKept, .ref h_this_pile, .ref h_this_tape, .int x_this_taped, .ref h_this_letters, .int x_this_at, .int x_this_begun, .int x_this_token, .int x_this_value, .int x_this_opened, .int x_this_steps, .ref h_this_code0, .ref h_this_read, .ref h_this_saved, .ref h_this_plan, .ref h_this_bestPlan, .int x_this_most, .int x_this_many, .int x_this_few, .int x_this_everHome, .ref h_this_offThen, .ref h_this_paidThen, .int x_this_firstFit, .ref h_this_rows, .int x_this_rowMany, .ref h_this_sorts, .ref h_this_sizes, .ref h_this_number, .ref h_this_holds, .ref h_this_heldOne, .ref h_this_trace, .int x_this_traced, .int x_this_own, .int x_this_isParted]), (h_this_offThen, ia G 16 f_this_offThen), (h_this_paidThen, ia G 16 f_this_paidThen), (h_this_s, ia G 313 f_this_s)] r [(h_this, ob 9 [.ref h_this_s, .ref h_this_kept, .ref h_this_laid, .int x_this_isKept, .ref h_this_pile, .ref h_this_tape, .int x_this_taped, .ref h_this_letters, .int x_this_at, .int x_this_begun, .int x_this_token, .int x_this_value, .int x_this_opened, .int x_this_steps, .ref h_this_code0, .ref h_this_read, .ref h_this_saved, .ref h_this_plan, .ref h_this_bestPlan, .int x_this_most, .int x_this_many, .int x_this_few, .int x_this_everHome, .ref h_this_offThen, .ref h_this_paidThen, .int m_this_firstFit, .ref h_this_rows, .int x_this_rowMany, .ref h_this_sorts, .ref h_this_sizes, .ref h_this_number, .ref h_this_holds, .ref h_this_heldOne, .ref h_this_trace, .int x_this_traced, .int x_this_own, .int x_this_isParted]), (h_this_offThen, ia G 16 m_this_offThen), (h_this_paidThen, ia G 16 m_this_paidThen), (h_this_s, ia G 313 f_this_s)] := by
  refine mFi.of (by decide +kernel) (Nat.le_of_ble_eq_true rfl) ?_
  intro p e s m below meth c A C hr hlk h ls hl
  obtain ⟨hx, hb, hml, hown, hts⟩ := id C
  replace hl : lv_has ls 3 [(0, .ref h_this), (1, .int p0)] := hl
  unfold f_X9_lone at hf
  refine with_K G A 3 (fun K hK1 hK2 => ?_)
  have B28 : ∀ (v2 : Int32) (y_this_firstFit : Int32) (g_this_offThen : Nat → Int32) (g_this_paidThen : Nat → Int32), f_X9_lone_b28 p0 v2 y_this_firstFit g_this_offThen g_this_paidThen = some (r, m_this_firstFit, m_this_offThen, m_this_paidThen) → K 28 ([] : List Value) [(h_this, ob 9 [.ref h_this_s, .ref h_this_kept, .ref h_this_laid, .int x_this_isKept, .ref h_this_pile, .ref h_this_tape, .int x_this_taped, .ref h_this_letters, .int x_this_at, .int x_this_begun, .int x_this_token, .int x_this_value, .int x_this_opened, .int x_this_steps, .ref h_this_code0, .ref h_this_read, .ref h_this_saved, .ref h_this_plan, .ref h_this_bestPlan, .int x_this_most, .int x_this_many, .int x_this_few, .int x_this_everHome, .ref h_this_offThen, .ref h_this_paidThen, .int y_this_firstFit, .ref h_this_rows, .int x_this_rowMany, .ref h_this_sorts, .ref h_this_sizes, .ref h_this_number, .ref h_this_holds, .ref h_this_heldOne, .ref h_this_trace, .int x_this_traced, .int x_this_own, .int x_this_isParted]), (h_this_offThen, ia G 16 g_this_offThen), (h_this_paidThen, ia G 16 g_this_paidThen), (h_this_s, ia G 313 f_this_s)] [(0, .ref h_this), (1, .int p0), (2, .int v2)] := by
    intro v2 y_this_firstFit g_this_offThen g_this_paidThen hf
    unfold f_X9_lone_b28 at hf
    refine hK1 _ _ _ _ (fun H locs ls h hl => ?_)
    refine lv_iload_n hx hb dX9_lone_28 rfl (lv_at hl 1 rfl) ?_
    refine lv_if_ne (tgt := 36) hx hb dX9_lone_29 rfl (fun c10 => ?_) (fun c10 => ?_)
    · replace hf := ifn c10 hf
      refine lv_iload_n hx hb dX9_lone_36 rfl (lv_at hl 1 rfl) ?_
      refine lv_iconst (v := (1 : Int32)) hx hb dX9_lone_37 rfl ?_
      refine lv_icmp_ne (tgt := 53) hx hb dX9_lone_38 rfl (fun c11 => ?_) (fun c11 => ?_)
      · replace hf := ifn c11 hf
        refine lv_iload_n hx hb dX9_lone_53 rfl (lv_at hl 1 rfl) ?_
        refine lv_iconst (v := (2 : Int32)) hx hb dX9_lone_54 rfl ?_
        refine lv_icmp_ne (tgt := 71) hx hb dX9_lone_55 rfl (fun c12 => ?_) (fun c12 => ?_)
        · replace hf := ifn c12 hf
          refine lv_bipush (v := (9 : Int32)) hx hb dX9_lone_71 rfl ?_
          refine lv_aload_n hx hb dX9_lone_73 rfl (lv_at hl 0 rfl) ?_
          refine r_get C h fk_X9_304 0 rfl rfl dX9_lone_74 ?_
          refine lv_bipush (v := (10 : Int32)) hx hb dX9_lone_77 rfl ?_
          refine lv_irem hx hb dX9_lone_79 (by decide) ?_
          refine lv_imul hx hb dX9_lone_80 ?_
          refine lv_bipush (v := (9 : Int32)) hx hb dX9_lone_81 rfl ?_
          refine lv_iadd hx hb dX9_lone_83 ?_
          cases hf
          exact r_iret C h hr hlk rfl dX9_lone_84
        · replace hf := ifp c12 hf
          refine lv_aload_n hx hb dX9_lone_58 rfl (lv_at hl 0 rfl) ?_
          refine r_get C h fk_X9_304 0 rfl rfl dX9_lone_59 ?_
          refine lv_bipush (v := (10 : Int32)) hx hb dX9_lone_62 rfl ?_
          refine lv_idiv hx hb dX9_lone_64 (by decide) ?_
          refine lv_bipush (v := (10 : Int32)) hx hb dX9_lone_65 rfl ?_
          refine lv_irem hx hb dX9_lone_67 (by decide) ?_
          refine lv_goto (tgt := 84) hx hb dX9_lone_68 rfl ?_
          cases hf
          exact r_iret C h hr hlk rfl dX9_lone_84
      · replace hf := ifp c11 hf
        refine lv_iconst (v := (1 : Int32)) hx hb dX9_lone_41 rfl ?_
        refine lv_aload_n hx hb dX9_lone_42 rfl (lv_at hl 0 rfl) ?_
        refine r_get C h fk_X9_304 0 rfl rfl dX9_lone_43 ?_
        refine lv_bipush (v := (100 : Int32)) hx hb dX9_lone_46 rfl ?_
        refine lv_idiv hx hb dX9_lone_48 (by decide) ?_
        refine lv_iadd hx hb dX9_lone_49 ?_
        refine lv_goto (tgt := 84) hx hb dX9_lone_50 rfl ?_
        cases hf
        exact r_iret C h hr hlk rfl dX9_lone_84
    · replace hf := ifp c10 hf
      refine lv_iload_n hx hb dX9_lone_32 rfl (lv_at hl 2 rfl) ?_
      refine lv_goto (tgt := 84) hx hb dX9_lone_33 rfl ?_
      cases hf
      exact r_iret C h hr hlk rfl dX9_lone_84
  refine lv_iload_n hx hb dX9_lone_0 rfl (lv_at hl 1 rfl) ?_
  refine lv_iconst (v := (0 : Int32)) hx hb dX9_lone_1 rfl ?_
  refine lv_iconst (v := (3 : Int32)) hx hb dX9_lone_2 rfl ?_
  replace hf := bd1_inv hf
  obtain ⟨r1, hc2, hf⟩ := hf
  refine r_ciS0 C h (c_X9_in1 hc2) ms_X9_71 rfl [] rfl rfl hl.1 rfl (Nat.le_of_ble_eq_true rfl) (rok (by decide)) dX9_lone_3 (fun H locs h => ?_)
  refine lv_if_ne (tgt := 11) hx hb dX9_lone_6 rfl (fun c3 => ?_) (fun c3 => ?_)
  · replace hf := ifn c3 hf
    refine lv_aload_n hx hb dX9_lone_11 rfl (lv_at hl 0 rfl) ?_
    refine lv_iconst (v := (-1 : Int32)) hx hb dX9_lone_12 rfl ?_
    replace hf := bd4_inv hf
    obtain ⟨r4, y5, g6, g7, hc8, hf⟩ := hf
    refine r_ciV (ws' := [(h_this, ob 9 [.ref h_this_s, .ref h_this_kept, .ref h_this_laid, .int x_this_isKept, .ref h_this_pile, .ref h_this_tape, .int x_this_taped, .ref h_this_letters, .int x_this_at, .int x_this_begun, .int x_this_token, .int x_this_value, .int x_this_opened, .int x_this_steps, .ref h_this_code0, .ref h_this_read, .ref h_this_saved, .ref h_this_plan, .ref h_this_bestPlan, .int x_this_most, .int x_this_many, .int x_this_few, .int x_this_everHome, .ref h_this_offThen, .ref h_this_paidThen, .int y5, .ref h_this_rows, .int x_this_rowMany, .ref h_this_sorts, .ref h_this_sizes, .ref h_this_number, .ref h_this_holds, .ref h_this_heldOne, .ref h_this_trace, .int x_this_traced, .int x_this_own, .int x_this_isParted]), (h_this_offThen, ia G 16 g6), (h_this_paidThen, ia G 16 g7), (h_this_s, ia G 313 f_this_s)]) C h (c_X9_fitting hc8) mv_X9_313 rfl 0 rfl [0, 1, 2, 3] rfl rfl [0, 1, 2] [(h_this, ob 9 [.ref h_this_s, .ref h_this_kept, .ref h_this_laid, .int x_this_isKept, .ref h_this_pile, .ref h_this_tape, .int x_this_taped, .ref h_this_letters, .int x_this_at, .int x_this_begun, .int x_this_token, .int x_this_value, .int x_this_opened, .int x_this_steps, .ref h_this_code0, .ref h_this_read, .ref h_this_saved, .ref h_this_plan, .ref h_this_bestPlan, .int x_this_most, .int x_this_many, .int x_this_few, .int x_this_everHome, .ref h_this_offThen, .ref h_this_paidThen, .int y5, .ref h_this_rows, .int x_this_rowMany, .ref h_this_sorts, .ref h_this_sizes, .ref h_this_number, .ref h_this_holds, .ref h_this_heldOne, .ref h_this_trace, .int x_this_traced, .int x_this_own, .int x_this_isParted]), (h_this_offThen, ia G 16 g6), (h_this_paidThen, ia G 16 g7)] rfl rfl (by decide +kernel) rfl hl.1 rfl (Nat.le_of_ble_eq_true rfl) (rok (by decide)) dX9_lone_13 (fun H locs h => ?_)
    refine lv_istore_n (lv' := [(2, .int r4), (0, .ref h_this), (1, .int p0)]) hx hb dX9_lone_16 rfl hl (by decide) rfl (fun ls hl => ?_)
    refine lv_iload_n hx hb dX9_lone_17 rfl (lv_at hl 2 rfl) ?_
    refine lv_if_le (tgt := 28) hx hb dX9_lone_18 rfl (fun c9 => ?_) (fun c9 => ?_)
    · replace hf := ifp c9 hf
      exact hK2 _ _ _ _ (B28 r4 y5 g6 g7 hf) _ _ _ h (lv_sub hl [1, 2, 0] rfl)
    · replace hf := ifn c9 hf
      refine lv_iload_n hx hb dX9_lone_21 rfl (lv_at hl 0 rfl) ?_
      refine lv_if_ne (tgt := 28) hx hb dX9_lone_22 rfl (fun c13 => ?_) (fun c13 => ?_)
      · replace hf := ifn c13 hf
        exact hK2 _ _ _ _ (B28 r4 y5 g6 g7 hf) _ _ _ h (lv_sub hl [1, 2, 0] rfl)
      · replace hf := ifp c13 hf
        refine lv_bipush (v := (-3 : Int32)) hx hb dX9_lone_25 rfl ?_
        cases hf
        exact r_iret C h hr hlk rfl dX9_lone_27
  · replace hf := ifp c3 hf
    refine lv_iconst (v := (-1 : Int32)) hx hb dX9_lone_9 rfl ?_
    cases hf
    exact r_iret C h hr hlk rfl dX9_lone_10
def f_X9_liar_L13 (f_this_s : Nat → Int32) : Nat → Int32 → Int32 → (Nat → Int32) → (Nat → Int32) → Option (Int32 × Int32 × (Nat → Int32) × (Nat → Int32))
  | 0, _, _, _, _ => none
  | n + 1, v1, y_this_firstFit, g_this_offThen, g_this_paidThen => (if (f_this_s 6) ≤ v1 then some ((-3 : Int32), y_this_firstFit, g_this_offThen, g_this_paidThen) else bd4 (f_X9_fitting v1 g_this_offThen g_this_paidThen f_this_s) (fun r8 y9 g10 g11 => (if r8 ≤ 0 then lt1 (v1 + (1 : Int32)) (fun (t14 : Int32) => (f_X9_liar_L13 f_this_s n) t14 y9 g10 g11) else some (v1, y9, g10, g11))))
def f_X9_liar (f_this_offThen : Nat → Int32) (f_this_paidThen : Nat → Int32) (f_this_s : Nat → Int32) : Option (Int32 × Int32 × (Nat → Int32) × (Nat → Int32)) := bd4 (f_X9_fitting (-1 : Int32) f_this_offThen f_this_paidThen f_this_s) (fun r1 y2 g3 g4 => (if r1 ≤ 0 then f_X9_liar_L13 f_this_s 1000 (0 : Int32) y2 g3 g4 else some ((-3 : Int32), y2, g3, g4)))
set_option maxRecDepth 100000 in
set_option maxHeartbeats 4000000 in
theorem c_X9_liar {l : Launch} {G : Gt} {h_this h_this_s h_this_kept h_this_laid h_this_pile h_this_tape h_this_letters h_this_code0 h_this_read h_this_saved h_this_plan h_this_bestPlan h_this_offThen h_this_paidThen h_this_rows h_this_sorts h_this_sizes h_this_number h_this_holds h_this_heldOne h_this_trace : Nat} {x_this_isKept : Int32} {x_this_taped : Int32} {x_this_at : Int32} {x_this_begun : Int32} {x_this_token : Int32} {x_this_value : Int32} {x_this_opened : Int32} {x_this_steps : Int32} {x_this_most : Int32} {x_this_many : Int32} {x_this_few : Int32} {x_this_everHome : Int32} {x_this_firstFit : Int32} {x_this_rowMany : Int32} {x_this_traced : Int32} {x_this_own : Int32} {x_this_isParted : Int32} {f_this_offThen : Nat → Int32} {f_this_paidThen : Nat → Int32} {f_this_s : Nat → Int32} {r : Int32} {m_this_firstFit : Int32} {m_this_offThen : Nat → Int32} {m_this_paidThen : Nat → Int32} (hf : f_X9_liar f_this_offThen f_this_paidThen f_this_s = some (r, m_this_firstFit, m_this_offThen, m_this_paidThen)) : mFi l G yX9_liar cX9_liar 2 .int 3 [.ref h_this] [(h_this, ob 9 [.ref h_this_s, .ref h_this_kept, .ref h_this_laid, .int x_this_isKept, .ref h_this_pile, .ref h_this_tape, .int x_this_taped, .ref h_this_letters, .int x_this_at, .int x_this_begun, .int x_this_token, .int x_this_value, .int x_this_opened, .int x_this_steps, .ref h_this_code0, .ref h_this_read, .ref h_this_saved, .ref h_this_plan, .ref h_this_bestPlan, .int x_this_most, .int x_this_many, .int x_this_few, .int x_this_everHome, .ref h_this_offThen, .ref h_this_paidThen, .int x_this_firstFit, .ref h_this_rows, .int x_this_rowMany, .ref h_this_sorts, .ref h_this_sizes, .ref h_this_number, .ref h_this_holds, .ref h_this_heldOne, .ref h_this_trace, .int x_this_traced, .int x_this_own, .int x_this_isParted]), (h_this_offThen, ia G 16 f_this_offThen), (h_this_paidThen, ia G 16 f_this_paidThen), (h_this_s, ia G 313 f_this_s)] r [(h_this, ob 9 [.ref h_this_s, .ref h_this_kept, .ref h_this_laid, .int x_this_isKept, .ref h_this_pile, .ref h_this_tape, .int x_this_taped, .ref h_this_letters, .int x_this_at, .int x_this_begun, .int x_this_token, .int x_this_value, .int x_this_opened, .int x_this_steps, .ref h_this_code0, .ref h_this_read, .ref h_this_saved, .ref h_this_plan, .ref h_this_bestPlan, .int x_this_most, .int x_this_many, .int x_this_few, .int x_this_everHome, .ref h_this_offThen, .ref h_this_paidThen, .int m_this_firstFit, .ref h_this_rows, .int x_this_rowMany, .ref h_this_sorts, .ref h_this_sizes, .ref h_this_number, .ref h_this_holds, .ref h_this_heldOne, .ref h_this_trace, .int x_this_traced, .int x_this_own, .int x_this_isParted]), (h_this_offThen, ia G 16 m_this_offThen), (h_this_paidThen, ia G 16 m_this_paidThen), (h_this_s, ia G 313 f_this_s)] := by
  refine mFi.of (by decide +kernel) (Nat.le_of_ble_eq_true rfl) ?_
  intro p e s m below meth c A C hr hlk h ls hl
  obtain ⟨hx, hb, hml, hown, hts⟩ := id C
  replace hl : lv_has ls 2 [(0, .ref h_this)] := hl
  unfold f_X9_liar at hf
  refine with_K G A 2 (fun K hK1 hK2 => ?_)
  have L13 : ∀ (n : Nat) (v1 : Int32) (y_this_firstFit : Int32) (g_this_offThen : Nat → Int32) (g_this_paidThen : Nat → Int32), f_X9_liar_L13 f_this_s n v1 y_this_firstFit g_this_offThen g_this_paidThen = some (r, m_this_firstFit, m_this_offThen, m_this_paidThen) → K 13 ([] : List Value) [(h_this, ob 9 [.ref h_this_s, .ref h_this_kept, .ref h_this_laid, .int x_this_isKept, .ref h_this_pile, .ref h_this_tape, .int x_this_taped, .ref h_this_letters, .int x_this_at, .int x_this_begun, .int x_this_token, .int x_this_value, .int x_this_opened, .int x_this_steps, .ref h_this_code0, .ref h_this_read, .ref h_this_saved, .ref h_this_plan, .ref h_this_bestPlan, .int x_this_most, .int x_this_many, .int x_this_few, .int x_this_everHome, .ref h_this_offThen, .ref h_this_paidThen, .int y_this_firstFit, .ref h_this_rows, .int x_this_rowMany, .ref h_this_sorts, .ref h_this_sizes, .ref h_this_number, .ref h_this_holds, .ref h_this_heldOne, .ref h_this_trace, .int x_this_traced, .int x_this_own, .int x_this_isParted]), (h_this_offThen, ia G 16 g_this_offThen), (h_this_paidThen, ia G 16 g_this_paidThen), (h_this_s, ia G 313 f_this_s)] [(0, .ref h_this), (1, .int v1)] := by
    intro n
    induction n with
    | zero =>
      intro v1 y_this_firstFit g_this_offThen g_this_paidThen hf
      replace hf : (none : Option _) = some _ := hf
      cases hf
    | succ n ih =>
      intro v1 y_this_firstFit g_this_offThen g_this_paidThen hf
      rw [f_X9_liar_L13] at hf
      refine hK1 _ _ _ _ (fun H locs ls h hl => ?_)
      refine lv_iload_n hx hb dX9_liar_13 rfl (lv_at hl 1 rfl) ?_
      refine lv_aload_n hx hb dX9_liar_14 rfl (lv_at hl 0 rfl) ?_
      refine r_get C h fk_X9_9 0 rfl rfl dX9_liar_15 ?_
      refine lv_bipush (v := (6 : Int32)) hx hb dX9_liar_18 rfl ?_
      refine r_ialdL C h 3 rfl (vlit rfl) 6 rfl dX9_liar_20 ?_
      refine lv_icmp_ge (tgt := 40) hx hb dX9_liar_21 rfl (fun c7 => ?_) (fun c7 => ?_)
      · replace hf := ifp c7 hf
        refine lv_bipush (v := (-3 : Int32)) hx hb dX9_liar_40 rfl ?_
        cases hf
        exact r_iret C h hr hlk rfl dX9_liar_42
      · replace hf := ifn c7 hf
        refine lv_aload_n hx hb dX9_liar_24 rfl (lv_at hl 0 rfl) ?_
        refine lv_iload_n hx hb dX9_liar_25 rfl (lv_at hl 1 rfl) ?_
        replace hf := bd4_inv hf
        obtain ⟨r8, y9, g10, g11, hc12, hf⟩ := hf
        refine r_ciV (ws' := [(h_this, ob 9 [.ref h_this_s, .ref h_this_kept, .ref h_this_laid, .int x_this_isKept, .ref h_this_pile, .ref h_this_tape, .int x_this_taped, .ref h_this_letters, .int x_this_at, .int x_this_begun, .int x_this_token, .int x_this_value, .int x_this_opened, .int x_this_steps, .ref h_this_code0, .ref h_this_read, .ref h_this_saved, .ref h_this_plan, .ref h_this_bestPlan, .int x_this_most, .int x_this_many, .int x_this_few, .int x_this_everHome, .ref h_this_offThen, .ref h_this_paidThen, .int y9, .ref h_this_rows, .int x_this_rowMany, .ref h_this_sorts, .ref h_this_sizes, .ref h_this_number, .ref h_this_holds, .ref h_this_heldOne, .ref h_this_trace, .int x_this_traced, .int x_this_own, .int x_this_isParted]), (h_this_offThen, ia G 16 g10), (h_this_paidThen, ia G 16 g11), (h_this_s, ia G 313 f_this_s)]) C h (c_X9_fitting hc12) mv_X9_313 rfl 0 rfl [0, 1, 2, 3] rfl rfl [0, 1, 2] [(h_this, ob 9 [.ref h_this_s, .ref h_this_kept, .ref h_this_laid, .int x_this_isKept, .ref h_this_pile, .ref h_this_tape, .int x_this_taped, .ref h_this_letters, .int x_this_at, .int x_this_begun, .int x_this_token, .int x_this_value, .int x_this_opened, .int x_this_steps, .ref h_this_code0, .ref h_this_read, .ref h_this_saved, .ref h_this_plan, .ref h_this_bestPlan, .int x_this_most, .int x_this_many, .int x_this_few, .int x_this_everHome, .ref h_this_offThen, .ref h_this_paidThen, .int y9, .ref h_this_rows, .int x_this_rowMany, .ref h_this_sorts, .ref h_this_sizes, .ref h_this_number, .ref h_this_holds, .ref h_this_heldOne, .ref h_this_trace, .int x_this_traced, .int x_this_own, .int x_this_isParted]), (h_this_offThen, ia G 16 g10), (h_this_paidThen, ia G 16 g11)] rfl rfl (by decide +kernel) rfl hl.1 rfl (Nat.le_of_ble_eq_true rfl) (rok (by decide)) dX9_liar_26 (fun H locs h => ?_)
        refine lv_if_le (tgt := 34) hx hb dX9_liar_29 rfl (fun c13 => ?_) (fun c13 => ?_)
        · replace hf := ifp c13 hf
          obtain ⟨t14, et14⟩ : ∃ y : Int32, y = v1 + (1 : Int32) := ⟨_, rfl⟩
          replace hf := lt1_inv et14 hf
          refine lv_iinc (v := t14) (lv' := [(1, .int t14), (0, .ref h_this)]) hx hb dX9_liar_34 hl (k := 1) rfl (by rw [et14]; rfl) (by decide) rfl (fun ls hl => ?_)
          refine lv_goto (tgt := 13) hx hb dX9_liar_37 rfl ?_
          exact hK2 _ _ _ _ (ih t14 y9 g10 g11 hf) _ _ _ h (lv_sub hl [1, 0] rfl)
        · replace hf := ifn c13 hf
          refine lv_iload_n hx hb dX9_liar_32 rfl (lv_at hl 1 rfl) ?_
          cases hf
          exact r_iret C h hr hlk rfl dX9_liar_33
  refine lv_aload_n hx hb dX9_liar_0 rfl (lv_at hl 0 rfl) ?_
  refine lv_iconst (v := (-1 : Int32)) hx hb dX9_liar_1 rfl ?_
  replace hf := bd4_inv hf
  obtain ⟨r1, y2, g3, g4, hc5, hf⟩ := hf
  refine r_ciV (ws' := [(h_this, ob 9 [.ref h_this_s, .ref h_this_kept, .ref h_this_laid, .int x_this_isKept, .ref h_this_pile, .ref h_this_tape, .int x_this_taped, .ref h_this_letters, .int x_this_at, .int x_this_begun, .int x_this_token, .int x_this_value, .int x_this_opened, .int x_this_steps, .ref h_this_code0, .ref h_this_read, .ref h_this_saved, .ref h_this_plan, .ref h_this_bestPlan, .int x_this_most, .int x_this_many, .int x_this_few, .int x_this_everHome, .ref h_this_offThen, .ref h_this_paidThen, .int y2, .ref h_this_rows, .int x_this_rowMany, .ref h_this_sorts, .ref h_this_sizes, .ref h_this_number, .ref h_this_holds, .ref h_this_heldOne, .ref h_this_trace, .int x_this_traced, .int x_this_own, .int x_this_isParted]), (h_this_offThen, ia G 16 g3), (h_this_paidThen, ia G 16 g4), (h_this_s, ia G 313 f_this_s)]) C h (c_X9_fitting hc5) mv_X9_313 rfl 0 rfl [0, 1, 2, 3] rfl rfl [0, 1, 2] [(h_this, ob 9 [.ref h_this_s, .ref h_this_kept, .ref h_this_laid, .int x_this_isKept, .ref h_this_pile, .ref h_this_tape, .int x_this_taped, .ref h_this_letters, .int x_this_at, .int x_this_begun, .int x_this_token, .int x_this_value, .int x_this_opened, .int x_this_steps, .ref h_this_code0, .ref h_this_read, .ref h_this_saved, .ref h_this_plan, .ref h_this_bestPlan, .int x_this_most, .int x_this_many, .int x_this_few, .int x_this_everHome, .ref h_this_offThen, .ref h_this_paidThen, .int y2, .ref h_this_rows, .int x_this_rowMany, .ref h_this_sorts, .ref h_this_sizes, .ref h_this_number, .ref h_this_holds, .ref h_this_heldOne, .ref h_this_trace, .int x_this_traced, .int x_this_own, .int x_this_isParted]), (h_this_offThen, ia G 16 g3), (h_this_paidThen, ia G 16 g4)] rfl rfl (by decide +kernel) rfl hl.1 rfl (Nat.le_of_ble_eq_true rfl) (rok (by decide)) dX9_liar_2 (fun H locs h => ?_)
  refine lv_if_le (tgt := 11) hx hb dX9_liar_5 rfl (fun c6 => ?_) (fun c6 => ?_)
  · replace hf := ifp c6 hf
    refine lv_iconst (v := (0 : Int32)) hx hb dX9_liar_11 rfl ?_
    refine lv_istore_n (lv' := [(1, .int (0 : Int32)), (0, .ref h_this)]) hx hb dX9_liar_12 rfl hl (by decide) rfl (fun ls hl => ?_)
    exact hK2 _ _ _ _ (L13 1000 (0 : Int32) y2 g3 g4 hf) _ _ _ h (lv_sub hl [1, 0] rfl)
  · replace hf := ifn c6 hf
    refine lv_bipush (v := (-3 : Int32)) hx hb dX9_liar_8 rfl ?_
    cases hf
    exact r_iret C h hr hlk rfl dX9_liar_10
def f_X9_seed (p0 : Int32) (f_this_s : Nat → Int32) : Option (Int32 × (Nat → Int32)) := bd2 (f_X9_becomes (3 : Int32) p0 f_this_s) (fun r1 g2 => some (r1, g2))
set_option maxRecDepth 100000 in
set_option maxHeartbeats 4000000 in
theorem c_X9_seed {l : Launch} {G : Gt} {h_this h_this_s h_this_kept h_this_laid h_this_pile h_this_tape h_this_letters h_this_code0 h_this_read h_this_saved h_this_plan h_this_bestPlan h_this_offThen h_this_paidThen h_this_rows h_this_sorts h_this_sizes h_this_number h_this_holds h_this_heldOne h_this_trace : Nat} {p0 : Int32} {x_this_isKept : Int32} {x_this_taped : Int32} {x_this_at : Int32} {x_this_begun : Int32} {x_this_token : Int32} {x_this_value : Int32} {x_this_opened : Int32} {x_this_steps : Int32} {x_this_most : Int32} {x_this_many : Int32} {x_this_few : Int32} {x_this_everHome : Int32} {x_this_firstFit : Int32} {x_this_rowMany : Int32} {x_this_traced : Int32} {x_this_own : Int32} {x_this_isParted : Int32} {f_this_s : Nat → Int32} {r : Int32} {m_this_s : Nat → Int32} (hf : f_X9_seed p0 f_this_s = some (r, m_this_s)) : mFi l G yX9_seed cX9_seed 2 .int 1 [.ref h_this, .int p0] [(h_this, ob 9 [.ref h_this_s, .ref h_this_kept, .ref h_this_laid, .int x_this_isKept, .ref h_this_pile, .ref h_this_tape, .int x_this_taped, .ref h_this_letters, .int x_this_at, .int x_this_begun, .int x_this_token, .int x_this_value, .int x_this_opened, .int x_this_steps, .ref h_this_code0, .ref h_this_read, .ref h_this_saved, .ref h_this_plan, .ref h_this_bestPlan, .int x_this_most, .int x_this_many, .int x_this_few, .int x_this_everHome, .ref h_this_offThen, .ref h_this_paidThen, .int x_this_firstFit, .ref h_this_rows, .int x_this_rowMany, .ref h_this_sorts, .ref h_this_sizes, .ref h_this_number, .ref h_this_holds, .ref h_this_heldOne, .ref h_this_trace, .int x_this_traced, .int x_this_own, .int x_this_isParted]), (h_this_s, ia G 313 f_this_s)] r [(h_this, ob 9 [.ref h_this_s, .ref h_this_kept, .ref h_this_laid, .int x_this_isKept, .ref h_this_pile, .ref h_this_tape, .int x_this_taped, .ref h_this_letters, .int x_this_at, .int x_this_begun, .int x_this_token, .int x_this_value, .int x_this_opened, .int x_this_steps, .ref h_this_code0, .ref h_this_read, .ref h_this_saved, .ref h_this_plan, .ref h_this_bestPlan, .int x_this_most, .int x_this_many, .int x_this_few, .int x_this_everHome, .ref h_this_offThen, .ref h_this_paidThen, .int x_this_firstFit, .ref h_this_rows, .int x_this_rowMany, .ref h_this_sorts, .ref h_this_sizes, .ref h_this_number, .ref h_this_holds, .ref h_this_heldOne, .ref h_this_trace, .int x_this_traced, .int x_this_own, .int x_this_isParted]), (h_this_s, ia G 313 m_this_s)] := by
  refine mFi.of (by decide +kernel) (Nat.le_of_ble_eq_true rfl) ?_
  intro p e s m below meth c A C hr hlk h ls hl
  obtain ⟨hx, hb, hml, hown, hts⟩ := id C
  replace hl : lv_has ls 2 [(0, .ref h_this), (1, .int p0)] := hl
  unfold f_X9_seed at hf
  refine lv_aload_n hx hb dX9_seed_0 rfl (lv_at hl 0 rfl) ?_
  refine lv_iconst (v := (3 : Int32)) hx hb dX9_seed_1 rfl ?_
  refine lv_iload_n hx hb dX9_seed_2 rfl (lv_at hl 1 rfl) ?_
  replace hf := bd2_inv hf
  obtain ⟨r1, g2, hc3, hf⟩ := hf
  refine r_ciV (ws' := [(h_this, ob 9 [.ref h_this_s, .ref h_this_kept, .ref h_this_laid, .int x_this_isKept, .ref h_this_pile, .ref h_this_tape, .int x_this_taped, .ref h_this_letters, .int x_this_at, .int x_this_begun, .int x_this_token, .int x_this_value, .int x_this_opened, .int x_this_steps, .ref h_this_code0, .ref h_this_read, .ref h_this_saved, .ref h_this_plan, .ref h_this_bestPlan, .int x_this_most, .int x_this_many, .int x_this_few, .int x_this_everHome, .ref h_this_offThen, .ref h_this_paidThen, .int x_this_firstFit, .ref h_this_rows, .int x_this_rowMany, .ref h_this_sorts, .ref h_this_sizes, .ref h_this_number, .ref h_this_holds, .ref h_this_heldOne, .ref h_this_trace, .int x_this_traced, .int x_this_own, .int x_this_isParted]), (h_this_s, ia G 313 g2)]) C h (c_X9_becomes hc3) mv_X9_229 rfl 0 rfl [0, 1] rfl rfl [1] [(h_this_s, ia G 313 g2)] rfl rfl (by decide +kernel) rfl hl.1 rfl (Nat.le_of_ble_eq_true rfl) (rok (by decide)) dX9_seed_3 (fun H locs h => ?_)
  cases hf
  exact r_iret C h hr hlk rfl dX9_seed_6
def f_X9_byLot (f_this_pile : Nat → Int32) (f_this_s : Nat → Int32) : Option (Int32 × (Nat → Int32) × (Nat → Int32)) := lt1 (((f_this_s 3) * (1103515245 : Int32)) + (12345 : Int32)) (fun (t1 : Int32) => chkD (((upd f_this_s 3 t1) 4) + (1 : Int32)) (bd3 (f_X9_goesBy ((iushr ((upd f_this_s 3 t1) 3) (16 : Int32)) - (iushr ((upd f_this_s 3 t1) 3) (16 : Int32)) / (((upd f_this_s 3 t1) 4) + (1 : Int32)) * (((upd f_this_s 3 t1) 4) + (1 : Int32))) f_this_pile (upd f_this_s 3 t1)) (fun r3 g4 g5 => some (r3, g4, g5))))
set_option maxRecDepth 100000 in
set_option maxHeartbeats 4000000 in
theorem c_X9_byLot {l : Launch} {G : Gt} {h_this h_this_s h_this_kept h_this_laid h_this_pile h_this_tape h_this_letters h_this_code0 h_this_read h_this_saved h_this_plan h_this_bestPlan h_this_offThen h_this_paidThen h_this_rows h_this_sorts h_this_sizes h_this_number h_this_holds h_this_heldOne h_this_trace : Nat} {x_this_isKept : Int32} {x_this_taped : Int32} {x_this_at : Int32} {x_this_begun : Int32} {x_this_token : Int32} {x_this_value : Int32} {x_this_opened : Int32} {x_this_steps : Int32} {x_this_most : Int32} {x_this_many : Int32} {x_this_few : Int32} {x_this_everHome : Int32} {x_this_firstFit : Int32} {x_this_rowMany : Int32} {x_this_traced : Int32} {x_this_own : Int32} {x_this_isParted : Int32} {f_this_pile : Nat → Int32} {f_this_s : Nat → Int32} {r : Int32} {m_this_pile : Nat → Int32} {m_this_s : Nat → Int32} (hf : f_X9_byLot f_this_pile f_this_s = some (r, m_this_pile, m_this_s)) : mFi l G yX9_byLot cX9_byLot 1 .int 7 [.ref h_this] [(h_this, ob 9 [.ref h_this_s, .ref h_this_kept, .ref h_this_laid, .int x_this_isKept, .ref h_this_pile, .ref h_this_tape, .int x_this_taped, .ref h_this_letters, .int x_this_at, .int x_this_begun, .int x_this_token, .int x_this_value, .int x_this_opened, .int x_this_steps, .ref h_this_code0, .ref h_this_read, .ref h_this_saved, .ref h_this_plan, .ref h_this_bestPlan, .int x_this_most, .int x_this_many, .int x_this_few, .int x_this_everHome, .ref h_this_offThen, .ref h_this_paidThen, .int x_this_firstFit, .ref h_this_rows, .int x_this_rowMany, .ref h_this_sorts, .ref h_this_sizes, .ref h_this_number, .ref h_this_holds, .ref h_this_heldOne, .ref h_this_trace, .int x_this_traced, .int x_this_own, .int x_this_isParted]), (h_this_pile, ia G 200 f_this_pile), (h_this_s, ia G 313 f_this_s)] r [(h_this, ob 9 [.ref h_this_s, .ref h_this_kept, .ref h_this_laid, .int x_this_isKept, .ref h_this_pile, .ref h_this_tape, .int x_this_taped, .ref h_this_letters, .int x_this_at, .int x_this_begun, .int x_this_token, .int x_this_value, .int x_this_opened, .int x_this_steps, .ref h_this_code0, .ref h_this_read, .ref h_this_saved, .ref h_this_plan, .ref h_this_bestPlan, .int x_this_most, .int x_this_many, .int x_this_few, .int x_this_everHome, .ref h_this_offThen, .ref h_this_paidThen, .int x_this_firstFit, .ref h_this_rows, .int x_this_rowMany, .ref h_this_sorts, .ref h_this_sizes, .ref h_this_number, .ref h_this_holds, .ref h_this_heldOne, .ref h_this_trace, .int x_this_traced, .int x_this_own, .int x_this_isParted]), (h_this_pile, ia G 200 m_this_pile), (h_this_s, ia G 313 m_this_s)] := by
  refine mFi.of (by decide +kernel) (Nat.le_of_ble_eq_true rfl) ?_
  intro p e s m below meth c A C hr hlk h ls hl
  obtain ⟨hx, hb, hml, hown, hts⟩ := id C
  replace hl : lv_has ls 1 [(0, .ref h_this)] := hl
  unfold f_X9_byLot at hf
  refine lv_aload_n hx hb dX9_byLot_0 rfl (lv_at hl 0 rfl) ?_
  refine r_get C h fk_X9_9 0 rfl rfl dX9_byLot_1 ?_
  refine lv_iconst (v := (3 : Int32)) hx hb dX9_byLot_4 rfl ?_
  refine lv_aload_n hx hb dX9_byLot_5 rfl (lv_at hl 0 rfl) ?_
  refine r_get C h fk_X9_9 0 rfl rfl dX9_byLot_6 ?_
  refine lv_iconst (v := (3 : Int32)) hx hb dX9_byLot_9 rfl ?_
  refine r_ialdL C h 2 rfl (vlit rfl) 3 rfl dX9_byLot_10 ?_
  refine lv_ldcw hx hb hown (hts _ cw_X9_316) dX9_byLot_11 ?_
  refine lv_imul hx hb dX9_byLot_14 ?_
  refine lv_sipush (v := (12345 : Int32)) hx hb dX9_byLot_15 rfl ?_
  refine lv_iadd hx hb dX9_byLot_18 ?_
  refine lv_topi (fun t1 et1 => ?_)
  replace hf := lt1_inv et1 hf
  refine r_iastL (ws' := [(h_this, ob 9 [.ref h_this_s, .ref h_this_kept, .ref h_this_laid, .int x_this_isKept, .ref h_this_pile, .ref h_this_tape, .int x_this_taped, .ref h_this_letters, .int x_this_at, .int x_this_begun, .int x_this_token, .int x_this_value, .int x_this_opened, .int x_this_steps, .ref h_this_code0, .ref h_this_read, .ref h_this_saved, .ref h_this_plan, .ref h_this_bestPlan, .int x_this_most, .int x_this_many, .int x_this_few, .int x_this_everHome, .ref h_this_offThen, .ref h_this_paidThen, .int x_this_firstFit, .ref h_this_rows, .int x_this_rowMany, .ref h_this_sorts, .ref h_this_sizes, .ref h_this_number, .ref h_this_holds, .ref h_this_heldOne, .ref h_this_trace, .int x_this_traced, .int x_this_own, .int x_this_isParted]), (h_this_pile, ia G 200 f_this_pile), (h_this_s, ia G 313 (upd f_this_s 3 t1))]) C h 2 rfl (vlit rfl) 3 rfl dX9_byLot_19 rfl (fun H locs h => ?_)
  refine lv_aload_n hx hb dX9_byLot_20 rfl (lv_at hl 0 rfl) ?_
  refine lv_aload_n hx hb dX9_byLot_21 rfl (lv_at hl 0 rfl) ?_
  refine r_get C h fk_X9_9 0 rfl rfl dX9_byLot_22 ?_
  refine lv_iconst (v := (3 : Int32)) hx hb dX9_byLot_25 rfl ?_
  refine r_ialdL C h 2 rfl (vlit rfl) 3 rfl dX9_byLot_26 ?_
  refine lv_bipush (v := (16 : Int32)) hx hb dX9_byLot_27 rfl ?_
  refine lv_iushr (v := iushr ((upd f_this_s 3 t1) 3) (16 : Int32)) hx hb dX9_byLot_29 rfl ?_
  refine lv_aload_n hx hb dX9_byLot_30 rfl (lv_at hl 0 rfl) ?_
  refine r_get C h fk_X9_9 0 rfl rfl dX9_byLot_31 ?_
  refine lv_iconst (v := (4 : Int32)) hx hb dX9_byLot_34 rfl ?_
  refine r_ialdL C h 2 rfl (vlit rfl) 4 rfl dX9_byLot_35 ?_
  refine lv_iconst (v := (1 : Int32)) hx hb dX9_byLot_36 rfl ?_
  refine lv_iadd hx hb dX9_byLot_37 ?_
  replace hf := chkD_inv hf
  obtain ⟨hd2, hf⟩ := hf
  refine lv_irem hx hb dX9_byLot_38 hd2 ?_
  replace hf := bd3_inv hf
  obtain ⟨r3, g4, g5, hc6, hf⟩ := hf
  refine r_ciV (ws' := [(h_this, ob 9 [.ref h_this_s, .ref h_this_kept, .ref h_this_laid, .int x_this_isKept, .ref h_this_pile, .ref h_this_tape, .int x_this_taped, .ref h_this_letters, .int x_this_at, .int x_this_begun, .int x_this_token, .int x_this_value, .int x_this_opened, .int x_this_steps, .ref h_this_code0, .ref h_this_read, .ref h_this_saved, .ref h_this_plan, .ref h_this_bestPlan, .int x_this_most, .int x_this_many, .int x_this_few, .int x_this_everHome, .ref h_this_offThen, .ref h_this_paidThen, .int x_this_firstFit, .ref h_this_rows, .int x_this_rowMany, .ref h_this_sorts, .ref h_this_sizes, .ref h_this_number, .ref h_this_holds, .ref h_this_heldOne, .ref h_this_trace, .int x_this_traced, .int x_this_own, .int x_this_isParted]), (h_this_pile, ia G 200 g4), (h_this_s, ia G 313 g5)]) C h (c_X9_goesBy hc6) mv_X9_238 rfl 0 rfl [0, 1, 2] rfl rfl [1, 2] [(h_this_pile, ia G 200 g4), (h_this_s, ia G 313 g5)] rfl rfl (by decide +kernel) rfl hl.1 rfl (Nat.le_of_ble_eq_true rfl) (rok (by decide)) dX9_byLot_39 (fun H locs h => ?_)
  cases hf
  exact r_iret C h hr hlk rfl dX9_byLot_42
def f_X9_lot (f_this_pile : Nat → Int32) (f_this_s : Nat → Int32) : Option (Int32 × (Nat → Int32) × (Nat → Int32)) := bd1 (f_X9_isOver f_this_s) (fun r1 => (if r1 = 0 then bd3 (f_X9_byLot f_this_pile f_this_s) (fun r4 g5 g6 => some (r4, g5, g6)) else some ((-4 : Int32), f_this_pile, f_this_s)))
set_option maxRecDepth 100000 in
set_option maxHeartbeats 4000000 in
theorem c_X9_lot {l : Launch} {G : Gt} {h_this h_this_s h_this_kept h_this_laid h_this_pile h_this_tape h_this_letters h_this_code0 h_this_read h_this_saved h_this_plan h_this_bestPlan h_this_offThen h_this_paidThen h_this_rows h_this_sorts h_this_sizes h_this_number h_this_holds h_this_heldOne h_this_trace : Nat} {x_this_isKept : Int32} {x_this_taped : Int32} {x_this_at : Int32} {x_this_begun : Int32} {x_this_token : Int32} {x_this_value : Int32} {x_this_opened : Int32} {x_this_steps : Int32} {x_this_most : Int32} {x_this_many : Int32} {x_this_few : Int32} {x_this_everHome : Int32} {x_this_firstFit : Int32} {x_this_rowMany : Int32} {x_this_traced : Int32} {x_this_own : Int32} {x_this_isParted : Int32} {f_this_pile : Nat → Int32} {f_this_s : Nat → Int32} {r : Int32} {m_this_pile : Nat → Int32} {m_this_s : Nat → Int32} (hf : f_X9_lot f_this_pile f_this_s = some (r, m_this_pile, m_this_s)) : mFi l G yX9_lot cX9_lot 1 .int 8 [.ref h_this] [(h_this, ob 9 [.ref h_this_s, .ref h_this_kept, .ref h_this_laid, .int x_this_isKept, .ref h_this_pile, .ref h_this_tape, .int x_this_taped, .ref h_this_letters, .int x_this_at, .int x_this_begun, .int x_this_token, .int x_this_value, .int x_this_opened, .int x_this_steps, .ref h_this_code0, .ref h_this_read, .ref h_this_saved, .ref h_this_plan, .ref h_this_bestPlan, .int x_this_most, .int x_this_many, .int x_this_few, .int x_this_everHome, .ref h_this_offThen, .ref h_this_paidThen, .int x_this_firstFit, .ref h_this_rows, .int x_this_rowMany, .ref h_this_sorts, .ref h_this_sizes, .ref h_this_number, .ref h_this_holds, .ref h_this_heldOne, .ref h_this_trace, .int x_this_traced, .int x_this_own, .int x_this_isParted]), (h_this_pile, ia G 200 f_this_pile), (h_this_s, ia G 313 f_this_s)] r [(h_this, ob 9 [.ref h_this_s, .ref h_this_kept, .ref h_this_laid, .int x_this_isKept, .ref h_this_pile, .ref h_this_tape, .int x_this_taped, .ref h_this_letters, .int x_this_at, .int x_this_begun, .int x_this_token, .int x_this_value, .int x_this_opened, .int x_this_steps, .ref h_this_code0, .ref h_this_read, .ref h_this_saved, .ref h_this_plan, .ref h_this_bestPlan, .int x_this_most, .int x_this_many, .int x_this_few, .int x_this_everHome, .ref h_this_offThen, .ref h_this_paidThen, .int x_this_firstFit, .ref h_this_rows, .int x_this_rowMany, .ref h_this_sorts, .ref h_this_sizes, .ref h_this_number, .ref h_this_holds, .ref h_this_heldOne, .ref h_this_trace, .int x_this_traced, .int x_this_own, .int x_this_isParted]), (h_this_pile, ia G 200 m_this_pile), (h_this_s, ia G 313 m_this_s)] := by
  refine mFi.of (by decide +kernel) (Nat.le_of_ble_eq_true rfl) ?_
  intro p e s m below meth c A C hr hlk h ls hl
  obtain ⟨hx, hb, hml, hown, hts⟩ := id C
  replace hl : lv_has ls 1 [(0, .ref h_this)] := hl
  unfold f_X9_lot at hf
  refine lv_aload_n hx hb dX9_lot_0 rfl (lv_at hl 0 rfl) ?_
  replace hf := bd1_inv hf
  obtain ⟨r1, hc2, hf⟩ := hf
  refine r_ciV0 C h (c_X9_isOver hc2) mv_X9_232 rfl 0 rfl [0, 2] rfl rfl hl.1 rfl (Nat.le_of_ble_eq_true rfl) (rok (by decide)) dX9_lot_1 (fun H locs h => ?_)
  refine lv_if_eq (tgt := 12) hx hb dX9_lot_4 rfl (fun c3 => ?_) (fun c3 => ?_)
  · replace hf := ifp c3 hf
    refine lv_aload_n hx hb dX9_lot_12 rfl (lv_at hl 0 rfl) ?_
    replace hf := bd3_inv hf
    obtain ⟨r4, g5, g6, hc7, hf⟩ := hf
    refine r_ciV (ws' := [(h_this, ob 9 [.ref h_this_s, .ref h_this_kept, .ref h_this_laid, .int x_this_isKept, .ref h_this_pile, .ref h_this_tape, .int x_this_taped, .ref h_this_letters, .int x_this_at, .int x_this_begun, .int x_this_token, .int x_this_value, .int x_this_opened, .int x_this_steps, .ref h_this_code0, .ref h_this_read, .ref h_this_saved, .ref h_this_plan, .ref h_this_bestPlan, .int x_this_most, .int x_this_many, .int x_this_few, .int x_this_everHome, .ref h_this_offThen, .ref h_this_paidThen, .int x_this_firstFit, .ref h_this_rows, .int x_this_rowMany, .ref h_this_sorts, .ref h_this_sizes, .ref h_this_number, .ref h_this_holds, .ref h_this_heldOne, .ref h_this_trace, .int x_this_traced, .int x_this_own, .int x_this_isParted]), (h_this_pile, ia G 200 g5), (h_this_s, ia G 313 g6)]) C h (c_X9_byLot hc7) mv_X9_317 rfl 0 rfl [0, 1, 2] rfl rfl [1, 2] [(h_this_pile, ia G 200 g5), (h_this_s, ia G 313 g6)] rfl rfl (by decide +kernel) rfl hl.1 rfl (Nat.le_of_ble_eq_true rfl) (rok (by decide)) dX9_lot_13 (fun H locs h => ?_)
    cases hf
    exact r_iret C h hr hlk rfl dX9_lot_16
  · replace hf := ifn c3 hf
    refine lv_bipush (v := (-4 : Int32)) hx hb dX9_lot_7 rfl ?_
    refine lv_goto (tgt := 16) hx hb dX9_lot_9 rfl ?_
    cases hf
    exact r_iret C h hr hlk rfl dX9_lot_16
