set_option maxRecDepth 100000 in
set_option maxHeartbeats 4000000 in
theorem c_X9_isSo {l : Launch} {G : Gt} {h_this h_this_s h_this_kept h_this_laid h_this_pile h_this_tape h_this_letters h_this_code0 h_this_read h_this_saved h_this_plan h_this_bestPlan h_this_offThen h_this_paidThen h_this_rows h_this_sorts h_this_sizes h_this_number h_this_holds h_this_heldOne h_this_trace : Nat} {p0 : Int32} {x_this_isKept : Int32} {x_this_taped : Int32} {x_this_at : Int32} {x_this_begun : Int32} {x_this_token : Int32} {x_this_value : Int32} {x_this_opened : Int32} {x_this_steps : Int32} {x_this_most : Int32} {x_this_many : Int32} {x_this_few : Int32} {x_this_everHome : Int32} {x_this_firstFit : Int32} {x_this_rowMany : Int32} {x_this_traced : Int32} {x_this_own : Int32} {x_this_isParted : Int32} {f_this_offThen : Nat → Int32} {f_this_paidThen : Nat → Int32} {f_this_s : Nat → Int32} {r : Int32} (hf : f_X9_isSo p0 f_this_offThen f_this_paidThen f_this_s = some r) : mFi l G yX9_isSo cX9_isSo 3 .boolean 1 [.ref h_this, .int p0] [(h_this, ob 9 [.ref h_this_s, .ref h_this_kept, .ref h_this_laid, .int x_this_isKept, .ref h_this_pile, .ref h_this_tape, .int x_this_taped, .ref h_this_letters, .int x_this_at, .int x_this_begun, .int x_this_token, .int x_this_value, .int x_this_opened, .int x_this_steps, .ref h_this_code0, .ref h_this_read, .ref h_this_saved, .ref h_this_plan, .ref h_this_bestPlan, .int x_this_most, .int x_this_many, .int x_this_few, .int x_this_everHome, .ref h_this_offThen, .ref h_this_paidThen, .int x_this_firstFit, .ref h_this_rows, .int x_this_rowMany, .ref h_this_sorts, .ref h_this_sizes, .ref h_this_number, .ref h_this_holds, .ref h_this_heldOne, .ref h_this_trace, .int x_this_traced, .int x_this_own, .int x_this_isParted]), (h_this_offThen, ia G 16 f_this_offThen), (h_this_paidThen, ia G 16 f_this_paidThen), (h_this_s, ia G 313 f_this_s)] r [(h_this, ob 9 [.ref h_this_s, .ref h_this_kept, .ref h_this_laid, .int x_this_isKept, .ref h_this_pile, .ref h_this_tape, .int x_this_taped, .ref h_this_letters, .int x_this_at, .int x_this_begun, .int x_this_token, .int x_this_value, .int x_this_opened, .int x_this_steps, .ref h_this_code0, .ref h_this_read, .ref h_this_saved, .ref h_this_plan, .ref h_this_bestPlan, .int x_this_most, .int x_this_many, .int x_this_few, .int x_this_everHome, .ref h_this_offThen, .ref h_this_paidThen, .int x_this_firstFit, .ref h_this_rows, .int x_this_rowMany, .ref h_this_sorts, .ref h_this_sizes, .ref h_this_number, .ref h_this_holds, .ref h_this_heldOne, .ref h_this_trace, .int x_this_traced, .int x_this_own, .int x_this_isParted]), (h_this_offThen, ia G 16 f_this_offThen), (h_this_paidThen, ia G 16 f_this_paidThen), (h_this_s, ia G 313 f_this_s)] := by
  refine mFi.of (by decide +kernel) (Nat.le_of_ble_eq_true rfl) ?_
  intro p e s m below meth c A C hr hlk h ls hl
  obtain ⟨hx, hb, hml, hown, hts⟩ := id C
  replace hl : lv_has ls 3 [(0, .ref h_this), (1, .int p0)] := hl
  unfold f_X9_isSo at hf
  refine with_K G A 3 (fun K hK1 hK2 => ?_)
  have B43 : ∀ (v2 : Int32) (s0 : Int32), f_X9_isSo_b43 f_this_s v2 s0 = some r → K 43 [.int s0] [(h_this, ob 9 [.ref h_this_s, .ref h_this_kept, .ref h_this_laid, .int x_this_isKept, .ref h_this_pile, .ref h_this_tape, .int x_this_taped, .ref h_this_letters, .int x_this_at, .int x_this_begun, .int x_this_token, .int x_this_value, .int x_this_opened, .int x_this_steps, .ref h_this_code0, .ref h_this_read, .ref h_this_saved, .ref h_this_plan, .ref h_this_bestPlan, .int x_this_most, .int x_this_many, .int x_this_few, .int x_this_everHome, .ref h_this_offThen, .ref h_this_paidThen, .int x_this_firstFit, .ref h_this_rows, .int x_this_rowMany, .ref h_this_sorts, .ref h_this_sizes, .ref h_this_number, .ref h_this_holds, .ref h_this_heldOne, .ref h_this_trace, .int x_this_traced, .int x_this_own, .int x_this_isParted]), (h_this_offThen, ia G 16 f_this_offThen), (h_this_paidThen, ia G 16 f_this_paidThen), (h_this_s, ia G 313 f_this_s)] [(0, .ref h_this), (2, .int v2)] := by
    intro v2 s0 hf
    unfold f_X9_isSo_b43 at hf
    refine hK1 _ _ _ _ (fun H locs ls h hl => ?_)
    refine lv_aload_n hx hb dX9_isSo_43 rfl (lv_at hl 0 rfl) ?_
    refine r_get C h fk_X9_9 0 rfl rfl dX9_isSo_44 ?_
    refine lv_iload_n hx hb dX9_isSo_47 rfl (lv_at hl 1 rfl) ?_
    refine lv_iconst (v := (2 : Int32)) hx hb dX9_isSo_48 rfl ?_
    refine lv_iadd hx hb dX9_isSo_49 ?_
    replace hf := chkI_inv hf
    obtain ⟨hi6, hf⟩ := hf
    refine r_iald C h 3 rfl hi6 dX9_isSo_50 ?_
    refine lv_aload_n hx hb dX9_isSo_51 rfl (lv_at hl 0 rfl) ?_
    refine r_get C h fk_X9_9 0 rfl rfl dX9_isSo_52 ?_
    refine lv_iload_n hx hb dX9_isSo_55 rfl (lv_at hl 1 rfl) ?_
    refine lv_iconst (v := (3 : Int32)) hx hb dX9_isSo_56 rfl ?_
    refine lv_iadd hx hb dX9_isSo_57 ?_
    replace hf := chkI_inv hf
    obtain ⟨hi7, hf⟩ := hf
    refine r_iald C h 3 rfl hi7 dX9_isSo_58 ?_
    replace hf := bd1_inv hf
    obtain ⟨r8, hc9, hf⟩ := hf
    refine r_ciS0 C h (c_X9_in1 hc9) ms_X9_71 rfl [] rfl rfl hl.1 rfl (Nat.le_of_ble_eq_true rfl) (rok (by decide)) dX9_isSo_59 (fun H locs h => ?_)
    replace hf := chkB_inv hf
    obtain ⟨hb10, hf⟩ := hf
    clear  hK2 hK1
    cases hf
    exact r_iret C h hr hlk hb10 dX9_isSo_62
  refine lv_bipush (v := (65 : Int32)) hx hb dX9_isSo_0 rfl ?_
  refine lv_iconst (v := (4 : Int32)) hx hb dX9_isSo_2 rfl ?_
  refine lv_iload_n hx hb dX9_isSo_3 rfl (lv_at hl 1 rfl) ?_
  refine lv_imul hx hb dX9_isSo_4 ?_
  refine lv_iadd hx hb dX9_isSo_5 ?_
  refine lv_topi (fun t1 et1 => ?_)
  replace hf := lt1_inv et1 hf
  refine lv_istore_n (lv' := [(2, .int t1), (0, .ref h_this), (1, .int p0)]) hx hb dX9_isSo_6 rfl hl (by decide) rfl (fun ls hl => ?_)
  refine lv_aload_n hx hb dX9_isSo_7 rfl (lv_at hl 1 rfl) ?_
  refine r_get C h fk_X9_9 0 rfl rfl dX9_isSo_8 ?_
  refine lv_iload_n hx hb dX9_isSo_11 rfl (lv_at hl 0 rfl) ?_
  refine lv_iconst (v := (1 : Int32)) hx hb dX9_isSo_12 rfl ?_
  refine lv_iadd hx hb dX9_isSo_13 ?_
  replace hf := chkI_inv hf
  obtain ⟨hi2, hf⟩ := hf
  refine r_iald C h 3 rfl hi2 dX9_isSo_14 ?_
  refine lv_if_ne (tgt := 32) hx hb dX9_isSo_15 rfl (fun c3 => ?_) (fun c3 => ?_)
  · replace hf := ifn c3 hf
    refine lv_aload_n hx hb dX9_isSo_32 rfl (lv_at hl 1 rfl) ?_
    refine r_get C h fk_X9_47 0 rfl rfl dX9_isSo_33 ?_
    refine lv_aload_n hx hb dX9_isSo_36 rfl (lv_at hl 1 rfl) ?_
    refine r_get C h fk_X9_9 0 rfl rfl dX9_isSo_37 ?_
    refine lv_iload_n hx hb dX9_isSo_40 rfl (lv_at hl 0 rfl) ?_
    replace hf := chkI_inv hf
    obtain ⟨hi4, hf⟩ := hf
    refine r_iald C h 3 rfl hi4 dX9_isSo_41 ?_
    replace hf := chkI_inv hf
    obtain ⟨hi5, hf⟩ := hf
    refine r_iald C h 2 rfl hi5 dX9_isSo_42 ?_
    exact hK2 _ _ _ _ (B43 t1 (f_this_paidThen (f_this_s t1.toNatClampNeg).toNatClampNeg) hf) _ _ _ h (lv_sub hl [1, 0] rfl)
  · replace hf := ifp c3 hf
    refine lv_aload_n hx hb dX9_isSo_18 rfl (lv_at hl 1 rfl) ?_
    refine r_get C h fk_X9_44 0 rfl rfl dX9_isSo_19 ?_
    refine lv_aload_n hx hb dX9_isSo_22 rfl (lv_at hl 1 rfl) ?_
    refine r_get C h fk_X9_9 0 rfl rfl dX9_isSo_23 ?_
    refine lv_iload_n hx hb dX9_isSo_26 rfl (lv_at hl 0 rfl) ?_
    replace hf := chkI_inv hf
    obtain ⟨hi11, hf⟩ := hf
    refine r_iald C h 3 rfl hi11 dX9_isSo_27 ?_
    replace hf := chkI_inv hf
    obtain ⟨hi12, hf⟩ := hf
    refine r_iald C h 1 rfl hi12 dX9_isSo_28 ?_
    refine lv_goto (tgt := 43) hx hb dX9_isSo_29 rfl ?_
    exact hK2 _ _ _ _ (B43 t1 (f_this_offThen (f_this_s t1.toNatClampNeg).toNatClampNeg) hf) _ _ _ h (lv_sub hl [1, 0] rfl)
