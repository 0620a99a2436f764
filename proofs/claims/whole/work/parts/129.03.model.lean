set_option maxRecDepth 100000 in
set_option maxHeartbeats 4000000 in
theorem c_X9_areClose {l : Launch} {G : Gt} {h_this h_this_s h_this_kept h_this_laid h_this_pile h_this_tape h_this_letters h_this_code0 h_this_read h_this_saved h_this_plan h_this_bestPlan h_this_offThen h_this_paidThen h_this_rows h_this_sorts h_this_sizes h_this_number h_this_holds h_this_heldOne h_this_trace : Nat} {p0 : Int32} {p1 : Int32} {x_this_isKept : Int32} {x_this_taped : Int32} {x_this_at : Int32} {x_this_begun : Int32} {x_this_token : Int32} {x_this_value : Int32} {x_this_opened : Int32} {x_this_steps : Int32} {x_this_most : Int32} {x_this_many : Int32} {x_this_few : Int32} {x_this_everHome : Int32} {x_this_firstFit : Int32} {x_this_rowMany : Int32} {x_this_traced : Int32} {x_this_own : Int32} {x_this_isParted : Int32} {f_this_s : Nat → Int32} {r : Int32} (hf : f_X9_areClose p0 p1 f_this_s = some r) : mFi l G yX9_areClose cX9_areClose 4 .boolean 1 [.ref h_this, .int p0, .int p1] [(h_this, ob 9 [.ref h_this_s, .ref h_this_kept, .ref h_this_laid, .int x_this_isKept, .ref h_this_pile, .ref h_this_tape, .int x_this_taped, .ref h_this_letters, .int x_this_at, .int x_this_begun, .int x_this_token, .int x_this_value, .int x_this_opened, .int x_this_steps, .ref h_this_code0, .ref h_this_read, .ref h_this_saved, .ref h_this_plan, .ref h_this_bestPlan, .int x_this_most, .int x_this_many, .int x_this_few, .int x_this_everHome, .ref h_this_offThen, .ref h_this_paidThen, .int x_this_firstFit, .ref h_this_rows, .int x_this_rowMany, .ref h_this_sorts, .ref h_this_sizes, .ref h_this_number, .ref h_this_holds, .ref h_this_heldOne, .ref h_this_trace, .int x_this_traced, .int x_this_own, .int x_this_isParted]), (h_this_s, ia G 313 f_this_s)] r [(h_this, ob 9 [.ref h_this_s, .ref h_this_kept, .ref h_this_laid, .int x_this_isKept, .ref h_this_pile, .ref h_this_tape, .int x_this_taped, .ref h_this_letters, .int x_this_at, .int x_this_begun, .int x_this_token, .int x_this_value, .int x_this_opened, .int x_this_steps, .ref h_this_code0, .ref h_this_read, .ref h_this_saved, .ref h_this_plan, .ref h_this_bestPlan, .int x_this_most, .int x_this_many, .int x_this_few, .int x_this_everHome, .ref h_this_offThen, .ref h_this_paidThen, .int x_this_firstFit, .ref h_this_rows, .int x_this_rowMany, .ref h_this_sorts, .ref h_this_sizes, .ref h_this_number, .ref h_this_holds, .ref h_this_heldOne, .ref h_this_trace, .int x_this_traced, .int x_this_own, .int x_this_isParted]), (h_this_s, ia G 313 f_this_s)] := by
  refine mFi.of (by decide +kernel) (Nat.le_of_ble_eq_true rfl) ?_
  intro p e s m below meth c A C hr hlk h ls hl
  obtain ⟨hx, hb, hml, hown, hts⟩ := id C
  replace hl : lv_has ls 4 [(0, .ref h_this), (1, .int p0), (2, .int p1)] := hl
  unfold f_X9_areClose at hf
  refine with_K G A 4 (fun K hK1 hK2 => ?_)
  have B39 : ∀ (s0 : Int32), f_X9_areClose_b39 p0 p1 f_this_s s0 = some r → K 39 [.int s0] [(h_this, ob 9 [.ref h_this_s, .ref h_this_kept, .ref h_this_laid, .int x_this_isKept, .ref h_this_pile, .ref h_this_tape, .int x_this_taped, .ref h_this_letters, .int x_this_at, .int x_this_begun, .int x_this_token, .int x_this_value, .int x_this_opened, .int x_this_steps, .ref h_this_code0, .ref h_this_read, .ref h_this_saved, .ref h_this_plan, .ref h_this_bestPlan, .int x_this_most, .int x_this_many, .int x_this_few, .int x_this_everHome, .ref h_this_offThen, .ref h_this_paidThen, .int x_this_firstFit, .ref h_this_rows, .int x_this_rowMany, .ref h_this_sorts, .ref h_this_sizes, .ref h_this_number, .ref h_this_holds, .ref h_this_heldOne, .ref h_this_trace, .int x_this_traced, .int x_this_own, .int x_this_isParted]), (h_this_s, ia G 313 f_this_s)] [(0, .ref h_this), (1, .int p0), (2, .int p1)] := by
    intro s0 hf
    unfold f_X9_areClose_b39 at hf
    refine hK1 _ _ _ _ (fun H locs ls h hl => ?_)
    refine lv_istore_n (lv' := [(3, .int s0), (0, .ref h_this), (1, .int p0), (2, .int p1)]) hx hb dX9_areClose_39 rfl hl (by decide) rfl (fun ls hl => ?_)
    refine lv_aload_n hx hb dX9_areClose_40 rfl (lv_at hl 1 rfl) ?_
    refine lv_iload_n hx hb dX9_areClose_41 rfl (lv_at hl 2 rfl) ?_
    refine lv_iconst (v := (4 : Int32)) hx hb dX9_areClose_42 rfl ?_
    replace hf := bd1_inv hf
    obtain ⟨r6, hc7, hf⟩ := hf
    refine r_ciV0 C h (c_X9_get hc7) mv_X9_79 rfl 0 rfl [0, 1] rfl rfl hl.1 rfl (Nat.le_of_ble_eq_true rfl) (rok (by decide)) dX9_areClose_43 (fun H locs h => ?_)
    refine lv_if_ne (tgt := 66) hx hb dX9_areClose_46 rfl (fun c8 => ?_) (fun c8 => ?_)
    · replace hf := ifn c8 hf
      refine lv_iconst (v := (0 : Int32)) hx hb dX9_areClose_66 rfl ?_
      cases hf
      exact r_iret C h hr hlk rfl dX9_areClose_67
    · replace hf := ifp c8 hf
      refine lv_aload_n hx hb dX9_areClose_49 rfl (lv_at hl 1 rfl) ?_
      refine lv_iload_n hx hb dX9_areClose_50 rfl (lv_at hl 3 rfl) ?_
      refine lv_iconst (v := (4 : Int32)) hx hb dX9_areClose_51 rfl ?_
      replace hf := bd1_inv hf
      obtain ⟨r9, hc10, hf⟩ := hf
      refine r_ciV0 C h (c_X9_get hc10) mv_X9_79 rfl 0 rfl [0, 1] rfl rfl hl.1 rfl (Nat.le_of_ble_eq_true rfl) (rok (by decide)) dX9_areClose_52 (fun H locs h => ?_)
      refine lv_if_ne (tgt := 66) hx hb dX9_areClose_55 rfl (fun c11 => ?_) (fun c11 => ?_)
      · replace hf := ifn c11 hf
        refine lv_iconst (v := (0 : Int32)) hx hb dX9_areClose_66 rfl ?_
        cases hf
        exact r_iret C h hr hlk rfl dX9_areClose_67
      · replace hf := ifp c11 hf
        refine lv_iload_n hx hb dX9_areClose_58 rfl (lv_at hl 0 rfl) ?_
        refine lv_if_eq (tgt := 66) hx hb dX9_areClose_59 rfl (fun c12 => ?_) (fun c12 => ?_)
        · replace hf := ifp c12 hf
          refine lv_iconst (v := (0 : Int32)) hx hb dX9_areClose_66 rfl ?_
          cases hf
          exact r_iret C h hr hlk rfl dX9_areClose_67
        · replace hf := ifn c12 hf
          refine lv_iconst (v := (1 : Int32)) hx hb dX9_areClose_62 rfl ?_
          refine lv_goto (tgt := 67) hx hb dX9_areClose_63 rfl ?_
          cases hf
          exact r_iret C h hr hlk rfl dX9_areClose_67
  have B34 : f_X9_areClose_b34 p0 p1 f_this_s = some r → K 34 ([] : List Value) [(h_this, ob 9 [.ref h_this_s, .ref h_this_kept, .ref h_this_laid, .int x_this_isKept, .ref h_this_pile, .ref h_this_tape, .int x_this_taped, .ref h_this_letters, .int x_this_at, .int x_this_begun, .int x_this_token, .int x_this_value, .int x_this_opened, .int x_this_steps, .ref h_this_code0, .ref h_this_read, .ref h_this_saved, .ref h_this_plan, .ref h_this_bestPlan, .int x_this_most, .int x_this_many, .int x_this_few, .int x_this_everHome, .ref h_this_offThen, .ref h_this_paidThen, .int x_this_firstFit, .ref h_this_rows, .int x_this_rowMany, .ref h_this_sorts, .ref h_this_sizes, .ref h_this_number, .ref h_this_holds, .ref h_this_heldOne, .ref h_this_trace, .int x_this_traced, .int x_this_own, .int x_this_isParted]), (h_this_s, ia G 313 f_this_s)] [(0, .ref h_this), (1, .int p0), (2, .int p1)] := by
    intro hf
    unfold f_X9_areClose_b34 at hf
    refine hK1 _ _ _ _ (fun H locs ls h hl => ?_)
    refine lv_iconst (v := (1 : Int32)) hx hb dX9_areClose_34 rfl ?_
    refine lv_goto (tgt := 39) hx hb dX9_areClose_35 rfl ?_
    exact hK2 _ _ _ _ (B39 (1 : Int32) hf) _ _ _ h (lv_sub hl [0, 1, 2] rfl)
  refine lv_aload_n hx hb dX9_areClose_0 rfl (lv_at hl 0 rfl) ?_
  refine lv_iload_n hx hb dX9_areClose_1 rfl (lv_at hl 1 rfl) ?_
  refine lv_iconst (v := (3 : Int32)) hx hb dX9_areClose_2 rfl ?_
  replace hf := bd1_inv hf
  obtain ⟨r1, hc2, hf⟩ := hf
  refine r_ciV0 C h (c_X9_get hc2) mv_X9_79 rfl 0 rfl [0, 1] rfl rfl hl.1 rfl (Nat.le_of_ble_eq_true rfl) (rok (by decide)) dX9_areClose_3 (fun H locs h => ?_)
  refine lv_aload_n hx hb dX9_areClose_6 rfl (lv_at hl 0 rfl) ?_
  refine lv_iload_n hx hb dX9_areClose_7 rfl (lv_at hl 2 rfl) ?_
  refine lv_iconst (v := (3 : Int32)) hx hb dX9_areClose_8 rfl ?_
  replace hf := bd1_inv hf
  obtain ⟨r3, hc4, hf⟩ := hf
  refine r_ciV0 C h (c_X9_get hc4) mv_X9_79 rfl 0 rfl [0, 1] rfl rfl hl.1 rfl (Nat.le_of_ble_eq_true rfl) (rok (by decide)) dX9_areClose_9 (fun H locs h => ?_)
  refine lv_icmp_eq (tgt := 34) hx hb dX9_areClose_12 rfl (fun c5 => ?_) (fun c5 => ?_)
  · replace hf := ifp c5 hf
    exact hK2 _ _ _ _ (B34 hf) _ _ _ h (lv_sub hl [0, 1, 2] rfl)
  · replace hf := ifn c5 hf
    refine lv_aload_n hx hb dX9_areClose_15 rfl (lv_at hl 0 rfl) ?_
    refine lv_iload_n hx hb dX9_areClose_16 rfl (lv_at hl 1 rfl) ?_
    refine lv_iconst (v := (1 : Int32)) hx hb dX9_areClose_17 rfl ?_
    replace hf := bd1_inv hf
    obtain ⟨r13, hc14, hf⟩ := hf
    refine r_ciV0 C h (c_X9_get hc14) mv_X9_79 rfl 0 rfl [0, 1] rfl rfl hl.1 rfl (Nat.le_of_ble_eq_true rfl) (rok (by decide)) dX9_areClose_18 (fun H locs h => ?_)
    refine lv_aload_n hx hb dX9_areClose_21 rfl (lv_at hl 0 rfl) ?_
    refine lv_iload_n hx hb dX9_areClose_22 rfl (lv_at hl 2 rfl) ?_
    refine lv_iconst (v := (1 : Int32)) hx hb dX9_areClose_23 rfl ?_
    replace hf := bd1_inv hf
    obtain ⟨r15, hc16, hf⟩ := hf
    refine r_ciV0 C h (c_X9_get hc16) mv_X9_79 rfl 0 rfl [0, 1] rfl rfl hl.1 rfl (Nat.le_of_ble_eq_true rfl) (rok (by decide)) dX9_areClose_24 (fun H locs h => ?_)
    replace hf := bd1_inv hf
    obtain ⟨r17, hc18, hf⟩ := hf
    refine r_ciS0 C h (c_X9_apart hc18) ms_X9_253 rfl [] rfl rfl hl.1 rfl (Nat.le_of_ble_eq_true rfl) (rok (by decide)) dX9_areClose_27 (fun H locs h => ?_)
    refine lv_iconst (v := (4 : Int32)) hx hb dX9_areClose_30 rfl ?_
    refine lv_icmp_gt (tgt := 38) hx hb dX9_areClose_31 rfl (fun c19 => ?_) (fun c19 => ?_)
    · replace hf := ifp c19 hf
      refine lv_iconst (v := (0 : Int32)) hx hb dX9_areClose_38 rfl ?_
      exact hK2 _ _ _ _ (B39 (0 : Int32) hf) _ _ _ h (lv_sub hl [0, 1, 2] rfl)
    · replace hf := ifn c19 hf
      exact hK2 _ _ _ _ (B34 hf) _ _ _ h (lv_sub hl [0, 1, 2] rfl)
