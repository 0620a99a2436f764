set_option maxRecDepth 100000 in
set_option maxHeartbeats 4000000 in
theorem c_X9_write {l : Launch} {G : Gt} {h_this h_this_s h_this_kept h_this_laid h_this_pile h_this_tape h_this_letters h_this_code0 h_this_read h_this_saved h_this_plan h_this_bestPlan h_this_offThen h_this_paidThen h_this_rows h_this_sorts h_this_sizes h_this_number h_this_holds h_this_heldOne h_this_trace : Nat} {p0 : Int32} {p1 : Int32} {p2 : Int32} {x_this_isKept : Int32} {x_this_taped : Int32} {x_this_at : Int32} {x_this_begun : Int32} {x_this_token : Int32} {x_this_value : Int32} {x_this_opened : Int32} {x_this_steps : Int32} {x_this_most : Int32} {x_this_many : Int32} {x_this_few : Int32} {x_this_everHome : Int32} {x_this_firstFit : Int32} {x_this_rowMany : Int32} {x_this_traced : Int32} {x_this_own : Int32} {x_this_isParted : Int32} {f_this_number : Nat → Int32} {f_this_sizes : Nat → Int32} {f_this_sorts : Nat → Int32} {r : Int32} {m_this_number : Nat → Int32} (hf : f_X9_write p0 p1 p2 f_this_number f_this_sizes f_this_sorts = some (r, m_this_number)) : mFi l G yX9_write cX9_write 4 .int 2 [.ref h_this, .int p0, .int p1, .int p2] [(h_this, ob 9 [.ref h_this_s, .ref h_this_kept, .ref h_this_laid, .int x_this_isKept, .ref h_this_pile, .ref h_this_tape, .int x_this_taped, .ref h_this_letters, .int x_this_at, .int x_this_begun, .int x_this_token, .int x_this_value, .int x_this_opened, .int x_this_steps, .ref h_this_code0, .ref h_this_read, .ref h_this_saved, .ref h_this_plan, .ref h_this_bestPlan, .int x_this_most, .int x_this_many, .int x_this_few, .int x_this_everHome, .ref h_this_offThen, .ref h_this_paidThen, .int x_this_firstFit, .ref h_this_rows, .int x_this_rowMany, .ref h_this_sorts, .ref h_this_sizes, .ref h_this_number, .ref h_this_holds, .ref h_this_heldOne, .ref h_this_trace, .int x_this_traced, .int x_this_own, .int x_this_isParted]), (h_this_number, ia G 160 f_this_number), (h_this_sizes, ia G 4 f_this_sizes), (h_this_sorts, ia G 4 f_this_sorts)] r [(h_this, ob 9 [.ref h_this_s, .ref h_this_kept, .ref h_this_laid, .int x_this_isKept, .ref h_this_pile, .ref h_this_tape, .int x_this_taped, .ref h_this_letters, .int x_this_at, .int x_this_begun, .int x_this_token, .int x_this_value, .int x_this_opened, .int x_this_steps, .ref h_this_code0, .ref h_this_read, .ref h_this_saved, .ref h_this_plan, .ref h_this_bestPlan, .int x_this_most, .int x_this_many, .int x_this_few, .int x_this_everHome, .ref h_this_offThen, .ref h_this_paidThen, .int x_this_firstFit, .ref h_this_rows, .int x_this_rowMany, .ref h_this_sorts, .ref h_this_sizes, .ref h_this_number, .ref h_this_holds, .ref h_this_heldOne, .ref h_this_trace, .int x_this_traced, .int x_this_own, .int x_this_isParted]), (h_this_number, ia G 160 m_this_number), (h_this_sizes, ia G 4 f_this_sizes), (h_this_sorts, ia G 4 f_this_sorts)] := by
  refine mFi.of (by decide +kernel) (Nat.le_of_ble_eq_true rfl) ?_
  intro p e s m below meth c A C hr hlk h ls hl
  obtain ⟨hx, hb, hml, hown, hts⟩ := id C
  replace hl : lv_has ls 4 [(0, .ref h_this), (1, .int p0), (2, .int p1), (3, .int p2)] := hl
  unfold f_X9_write at hf
  refine lv_iload_n hx hb dX9_write_0 rfl (lv_at hl 1 rfl) ?_
  replace hf := bd1_inv hf
  obtain ⟨r1, hc2, hf⟩ := hf
  refine r_ciS0 C h (c_X9_isSheet hc2) ms_X9_329 rfl [] rfl rfl hl.1 rfl (Nat.le_of_ble_eq_true rfl) (rok (by decide)) dX9_write_1 (fun H locs h => ?_)
  refine lv_if_ne (tgt := 9) hx hb dX9_write_4 rfl (fun c3 => ?_) (fun c3 => ?_)
  · replace hf := ifn c3 hf
    refine lv_aload_n hx hb dX9_write_9 rfl (lv_at hl 0 rfl) ?_
    refine r_get C h fk_X9_53 0 rfl rfl dX9_write_10 ?_
    refine lv_iload_n hx hb dX9_write_13 rfl (lv_at hl 1 rfl) ?_
    replace hf := chkI_inv hf
    obtain ⟨hi4, hf⟩ := hf
    refine r_iald C h 3 rfl hi4 dX9_write_14 ?_
    refine lv_if_ge (tgt := 21) hx hb dX9_write_15 rfl (fun c5 => ?_) (fun c5 => ?_)
    · replace hf := ifp c5 hf
      refine lv_iload_n hx hb dX9_write_21 rfl (lv_at hl 2 rfl) ?_
      refine lv_iconst (v := (0 : Int32)) hx hb dX9_write_22 rfl ?_
      refine lv_aload_n hx hb dX9_write_23 rfl (lv_at hl 0 rfl) ?_
      refine r_get C h fk_X9_56 0 rfl rfl dX9_write_24 ?_
      refine lv_iload_n hx hb dX9_write_27 rfl (lv_at hl 1 rfl) ?_
      replace hf := chkI_inv hf
      obtain ⟨hi6, hf⟩ := hf
      refine r_iald C h 2 rfl hi6 dX9_write_28 ?_
      refine lv_iconst (v := (1 : Int32)) hx hb dX9_write_29 rfl ?_
      refine lv_isub hx hb dX9_write_30 ?_
      replace hf := bd1_inv hf
      obtain ⟨r7, hc8, hf⟩ := hf
      refine r_ciS0 C h (c_X9_in1 hc8) ms_X9_71 rfl [] rfl rfl hl.1 rfl (Nat.le_of_ble_eq_true rfl) (rok (by decide)) dX9_write_31 (fun H locs h => ?_)
      refine lv_if_ne (tgt := 40) hx hb dX9_write_34 rfl (fun c9 => ?_) (fun c9 => ?_)
      · replace hf := ifn c9 hf
        refine lv_aload_n hx hb dX9_write_40 rfl (lv_at hl 0 rfl) ?_
        refine r_get C h fk_X9_59 0 rfl rfl dX9_write_41 ?_
        refine lv_bipush (v := (40 : Int32)) hx hb dX9_write_44 rfl ?_
        refine lv_iload_n hx hb dX9_write_46 rfl (lv_at hl 1 rfl) ?_
        refine lv_imul hx hb dX9_write_47 ?_
        refine lv_iload_n hx hb dX9_write_48 rfl (lv_at hl 2 rfl) ?_
        refine lv_iadd hx hb dX9_write_49 ?_
        refine lv_iload_n hx hb dX9_write_50 rfl (lv_at hl 3 rfl) ?_
        refine lv_aload_n hx hb dX9_write_51 rfl (lv_at hl 0 rfl) ?_
        refine r_get C h fk_X9_53 0 rfl rfl dX9_write_52 ?_
        refine lv_iload_n hx hb dX9_write_55 rfl (lv_at hl 1 rfl) ?_
        replace hf := chkI_inv hf
        obtain ⟨hi10, hf⟩ := hf
        refine r_iald C h 3 rfl hi10 dX9_write_56 ?_
        replace hf := bd1_inv hf
        obtain ⟨r11, hc12, hf⟩ := hf
        refine r_ciS0 C h (c_X9_narrowed hc12) ms_X9_332 rfl [] rfl rfl hl.1 rfl (Nat.le_of_ble_eq_true rfl) (rok (by decide)) dX9_write_57 (fun H locs h => ?_)
        replace hf := chkI_inv hf
        obtain ⟨hi13, hf⟩ := hf
        refine r_iast (ws' := [(h_this, ob 9 [.ref h_this_s, .ref h_this_kept, .ref h_this_laid, .int x_this_isKept, .ref h_this_pile, .ref h_this_tape, .int x_this_taped, .ref h_this_letters, .int x_this_at, .int x_this_begun, .int x_this_token, .int x_this_value, .int x_this_opened, .int x_this_steps, .ref h_this_code0, .ref h_this_read, .ref h_this_saved, .ref h_this_plan, .ref h_this_bestPlan, .int x_this_most, .int x_this_many, .int x_this_few, .int x_this_everHome, .ref h_this_offThen, .ref h_this_paidThen, .int x_this_firstFit, .ref h_this_rows, .int x_this_rowMany, .ref h_this_sorts, .ref h_this_sizes, .ref h_this_number, .ref h_this_holds, .ref h_this_heldOne, .ref h_this_trace, .int x_this_traced, .int x_this_own, .int x_this_isParted]), (h_this_number, ia G 160 (upd f_this_number (((40 : Int32) * p0) + p1).toNatClampNeg r11)), (h_this_sizes, ia G 4 f_this_sizes), (h_this_sorts, ia G 4 f_this_sorts)]) C h 1 rfl hi13 dX9_write_60 rfl (fun H locs h => ?_)
        refine lv_iconst (v := (1 : Int32)) hx hb dX9_write_61 rfl ?_
        cases hf
        exact r_iret C h hr hlk rfl dX9_write_62
      · replace hf := ifp c9 hf
        refine lv_bipush (v := (-12 : Int32)) hx hb dX9_write_37 rfl ?_
        cases hf
        exact r_iret C h hr hlk rfl dX9_write_39
    · replace hf := ifn c5 hf
      refine lv_bipush (v := (-11 : Int32)) hx hb dX9_write_18 rfl ?_
      cases hf
      exact r_iret C h hr hlk rfl dX9_write_20
  · replace hf := ifp c3 hf
    refine lv_iconst (v := (-1 : Int32)) hx hb dX9_write_7 rfl ?_
    cases hf
    exact r_iret C h hr hlk rfl dX9_write_8
