set_option maxRecDepth 100000 in
set_option maxHeartbeats 4000000 in
theorem c_X9_item {l : Launch} {G : Gt} {h_this h_this_s h_this_kept h_this_laid h_this_pile h_this_tape h_this_letters h_this_code0 h_this_read h_this_saved h_this_plan h_this_bestPlan h_this_offThen h_this_paidThen h_this_rows h_this_sorts h_this_sizes h_this_number h_this_holds h_this_heldOne h_this_trace : Nat} {p0 : Int32} {p1 : Int32} {p2 : Int32} {x_this_isKept : Int32} {x_this_taped : Int32} {x_this_at : Int32} {x_this_begun : Int32} {x_this_token : Int32} {x_this_value : Int32} {x_this_opened : Int32} {x_this_steps : Int32} {x_this_most : Int32} {x_this_many : Int32} {x_this_few : Int32} {x_this_everHome : Int32} {x_this_firstFit : Int32} {x_this_rowMany : Int32} {x_this_traced : Int32} {x_this_own : Int32} {x_this_isParted : Int32} {f_this_number : Nat → Int32} {f_this_sizes : Nat → Int32} {f_this_sorts : Nat → Int32} {r : Int32} (hf : f_X9_item p0 p1 p2 f_this_number f_this_sizes f_this_sorts = some r) : mFi l G yX9_item cX9_item 5 .int 2 [.ref h_this, .int p0, .int p1, .int p2] [(h_this, ob 9 [.ref h_this_s, .ref h_this_kept, .ref h_this_laid, .int x_this_isKept, .ref h_this_pile, .ref h_this_tape, .int x_this_taped, .ref h_this_letters, .int x_this_at, .int x_this_begun, .int x_this_token, .int x_this_value, .int x_this_opened, .int x_this_steps, .ref h_this_code0, .ref h_this_read, .ref h_this_saved, .ref h_this_plan, .ref h_this_bestPlan, .int x_this_most, .int x_this_many, .int x_this_few, .int x_this_everHome, .ref h_this_offThen, .ref h_this_paidThen, .int x_this_firstFit, .ref h_this_rows, .int x_this_rowMany, .ref h_this_sorts, .ref h_this_sizes, .ref h_this_number, .ref h_this_holds, .ref h_this_heldOne, .ref h_this_trace, .int x_this_traced, .int x_this_own, .int x_this_isParted]), (h_this_number, ia G 160 f_this_number), (h_this_sizes, ia G 4 f_this_sizes), (h_this_sorts, ia G 4 f_this_sorts)] r [(h_this, ob 9 [.ref h_this_s, .ref h_this_kept, .ref h_this_laid, .int x_this_isKept, .ref h_this_pile, .ref h_this_tape, .int x_this_taped, .ref h_this_letters, .int x_this_at, .int x_this_begun, .int x_this_token, .int x_this_value, .int x_this_opened, .int x_this_steps, .ref h_this_code0, .ref h_this_read, .ref h_this_saved, .ref h_this_plan, .ref h_this_bestPlan, .int x_this_most, .int x_this_many, .int x_this_few, .int x_this_everHome, .ref h_this_offThen, .ref h_this_paidThen, .int x_this_firstFit, .ref h_this_rows, .int x_this_rowMany, .ref h_this_sorts, .ref h_this_sizes, .ref h_this_number, .ref h_this_holds, .ref h_this_heldOne, .ref h_this_trace, .int x_this_traced, .int x_this_own, .int x_this_isParted]), (h_this_number, ia G 160 f_this_number), (h_this_sizes, ia G 4 f_this_sizes), (h_this_sorts, ia G 4 f_this_sorts)] := by
  refine mFi.of (by decide +kernel) (Nat.le_of_ble_eq_true rfl) ?_
  intro p e s m below meth c A C hr hlk h ls hl
  obtain ⟨hx, hb, hml, hown, hts⟩ := id C
  replace hl : lv_has ls 5 [(0, .ref h_this), (1, .int p0), (2, .int p1), (3, .int p2)] := hl
  unfold f_X9_item at hf
  refine lv_iload_n hx hb dX9_item_0 rfl (lv_at hl 1 rfl) ?_
  replace hf := bd1_inv hf
  obtain ⟨r1, hc2, hf⟩ := hf
  refine r_ciS0 C h (c_X9_isSheet hc2) ms_X9_329 rfl [] rfl rfl hl.1 rfl (Nat.le_of_ble_eq_true rfl) (rok (by decide)) dX9_item_1 (fun H locs h => ?_)
  refine lv_if_eq (tgt := 16) hx hb dX9_item_4 rfl (fun c3 => ?_) (fun c3 => ?_)
  · replace hf := ifp c3 hf
    refine lv_iconst (v := (-1 : Int32)) hx hb dX9_item_16 rfl ?_
    cases hf
    exact r_iret C h hr hlk rfl dX9_item_17
  · replace hf := ifn c3 hf
    refine lv_iload_n hx hb dX9_item_7 rfl (lv_at hl 2 rfl) ?_
    refine lv_iconst (v := (0 : Int32)) hx hb dX9_item_8 rfl ?_
    refine lv_iconst (v := (4 : Int32)) hx hb dX9_item_9 rfl ?_
    replace hf := bd1_inv hf
    obtain ⟨r4, hc5, hf⟩ := hf
    refine r_ciS0 C h (c_X9_in1 hc5) ms_X9_71 rfl [] rfl rfl hl.1 rfl (Nat.le_of_ble_eq_true rfl) (rok (by decide)) dX9_item_10 (fun H locs h => ?_)
    refine lv_if_ne (tgt := 18) hx hb dX9_item_13 rfl (fun c6 => ?_) (fun c6 => ?_)
    · replace hf := ifn c6 hf
      refine lv_aload_n hx hb dX9_item_18 rfl (lv_at hl 0 rfl) ?_
      refine lv_iload_n hx hb dX9_item_19 rfl (lv_at hl 1 rfl) ?_
      refine lv_iload_n hx hb dX9_item_20 rfl (lv_at hl 2 rfl) ?_
      replace hf := bd1_inv hf
      obtain ⟨r7, hc8, hf⟩ := hf
      refine r_ciV0 C h (c_X9_lacks hc8) mv_X9_335 rfl 0 rfl [0, 3] rfl rfl hl.1 rfl (Nat.le_of_ble_eq_true rfl) (rok (by decide)) dX9_item_21 (fun H locs h => ?_)
      refine lv_istore (lv' := [(4, .int r7), (0, .ref h_this), (1, .int p0), (2, .int p1), (3, .int p2)]) hx hb dX9_item_24 hl (by decide) rfl (fun ls hl => ?_)
      refine lv_iload hx hb dX9_item_26 (lv_at hl 0 rfl) ?_
      refine lv_if_eq (tgt := 36) hx hb dX9_item_28 rfl (fun c9 => ?_) (fun c9 => ?_)
      · replace hf := ifp c9 hf
        refine lv_iload_n hx hb dX9_item_36 rfl (lv_at hl 4 rfl) ?_
        refine lv_iconst (v := (0 : Int32)) hx hb dX9_item_37 rfl ?_
        refine lv_aload_n hx hb dX9_item_38 rfl (lv_at hl 1 rfl) ?_
        refine r_get C h fk_X9_56 0 rfl rfl dX9_item_39 ?_
        refine lv_iload_n hx hb dX9_item_42 rfl (lv_at hl 2 rfl) ?_
        replace hf := chkI_inv hf
        obtain ⟨hi10, hf⟩ := hf
        refine r_iald C h 2 rfl hi10 dX9_item_43 ?_
        refine lv_iconst (v := (1 : Int32)) hx hb dX9_item_44 rfl ?_
        refine lv_isub hx hb dX9_item_45 ?_
        replace hf := bd1_inv hf
        obtain ⟨r11, hc12, hf⟩ := hf
        refine r_ciS0 C h (c_X9_in1 hc12) ms_X9_71 rfl [] rfl rfl hl.1 rfl (Nat.le_of_ble_eq_true rfl) (rok (by decide)) dX9_item_46 (fun H locs h => ?_)
        refine lv_if_eq (tgt := 66) hx hb dX9_item_49 rfl (fun c13 => ?_) (fun c13 => ?_)
        · replace hf := ifp c13 hf
          refine lv_bipush (v := (-12 : Int32)) hx hb dX9_item_66 rfl ?_
          cases hf
          exact r_iret C h hr hlk rfl dX9_item_68
        · replace hf := ifn c13 hf
          refine lv_aload_n hx hb dX9_item_52 rfl (lv_at hl 1 rfl) ?_
          refine r_get C h fk_X9_59 0 rfl rfl dX9_item_53 ?_
          refine lv_bipush (v := (40 : Int32)) hx hb dX9_item_56 rfl ?_
          refine lv_iload_n hx hb dX9_item_58 rfl (lv_at hl 2 rfl) ?_
          refine lv_imul hx hb dX9_item_59 ?_
          refine lv_iload_n hx hb dX9_item_60 rfl (lv_at hl 4 rfl) ?_
          refine lv_iadd hx hb dX9_item_61 ?_
          replace hf := chkI_inv hf
          obtain ⟨hi14, hf⟩ := hf
          refine r_iald C h 1 rfl hi14 dX9_item_62 ?_
          refine lv_goto (tgt := 68) hx hb dX9_item_63 rfl ?_
          cases hf
          exact r_iret C h hr hlk rfl dX9_item_68
      · replace hf := ifn c9 hf
        refine lv_iload hx hb dX9_item_31 (lv_at hl 0 rfl) ?_
        refine lv_goto (tgt := 68) hx hb dX9_item_33 rfl ?_
        cases hf
        exact r_iret C h hr hlk rfl dX9_item_68
    · replace hf := ifp c6 hf
      refine lv_iconst (v := (-1 : Int32)) hx hb dX9_item_16 rfl ?_
      cases hf
      exact r_iret C h hr hlk rfl dX9_item_17
