set_option maxRecDepth 100000 in
set_option maxHeartbeats 4000000 in
theorem c_X9_isItem {l : Launch} {G : Gt} {h_this h_this_s h_this_kept h_this_laid h_this_pile h_this_tape h_this_letters h_this_code0 h_this_read h_this_saved h_this_plan h_this_bestPlan h_this_offThen h_this_paidThen h_this_rows h_this_sorts h_this_sizes h_this_number h_this_holds h_this_heldOne h_this_trace : Nat} {p0 : Int32} {p1 : Int32} {p2 : Int32} {x_this_isKept : Int32} {x_this_taped : Int32} {x_this_at : Int32} {x_this_begun : Int32} {x_this_token : Int32} {x_this_value : Int32} {x_this_opened : Int32} {x_this_steps : Int32} {x_this_most : Int32} {x_this_many : Int32} {x_this_few : Int32} {x_this_everHome : Int32} {x_this_firstFit : Int32} {x_this_rowMany : Int32} {x_this_traced : Int32} {x_this_own : Int32} {x_this_isParted : Int32} {f_this_sizes : Nat → Int32} {r : Int32} (hf : f_X9_isItem p0 p1 p2 f_this_sizes = some r) : mFi l G yX9_isItem cX9_isItem 4 .boolean 0 [.ref h_this, .int p0, .int p1, .int p2] [(h_this, ob 9 [.ref h_this_s, .ref h_this_kept, .ref h_this_laid, .int x_this_isKept, .ref h_this_pile, .ref h_this_tape, .int x_this_taped, .ref h_this_letters, .int x_this_at, .int x_this_begun, .int x_this_token, .int x_this_value, .int x_this_opened, .int x_this_steps, .ref h_this_code0, .ref h_this_read, .ref h_this_saved, .ref h_this_plan, .ref h_this_bestPlan, .int x_this_most, .int x_this_many, .int x_this_few, .int x_this_everHome, .ref h_this_offThen, .ref h_this_paidThen, .int x_this_firstFit, .ref h_this_rows, .int x_this_rowMany, .ref h_this_sorts, .ref h_this_sizes, .ref h_this_number, .ref h_this_holds, .ref h_this_heldOne, .ref h_this_trace, .int x_this_traced, .int x_this_own, .int x_this_isParted]), (h_this_sizes, ia G 4 f_this_sizes)] r [(h_this, ob 9 [.ref h_this_s, .ref h_this_kept, .ref h_this_laid, .int x_this_isKept, .ref h_this_pile, .ref h_this_tape, .int x_this_taped, .ref h_this_letters, .int x_this_at, .int x_this_begun, .int x_this_token, .int x_this_value, .int x_this_opened, .int x_this_steps, .ref h_this_code0, .ref h_this_read, .ref h_this_saved, .ref h_this_plan, .ref h_this_bestPlan, .int x_this_most, .int x_this_many, .int x_this_few, .int x_this_everHome, .ref h_this_offThen, .ref h_this_paidThen, .int x_this_firstFit, .ref h_this_rows, .int x_this_rowMany, .ref h_this_sorts, .ref h_this_sizes, .ref h_this_number, .ref h_this_holds, .ref h_this_heldOne, .ref h_this_trace, .int x_this_traced, .int x_this_own, .int x_this_isParted]), (h_this_sizes, ia G 4 f_this_sizes)] := by
  refine mFi.of (by decide +kernel) (Nat.le_of_ble_eq_true rfl) ?_
  intro p e s m below meth c A C hr hlk h ls hl
  obtain ⟨hx, hb, hml, hown, hts⟩ := id C
  replace hl : lv_has ls 4 [(0, .ref h_this), (1, .int p0), (2, .int p1), (3, .int p2)] := hl
  unfold f_X9_isItem at hf
  refine lv_iload_n hx hb dX9_isItem_0 rfl (lv_at hl 2 rfl) ?_
  refine lv_if_lt (tgt := 20) hx hb dX9_isItem_1 rfl (fun c1 => ?_) (fun c1 => ?_)
  · replace hf := ifp c1 hf
    refine lv_iconst (v := (0 : Int32)) hx hb dX9_isItem_20 rfl ?_
    cases hf
    exact r_iret C h hr hlk rfl dX9_isItem_21
  · replace hf := ifn c1 hf
    refine lv_iload_n hx hb dX9_isItem_4 rfl (lv_at hl 2 rfl) ?_
    refine lv_aload_n hx hb dX9_isItem_5 rfl (lv_at hl 0 rfl) ?_
    refine r_get C h fk_X9_56 0 rfl rfl dX9_isItem_6 ?_
    refine lv_iload_n hx hb dX9_isItem_9 rfl (lv_at hl 1 rfl) ?_
    replace hf := chkI_inv hf
    obtain ⟨hi2, hf⟩ := hf
    refine r_iald C h 1 rfl hi2 dX9_isItem_10 ?_
    refine lv_iload_n hx hb dX9_isItem_11 rfl (lv_at hl 3 rfl) ?_
    refine lv_isub hx hb dX9_isItem_12 ?_
    refine lv_icmp_ge (tgt := 20) hx hb dX9_isItem_13 rfl (fun c3 => ?_) (fun c3 => ?_)
    · replace hf := ifp c3 hf
      refine lv_iconst (v := (0 : Int32)) hx hb dX9_isItem_20 rfl ?_
      cases hf
      exact r_iret C h hr hlk rfl dX9_isItem_21
    · replace hf := ifn c3 hf
      refine lv_iconst (v := (1 : Int32)) hx hb dX9_isItem_16 rfl ?_
      refine lv_goto (tgt := 21) hx hb dX9_isItem_17 rfl ?_
      cases hf
      exact r_iret C h hr hlk rfl dX9_isItem_21
