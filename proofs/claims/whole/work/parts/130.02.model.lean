set_option maxRecDepth 100000 in
set_option maxHeartbeats 4000000 in
theorem c_X9_daysOf {l : Launch} {G : Gt} {h_this h_this_s h_this_kept h_this_laid h_this_pile h_this_tape h_this_letters h_this_code0 h_this_read h_this_saved h_this_plan h_this_bestPlan h_this_offThen h_this_paidThen h_this_rows h_this_sorts h_this_sizes h_this_number h_this_holds h_this_heldOne h_this_trace : Nat} {p0 : Int32} {x_this_isKept : Int32} {x_this_taped : Int32} {x_this_at : Int32} {x_this_begun : Int32} {x_this_token : Int32} {x_this_value : Int32} {x_this_opened : Int32} {x_this_steps : Int32} {x_this_most : Int32} {x_this_many : Int32} {x_this_few : Int32} {x_this_everHome : Int32} {x_this_firstFit : Int32} {x_this_rowMany : Int32} {x_this_traced : Int32} {x_this_own : Int32} {x_this_isParted : Int32} {f_this_s : Nat → Int32} {r : Int32} (hf : f_X9_daysOf p0 f_this_s = some r) : mFi l G yX9_daysOf cX9_daysOf 3 .int 1 [.ref h_this, .int p0] [(h_this, ob 9 [.ref h_this_s, .ref h_this_kept, .ref h_this_laid, .int x_this_isKept, .ref h_this_pile, .ref h_this_tape, .int x_this_taped, .ref h_this_letters, .int x_this_at, .int x_this_begun, .int x_this_token, .int x_this_value, .int x_this_opened, .int x_this_steps, .ref h_this_code0, .ref h_this_read, .ref h_this_saved, .ref h_this_plan, .ref h_this_bestPlan, .int x_this_most, .int x_this_many, .int x_this_few, .int x_this_everHome, .ref h_this_offThen, .ref h_this_paidThen, .int x_this_firstFit, .ref h_this_rows, .int x_this_rowMany, .ref h_this_sorts, .ref h_this_sizes, .ref h_this_number, .ref h_this_holds, .ref h_this_heldOne, .ref h_this_trace, .int x_this_traced, .int x_this_own, .int x_this_isParted]), (h_this_s, ia G 313 f_this_s)] r [(h_this, ob 9 [.ref h_this_s, .ref h_this_kept, .ref h_this_laid, .int x_this_isKept, .ref h_this_pile, .ref h_this_tape, .int x_this_taped, .ref h_this_letters, .int x_this_at, .int x_this_begun, .int x_this_token, .int x_this_value, .int x_this_opened, .int x_this_steps, .ref h_this_code0, .ref h_this_read, .ref h_this_saved, .ref h_this_plan, .ref h_this_bestPlan, .int x_this_most, .int x_this_many, .int x_this_few, .int x_this_everHome, .ref h_this_offThen, .ref h_this_paidThen, .int x_this_firstFit, .ref h_this_rows, .int x_this_rowMany, .ref h_this_sorts, .ref h_this_sizes, .ref h_this_number, .ref h_this_holds, .ref h_this_heldOne, .ref h_this_trace, .int x_this_traced, .int x_this_own, .int x_this_isParted]), (h_this_s, ia G 313 f_this_s)] := by
  refine mFi.of (by decide +kernel) (Nat.le_of_ble_eq_true rfl) ?_
  intro p e s m below meth c A C hr hlk h ls hl
  obtain ⟨hx, hb, hml, hown, hts⟩ := id C
  replace hl : lv_has ls 3 [(0, .ref h_this), (1, .int p0)] := hl
  unfold f_X9_daysOf at hf
  refine with_K G A 3 (fun K hK1 hK2 => ?_)
  have B24 : ∀ (s0 : Int32), f_X9_daysOf_b24 p0 s0 = some r → K 24 [.int s0] [(h_this, ob 9 [.ref h_this_s, .ref h_this_kept, .ref h_this_laid, .int x_this_isKept, .ref h_this_pile, .ref h_this_tape, .int x_this_taped, .ref h_this_letters, .int x_this_at, .int x_this_begun, .int x_this_token, .int x_this_value, .int x_this_opened, .int x_this_steps, .ref h_this_code0, .ref h_this_read, .ref h_this_saved, .ref h_this_plan, .ref h_this_bestPlan, .int x_this_most, .int x_this_many, .int x_this_few, .int x_this_everHome, .ref h_this_offThen, .ref h_this_paidThen, .int x_this_firstFit, .ref h_this_rows, .int x_this_rowMany, .ref h_this_sorts, .ref h_this_sizes, .ref h_this_number, .ref h_this_holds, .ref h_this_heldOne, .ref h_this_trace, .int x_this_traced, .int x_this_own, .int x_this_isParted]), (h_this_s, ia G 313 f_this_s)] [(1, .int p0)] := by
    intro s0 hf
    unfold f_X9_daysOf_b24 at hf
    refine hK1 _ _ _ _ (fun H locs ls h hl => ?_)
    refine lv_istore_n (lv' := [(2, .int s0), (1, .int p0)]) hx hb dX9_daysOf_24 rfl hl (by decide) rfl (fun ls hl => ?_)
    refine lv_iload_n hx hb dX9_daysOf_25 rfl (lv_at hl 1 rfl) ?_
    refine lv_iload_n hx hb dX9_daysOf_26 rfl (lv_at hl 0 rfl) ?_
    refine lv_icmp_ge (tgt := 34) hx hb dX9_daysOf_27 rfl (fun c4 => ?_) (fun c4 => ?_)
    · replace hf := ifp c4 hf
      refine lv_iload_n hx hb dX9_daysOf_34 rfl (lv_at hl 0 rfl) ?_
      cases hf
      exact r_iret C h hr hlk rfl dX9_daysOf_35
    · replace hf := ifn c4 hf
      refine lv_iload_n hx hb dX9_daysOf_30 rfl (lv_at hl 1 rfl) ?_
      refine lv_goto (tgt := 35) hx hb dX9_daysOf_31 rfl ?_
      cases hf
      exact r_iret C h hr hlk rfl dX9_daysOf_35
  refine lv_aload_n hx hb dX9_daysOf_0 rfl (lv_at hl 0 rfl) ?_
  replace hf := bd1_inv hf
  obtain ⟨r1, hc2, hf⟩ := hf
  refine r_ciV0 C h (c_X9_isOver hc2) mv_X9_232 rfl 0 rfl [0, 1] rfl rfl hl.1 rfl (Nat.le_of_ble_eq_true rfl) (rok (by decide)) dX9_daysOf_1 (fun H locs h => ?_)
  refine lv_if_eq (tgt := 11) hx hb dX9_daysOf_4 rfl (fun c3 => ?_) (fun c3 => ?_)
  · replace hf := ifp c3 hf
    refine lv_aload_n hx hb dX9_daysOf_11 rfl (lv_at hl 0 rfl) ?_
    refine r_get C h fk_X9_9 0 rfl rfl dX9_daysOf_12 ?_
    refine lv_iconst (v := (1 : Int32)) hx hb dX9_daysOf_15 rfl ?_
    refine r_ialdL C h 1 rfl (vlit rfl) 1 rfl dX9_daysOf_16 ?_
    refine lv_aload_n hx hb dX9_daysOf_17 rfl (lv_at hl 0 rfl) ?_
    refine r_get C h fk_X9_9 0 rfl rfl dX9_daysOf_18 ?_
    refine lv_iconst (v := (0 : Int32)) hx hb dX9_daysOf_21 rfl ?_
    refine r_ialdL C h 1 rfl (vlit rfl) 0 rfl dX9_daysOf_22 ?_
    refine lv_isub hx hb dX9_daysOf_23 ?_
    exact hK2 _ _ _ _ (B24 ((f_this_s 1) - (f_this_s 0)) hf) _ _ _ h (lv_sub hl [1] rfl)
  · replace hf := ifn c3 hf
    refine lv_iconst (v := (0 : Int32)) hx hb dX9_daysOf_7 rfl ?_
    refine lv_goto (tgt := 24) hx hb dX9_daysOf_8 rfl ?_
    exact hK2 _ _ _ _ (B24 (0 : Int32) hf) _ _ _ h (lv_sub hl [1] rfl)
