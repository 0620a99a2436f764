set_option maxRecDepth 100000 in
set_option maxHeartbeats 4000000 in
theorem c_X9_again {l : Launch} {G : Gt} {h_this h_this_s h_this_kept h_this_laid h_this_pile h_this_tape h_this_letters h_this_code0 h_this_read h_this_saved h_this_plan h_this_bestPlan h_this_offThen h_this_paidThen h_this_rows h_this_sorts h_this_sizes h_this_number h_this_holds h_this_heldOne h_this_trace : Nat} {x_this_isKept : Int32} {x_this_taped : Int32} {x_this_at : Int32} {x_this_begun : Int32} {x_this_token : Int32} {x_this_value : Int32} {x_this_opened : Int32} {x_this_steps : Int32} {x_this_most : Int32} {x_this_many : Int32} {x_this_few : Int32} {x_this_everHome : Int32} {x_this_firstFit : Int32} {x_this_rowMany : Int32} {x_this_traced : Int32} {x_this_own : Int32} {x_this_isParted : Int32} {f_this_kept : Nat → Int32} {f_this_s : Nat → Int32} {r : Int32} {m_this_s : Nat → Int32} (hf : f_X9_again x_this_isKept f_this_kept f_this_s = some (r, m_this_s)) : mFi l G yX9_again cX9_again 2 .int 0 [.ref h_this] [(h_this, ob 9 [.ref h_this_s, .ref h_this_kept, .ref h_this_laid, .int x_this_isKept, .ref h_this_pile, .ref h_this_tape, .int x_this_taped, .ref h_this_letters, .int x_this_at, .int x_this_begun, .int x_this_token, .int x_this_value, .int x_this_opened, .int x_this_steps, .ref h_this_code0, .ref h_this_read, .ref h_this_saved, .ref h_this_plan, .ref h_this_bestPlan, .int x_this_most, .int x_this_many, .int x_this_few, .int x_this_everHome, .ref h_this_offThen, .ref h_this_paidThen, .int x_this_firstFit, .ref h_this_rows, .int x_this_rowMany, .ref h_this_sorts, .ref h_this_sizes, .ref h_this_number, .ref h_this_holds, .ref h_this_heldOne, .ref h_this_trace, .int x_this_traced, .int x_this_own, .int x_this_isParted]), (h_this_kept, ia G 313 f_this_kept), (h_this_s, ia G 313 f_this_s)] r [(h_this, ob 9 [.ref h_this_s, .ref h_this_kept, .ref h_this_laid, .int x_this_isKept, .ref h_this_pile, .ref h_this_tape, .int x_this_taped, .ref h_this_letters, .int x_this_at, .int x_this_begun, .int x_this_token, .int x_this_value, .int x_this_opened, .int x_this_steps, .ref h_this_code0, .ref h_this_read, .ref h_this_saved, .ref h_this_plan, .ref h_this_bestPlan, .int x_this_most, .int x_this_many, .int x_this_few, .int x_this_everHome, .ref h_this_offThen, .ref h_this_paidThen, .int x_this_firstFit, .ref h_this_rows, .int x_this_rowMany, .ref h_this_sorts, .ref h_this_sizes, .ref h_this_number, .ref h_this_holds, .ref h_this_heldOne, .ref h_this_trace, .int x_this_traced, .int x_this_own, .int x_this_isParted]), (h_this_kept, ia G 313 f_this_kept), (h_this_s, ia G 313 m_this_s)] := by
  refine mFi.of (by decide +kernel) (Nat.le_of_ble_eq_true rfl) ?_
  intro p e s m below meth c A C hr hlk h ls hl
  obtain ⟨hx, hb, hml, hown, hts⟩ := id C
  replace hl : lv_has ls 2 [(0, .ref h_this)] := hl
  unfold f_X9_again at hf
  refine with_K G A 2 (fun K hK1 hK2 => ?_)
  have L12 : ∀ (n : Nat) (v1 : Int32) (g_this_s : Nat → Int32), f_X9_again_L12 f_this_kept n v1 g_this_s = some (r, m_this_s) → K 12 ([] : List Value) [(h_this, ob 9 [.ref h_this_s, .ref h_this_kept, .ref h_this_laid, .int x_this_isKept, .ref h_this_pile, .ref h_this_tape, .int x_this_taped, .ref h_this_letters, .int x_this_at, .int x_this_begun, .int x_this_token, .int x_this_value, .int x_this_opened, .int x_this_steps, .ref h_this_code0, .ref h_this_read, .ref h_this_saved, .ref h_this_plan, .ref h_this_bestPlan, .int x_this_most, .int x_this_many, .int x_this_few, .int x_this_everHome, .ref h_this_offThen, .ref h_this_paidThen, .int x_this_firstFit, .ref h_this_rows, .int x_this_rowMany, .ref h_this_sorts, .ref h_this_sizes, .ref h_this_number, .ref h_this_holds, .ref h_this_heldOne, .ref h_this_trace, .int x_this_traced, .int x_this_own, .int x_this_isParted]), (h_this_kept, ia G 313 f_this_kept), (h_this_s, ia G 313 g_this_s)] [(0, .ref h_this), (1, .int v1)] := by
    intro n
    induction n with
    | zero =>
      intro v1 g_this_s hf
      replace hf : (none : Option _) = some _ := hf
      cases hf
    | succ n ih =>
      intro v1 g_this_s hf
      rw [f_X9_again_L12] at hf
      refine hK1 _ _ _ _ (fun H locs ls h hl => ?_)
      refine lv_iload_n hx hb dX9_again_12 rfl (lv_at hl 1 rfl) ?_
      refine lv_sipush (v := (313 : Int32)) hx hb dX9_again_13 rfl ?_
      refine lv_icmp_ge (tgt := 37) hx hb dX9_again_16 rfl (fun c2 => ?_) (fun c2 => ?_)
      · replace hf := ifp c2 hf
        refine lv_aload_n hx hb dX9_again_37 rfl (lv_at hl 0 rfl) ?_
        refine r_get C h fk_X9_9 0 rfl rfl dX9_again_38 ?_
        refine lv_iconst (v := (4 : Int32)) hx hb dX9_again_41 rfl ?_
        refine r_ialdL C h 2 rfl (vlit rfl) 4 rfl dX9_again_42 ?_
        clear ih hK2 hK1
        cases hf
        exact r_iret C h hr hlk rfl dX9_again_43
      · replace hf := ifn c2 hf
        refine lv_aload_n hx hb dX9_again_19 rfl (lv_at hl 0 rfl) ?_
        refine r_get C h fk_X9_9 0 rfl rfl dX9_again_20 ?_
        refine lv_iload_n hx hb dX9_again_23 rfl (lv_at hl 1 rfl) ?_
        refine lv_aload_n hx hb dX9_again_24 rfl (lv_at hl 0 rfl) ?_
        refine r_get C h fk_X9_13 0 rfl rfl dX9_again_25 ?_
        refine lv_iload_n hx hb dX9_again_28 rfl (lv_at hl 1 rfl) ?_
        replace hf := chkI_inv hf
        obtain ⟨hi3, hf⟩ := hf
        refine r_iald C h 1 rfl hi3 dX9_again_29 ?_
        refine lv_topi (fun t4 et4 => ?_)
        replace hf := lt1_inv et4 hf
        replace hf := chkI_inv hf
        obtain ⟨hi5, hf⟩ := hf
        refine r_iast (ws' := [(h_this, ob 9 [.ref h_this_s, .ref h_this_kept, .ref h_this_laid, .int x_this_isKept, .ref h_this_pile, .ref h_this_tape, .int x_this_taped, .ref h_this_letters, .int x_this_at, .int x_this_begun, .int x_this_token, .int x_this_value, .int x_this_opened, .int x_this_steps, .ref h_this_code0, .ref h_this_read, .ref h_this_saved, .ref h_this_plan, .ref h_this_bestPlan, .int x_this_most, .int x_this_many, .int x_this_few, .int x_this_everHome, .ref h_this_offThen, .ref h_this_paidThen, .int x_this_firstFit, .ref h_this_rows, .int x_this_rowMany, .ref h_this_sorts, .ref h_this_sizes, .ref h_this_number, .ref h_this_holds, .ref h_this_heldOne, .ref h_this_trace, .int x_this_traced, .int x_this_own, .int x_this_isParted]), (h_this_kept, ia G 313 f_this_kept), (h_this_s, ia G 313 (upd g_this_s v1.toNatClampNeg t4))]) C h 2 rfl hi5 dX9_again_30 rfl (fun H locs h => ?_)
        obtain ⟨t6, et6⟩ : ∃ y : Int32, y = v1 + (1 : Int32) := ⟨_, rfl⟩
        replace hf := lt1_inv et6 hf
        refine lv_iinc (v := t6) (lv' := [(1, .int t6), (0, .ref h_this)]) hx hb dX9_again_31 hl (k := 1) rfl (by rw [et6]; rfl) (by decide) rfl (fun ls hl => ?_)
        refine lv_goto (tgt := 12) hx hb dX9_again_34 rfl ?_
        exact hK2 _ _ _ _ (ih t6 (upd g_this_s v1.toNatClampNeg t4) hf) _ _ _ h (lv_sub hl [1, 0] rfl)
  refine lv_aload_n hx hb dX9_again_0 rfl (lv_at hl 0 rfl) ?_
  refine r_get C h fk_X9_372 0 rfl rfl dX9_again_1 ?_
  refine lv_if_ne (tgt := 10) hx hb dX9_again_4 rfl (fun c1 => ?_) (fun c1 => ?_)
  · replace hf := ifn c1 hf
    refine lv_iconst (v := (0 : Int32)) hx hb dX9_again_10 rfl ?_
    refine lv_istore_n (lv' := [(1, .int (0 : Int32)), (0, .ref h_this)]) hx hb dX9_again_11 rfl hl (by decide) rfl (fun ls hl => ?_)
    exact hK2 _ _ _ _ (L12 1000 (0 : Int32) f_this_s hf) _ _ _ h (lv_sub hl [1, 0] rfl)
  · replace hf := ifp c1 hf
    refine lv_bipush (v := (-3 : Int32)) hx hb dX9_again_7 rfl ?_
    clear L12 hK2 hK1
    cases hf
    exact r_iret C h hr hlk rfl dX9_again_9
