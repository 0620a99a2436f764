set_option maxRecDepth 100000 in
set_option maxHeartbeats 4000000 in
theorem c_X9_shelf {l : Launch} {G : Gt} {h_this h_this_s h_this_kept h_this_laid h_this_pile h_this_tape h_this_letters h_this_code0 h_this_read h_this_saved h_this_plan h_this_bestPlan h_this_offThen h_this_paidThen h_this_rows h_this_sorts h_this_sizes h_this_number h_this_holds h_this_heldOne h_this_trace : Nat} {p0 : Int32} {p1 : Int32} {p2 : Int32} {x_this_isKept : Int32} {x_this_taped : Int32} {x_this_at : Int32} {x_this_begun : Int32} {x_this_token : Int32} {x_this_value : Int32} {x_this_opened : Int32} {x_this_steps : Int32} {x_this_most : Int32} {x_this_many : Int32} {x_this_few : Int32} {x_this_everHome : Int32} {x_this_firstFit : Int32} {x_this_rowMany : Int32} {x_this_traced : Int32} {x_this_own : Int32} {x_this_isParted : Int32} {f_this_heldOne : Nat → Int32} {f_this_holds : Nat → Int32} {f_this_s : Nat → Int32} {f_this_sizes : Nat → Int32} {f_this_sorts : Nat → Int32} {r : Int32} {m_this_heldOne : Nat → Int32} {m_this_holds : Nat → Int32} (hf : f_X9_shelf p0 p1 p2 f_this_heldOne f_this_holds f_this_s f_this_sizes f_this_sorts = some (r, m_this_heldOne, m_this_holds)) : mFi l G yX9_shelf cX9_shelf 4 .int 2 [.ref h_this, .int p0, .int p1, .int p2] [(h_this, ob 9 [.ref h_this_s, .ref h_this_kept, .ref h_this_laid, .int x_this_isKept, .ref h_this_pile, .ref h_this_tape, .int x_this_taped, .ref h_this_letters, .int x_this_at, .int x_this_begun, .int x_this_token, .int x_this_value, .int x_this_opened, .int x_this_steps, .ref h_this_code0, .ref h_this_read, .ref h_this_saved, .ref h_this_plan, .ref h_this_bestPlan, .int x_this_most, .int x_this_many, .int x_this_few, .int x_this_everHome, .ref h_this_offThen, .ref h_this_paidThen, .int x_this_firstFit, .ref h_this_rows, .int x_this_rowMany, .ref h_this_sorts, .ref h_this_sizes, .ref h_this_number, .ref h_this_holds, .ref h_this_heldOne, .ref h_this_trace, .int x_this_traced, .int x_this_own, .int x_this_isParted]), (h_this_heldOne, ia G 4 f_this_heldOne), (h_this_holds, ia G 4 f_this_holds), (h_this_s, ia G 313 f_this_s), (h_this_sizes, ia G 4 f_this_sizes), (h_this_sorts, ia G 4 f_this_sorts)] r [(h_this, ob 9 [.ref h_this_s, .ref h_this_kept, .ref h_this_laid, .int x_this_isKept, .ref h_this_pile, .ref h_this_tape, .int x_this_taped, .ref h_this_letters, .int x_this_at, .int x_this_begun, .int x_this_token, .int x_this_value, .int x_this_opened, .int x_this_steps, .ref h_this_code0, .ref h_this_read, .ref h_this_saved, .ref h_this_plan, .ref h_this_bestPlan, .int x_this_most, .int x_this_many, .int x_this_few, .int x_this_everHome, .ref h_this_offThen, .ref h_this_paidThen, .int x_this_firstFit, .ref h_this_rows, .int x_this_rowMany, .ref h_this_sorts, .ref h_this_sizes, .ref h_this_number, .ref h_this_holds, .ref h_this_heldOne, .ref h_this_trace, .int x_this_traced, .int x_this_own, .int x_this_isParted]), (h_this_heldOne, ia G 4 m_this_heldOne), (h_this_holds, ia G 4 m_this_holds), (h_this_s, ia G 313 f_this_s), (h_this_sizes, ia G 4 f_this_sizes), (h_this_sorts, ia G 4 f_this_sorts)] := by
  refine mFi.of (by decide +kernel) (Nat.le_of_ble_eq_true rfl) ?_
  intro p e s m below meth c A C hr hlk h ls hl
  obtain ⟨hx, hb, hml, hown, hts⟩ := id C
  replace hl : lv_has ls 4 [(0, .ref h_this), (1, .int p0), (2, .int p1), (3, .int p2)] := hl
  unfold f_X9_shelf at hf
  refine with_K G A 4 (fun K hK1 hK2 => ?_)
  have B82 : ∀ (s1 : Int32) (s2 : Int32), f_X9_shelf_b82 p0 p1 p2 f_this_heldOne f_this_holds f_this_sizes s1 s2 = some (r, m_this_heldOne, m_this_holds) → K 82 [.int s2, .int s1, .ref h_this_holds] [(h_this, ob 9 [.ref h_this_s, .ref h_this_kept, .ref h_this_laid, .int x_this_isKept, .ref h_this_pile, .ref h_this_tape, .int x_this_taped, .ref h_this_letters, .int x_this_at, .int x_this_begun, .int x_this_token, .int x_this_value, .int x_this_opened, .int x_this_steps, .ref h_this_code0, .ref h_this_read, .ref h_this_saved, .ref h_this_plan, .ref h_this_bestPlan, .int x_this_most, .int x_this_many, .int x_this_few, .int x_this_everHome, .ref h_this_offThen, .ref h_this_paidThen, .int x_this_firstFit, .ref h_this_rows, .int x_this_rowMany, .ref h_this_sorts, .ref h_this_sizes, .ref h_this_number, .ref h_this_holds, .ref h_this_heldOne, .ref h_this_trace, .int x_this_traced, .int x_this_own, .int x_this_isParted]), (h_this_heldOne, ia G 4 f_this_heldOne), (h_this_holds, ia G 4 f_this_holds), (h_this_s, ia G 313 f_this_s), (h_this_sizes, ia G 4 f_this_sizes), (h_this_sorts, ia G 4 f_this_sorts)] [(0, .ref h_this), (1, .int p0), (2, .int p1), (3, .int p2)] := by
    intro s1 s2 hf
    unfold f_X9_shelf_b82 at hf
    refine hK1 _ _ _ _ (fun H locs ls h hl => ?_)
    replace hf := chkI_inv hf
    obtain ⟨hi11, hf⟩ := hf
    refine r_iast (ws' := [(h_this, ob 9 [.ref h_this_s, .ref h_this_kept, .ref h_this_laid, .int x_this_isKept, .ref h_this_pile, .ref h_this_tape, .int x_this_taped, .ref h_this_letters, .int x_this_at, .int x_this_begun, .int x_this_token, .int x_this_value, .int x_this_opened, .int x_this_steps, .ref h_this_code0, .ref h_this_read, .ref h_this_saved, .ref h_this_plan, .ref h_this_bestPlan, .int x_this_most, .int x_this_many, .int x_this_few, .int x_this_everHome, .ref h_this_offThen, .ref h_this_paidThen, .int x_this_firstFit, .ref h_this_rows, .int x_this_rowMany, .ref h_this_sorts, .ref h_this_sizes, .ref h_this_number, .ref h_this_holds, .ref h_this_heldOne, .ref h_this_trace, .int x_this_traced, .int x_this_own, .int x_this_isParted]), (h_this_heldOne, ia G 4 f_this_heldOne), (h_this_holds, ia G 4 (upd f_this_holds s1.toNatClampNeg s2)), (h_this_s, ia G 313 f_this_s), (h_this_sizes, ia G 4 f_this_sizes), (h_this_sorts, ia G 4 f_this_sorts)]) C h 2 rfl hi11 dX9_shelf_82 rfl (fun H locs h => ?_)
    refine lv_aload_n hx hb dX9_shelf_83 rfl (lv_at hl 0 rfl) ?_
    refine r_get C h fk_X9_65 0 rfl rfl dX9_shelf_84 ?_
    refine lv_iload_n hx hb dX9_shelf_87 rfl (lv_at hl 1 rfl) ?_
    refine lv_iload_n hx hb dX9_shelf_88 rfl (lv_at hl 2 rfl) ?_
    refine lv_if_ne (tgt := 96) hx hb dX9_shelf_89 rfl (fun c12 => ?_) (fun c12 => ?_)
    · replace hf := ifn c12 hf
      refine lv_iload_n hx hb dX9_shelf_96 rfl (lv_at hl 2 rfl) ?_
      refine lv_iconst (v := (1 : Int32)) hx hb dX9_shelf_97 rfl ?_
      refine lv_icmp_ne (tgt := 110) hx hb dX9_shelf_98 rfl (fun c13 => ?_) (fun c13 => ?_)
      · replace hf := ifn c13 hf
        refine lv_iconst (v := (0 : Int32)) hx hb dX9_shelf_110 rfl ?_
        replace hf := chkI_inv hf
        obtain ⟨hi14, hf⟩ := hf
        refine r_iast (ws' := [(h_this, ob 9 [.ref h_this_s, .ref h_this_kept, .ref h_this_laid, .int x_this_isKept, .ref h_this_pile, .ref h_this_tape, .int x_this_taped, .ref h_this_letters, .int x_this_at, .int x_this_begun, .int x_this_token, .int x_this_value, .int x_this_opened, .int x_this_steps, .ref h_this_code0, .ref h_this_read, .ref h_this_saved, .ref h_this_plan, .ref h_this_bestPlan, .int x_this_most, .int x_this_many, .int x_this_few, .int x_this_everHome, .ref h_this_offThen, .ref h_this_paidThen, .int x_this_firstFit, .ref h_this_rows, .int x_this_rowMany, .ref h_this_sorts, .ref h_this_sizes, .ref h_this_number, .ref h_this_holds, .ref h_this_heldOne, .ref h_this_trace, .int x_this_traced, .int x_this_own, .int x_this_isParted]), (h_this_heldOne, ia G 4 (upd f_this_heldOne p0.toNatClampNeg (0 : Int32))), (h_this_holds, ia G 4 (upd f_this_holds s1.toNatClampNeg s2)), (h_this_s, ia G 313 f_this_s), (h_this_sizes, ia G 4 f_this_sizes), (h_this_sorts, ia G 4 f_this_sorts)]) C h 1 rfl hi14 dX9_shelf_111 rfl (fun H locs h => ?_)
        refine lv_iconst (v := (1 : Int32)) hx hb dX9_shelf_112 rfl ?_
        clear  hK2 hK1
        cases hf
        exact r_iret C h hr hlk rfl dX9_shelf_113
      · replace hf := ifp c13 hf
        refine lv_aload_n hx hb dX9_shelf_101 rfl (lv_at hl 0 rfl) ?_
        refine r_get C h fk_X9_56 0 rfl rfl dX9_shelf_102 ?_
        refine lv_iload_n hx hb dX9_shelf_105 rfl (lv_at hl 3 rfl) ?_
        replace hf := chkI_inv hf
        obtain ⟨hi15, hf⟩ := hf
        refine r_iald C h 4 rfl hi15 dX9_shelf_106 ?_
        refine lv_goto (tgt := 111) hx hb dX9_shelf_107 rfl ?_
        refine lv_topi (fun t16 et16 => ?_)
        replace hf := lt1_inv et16 hf
        replace hf := chkI_inv hf
        obtain ⟨hi17, hf⟩ := hf
        refine r_iast (ws' := [(h_this, ob 9 [.ref h_this_s, .ref h_this_kept, .ref h_this_laid, .int x_this_isKept, .ref h_this_pile, .ref h_this_tape, .int x_this_taped, .ref h_this_letters, .int x_this_at, .int x_this_begun, .int x_this_token, .int x_this_value, .int x_this_opened, .int x_this_steps, .ref h_this_code0, .ref h_this_read, .ref h_this_saved, .ref h_this_plan, .ref h_this_bestPlan, .int x_this_most, .int x_this_many, .int x_this_few, .int x_this_everHome, .ref h_this_offThen, .ref h_this_paidThen, .int x_this_firstFit, .ref h_this_rows, .int x_this_rowMany, .ref h_this_sorts, .ref h_this_sizes, .ref h_this_number, .ref h_this_holds, .ref h_this_heldOne, .ref h_this_trace, .int x_this_traced, .int x_this_own, .int x_this_isParted]), (h_this_heldOne, ia G 4 (upd f_this_heldOne p0.toNatClampNeg t16)), (h_this_holds, ia G 4 (upd f_this_holds s1.toNatClampNeg s2)), (h_this_s, ia G 313 f_this_s), (h_this_sizes, ia G 4 f_this_sizes), (h_this_sorts, ia G 4 f_this_sorts)]) C h 1 rfl hi17 dX9_shelf_111 rfl (fun H locs h => ?_)
        refine lv_iconst (v := (1 : Int32)) hx hb dX9_shelf_112 rfl ?_
        clear  hK2 hK1
        cases hf
        exact r_iret C h hr hlk rfl dX9_shelf_113
    · replace hf := ifp c12 hf
      refine lv_iload_n hx hb dX9_shelf_92 rfl (lv_at hl 3 rfl) ?_
      refine lv_goto (tgt := 111) hx hb dX9_shelf_93 rfl ?_
      replace hf := chkI_inv hf
      obtain ⟨hi18, hf⟩ := hf
      refine r_iast (ws' := [(h_this, ob 9 [.ref h_this_s, .ref h_this_kept, .ref h_this_laid, .int x_this_isKept, .ref h_this_pile, .ref h_this_tape, .int x_this_taped, .ref h_this_letters, .int x_this_at, .int x_this_begun, .int x_this_token, .int x_this_value, .int x_this_opened, .int x_this_steps, .ref h_this_code0, .ref h_this_read, .ref h_this_saved, .ref h_this_plan, .ref h_this_bestPlan, .int x_this_most, .int x_this_many, .int x_this_few, .int x_this_everHome, .ref h_this_offThen, .ref h_this_paidThen, .int x_this_firstFit, .ref h_this_rows, .int x_this_rowMany, .ref h_this_sorts, .ref h_this_sizes, .ref h_this_number, .ref h_this_holds, .ref h_this_heldOne, .ref h_this_trace, .int x_this_traced, .int x_this_own, .int x_this_isParted]), (h_this_heldOne, ia G 4 (upd f_this_heldOne p0.toNatClampNeg p2)), (h_this_holds, ia G 4 (upd f_this_holds s1.toNatClampNeg s2)), (h_this_s, ia G 313 f_this_s), (h_this_sizes, ia G 4 f_this_sizes), (h_this_sorts, ia G 4 f_this_sorts)]) C h 1 rfl hi18 dX9_shelf_111 rfl (fun H locs h => ?_)
      refine lv_iconst (v := (1 : Int32)) hx hb dX9_shelf_112 rfl ?_
      clear  hK2 hK1
      cases hf
      exact r_iret C h hr hlk rfl dX9_shelf_113
  have B81 : ∀ (s1 : Int32), f_X9_shelf_b81 p0 p1 p2 f_this_heldOne f_this_holds f_this_sizes s1 = some (r, m_this_heldOne, m_this_holds) → K 81 [.int s1, .ref h_this_holds] [(h_this, ob 9 [.ref h_this_s, .ref h_this_kept, .ref h_this_laid, .int x_this_isKept, .ref h_this_pile, .ref h_this_tape, .int x_this_taped, .ref h_this_letters, .int x_this_at, .int x_this_begun, .int x_this_token, .int x_this_value, .int x_this_opened, .int x_this_steps, .ref h_this_code0, .ref h_this_read, .ref h_this_saved, .ref h_this_plan, .ref h_this_bestPlan, .int x_this_most, .int x_this_many, .int x_this_few, .int x_this_everHome, .ref h_this_offThen, .ref h_this_paidThen, .int x_this_firstFit, .ref h_this_rows, .int x_this_rowMany, .ref h_this_sorts, .ref h_this_sizes, .ref h_this_number, .ref h_this_holds, .ref h_this_heldOne, .ref h_this_trace, .int x_this_traced, .int x_this_own, .int x_this_isParted]), (h_this_heldOne, ia G 4 f_this_heldOne), (h_this_holds, ia G 4 f_this_holds), (h_this_s, ia G 313 f_this_s), (h_this_sizes, ia G 4 f_this_sizes), (h_this_sorts, ia G 4 f_this_sorts)] [(0, .ref h_this), (1, .int p0), (2, .int p1), (3, .int p2)] := by
    intro s1 hf
    unfold f_X9_shelf_b81 at hf
    refine hK1 _ _ _ _ (fun H locs ls h hl => ?_)
    refine lv_iconst (v := (-1 : Int32)) hx hb dX9_shelf_81 rfl ?_
    exact hK2 _ _ _ _ (B82 s1 (-1 : Int32) hf) _ _ _ h (lv_sub hl [0, 1, 2, 3] rfl)
  have B42 : f_X9_shelf_b42 p0 p1 p2 f_this_heldOne f_this_holds f_this_sizes f_this_sorts = some (r, m_this_heldOne, m_this_holds) → K 42 ([] : List Value) [(h_this, ob 9 [.ref h_this_s, .ref h_this_kept, .ref h_this_laid, .int x_this_isKept, .ref h_this_pile, .ref h_this_tape, .int x_this_taped, .ref h_this_letters, .int x_this_at, .int x_this_begun, .int x_this_token, .int x_this_value, .int x_this_opened, .int x_this_steps, .ref h_this_code0, .ref h_this_read, .ref h_this_saved, .ref h_this_plan, .ref h_this_bestPlan, .int x_this_most, .int x_this_many, .int x_this_few, .int x_this_everHome, .ref h_this_offThen, .ref h_this_paidThen, .int x_this_firstFit, .ref h_this_rows, .int x_this_rowMany, .ref h_this_sorts, .ref h_this_sizes, .ref h_this_number, .ref h_this_holds, .ref h_this_heldOne, .ref h_this_trace, .int x_this_traced, .int x_this_own, .int x_this_isParted]), (h_this_heldOne, ia G 4 f_this_heldOne), (h_this_holds, ia G 4 f_this_holds), (h_this_s, ia G 313 f_this_s), (h_this_sizes, ia G 4 f_this_sizes), (h_this_sorts, ia G 4 f_this_sorts)] [(0, .ref h_this), (1, .int p0), (2, .int p1), (3, .int p2)] := by
    intro hf
    unfold f_X9_shelf_b42 at hf
    refine hK1 _ _ _ _ (fun H locs ls h hl => ?_)
    refine lv_aload_n hx hb dX9_shelf_42 rfl (lv_at hl 0 rfl) ?_
    refine r_get C h fk_X9_62 0 rfl rfl dX9_shelf_43 ?_
    refine lv_iload_n hx hb dX9_shelf_46 rfl (lv_at hl 1 rfl) ?_
    refine lv_iload_n hx hb dX9_shelf_47 rfl (lv_at hl 2 rfl) ?_
    refine lv_if_ne (tgt := 55) hx hb dX9_shelf_48 rfl (fun c9 => ?_) (fun c9 => ?_)
    · replace hf := ifn c9 hf
      refine lv_iload_n hx hb dX9_shelf_55 rfl (lv_at hl 2 rfl) ?_
      refine lv_iconst (v := (1 : Int32)) hx hb dX9_shelf_56 rfl ?_
      refine lv_icmp_ne (tgt := 81) hx hb dX9_shelf_57 rfl (fun c10 => ?_) (fun c10 => ?_)
      · replace hf := ifn c10 hf
        exact hK2 _ _ _ _ (B81 p0 hf) _ _ _ h (lv_sub hl [0, 1, 2, 3] rfl)
      · replace hf := ifp c10 hf
        refine lv_aload_n hx hb dX9_shelf_60 rfl (lv_at hl 0 rfl) ?_
        refine r_get C h fk_X9_53 0 rfl rfl dX9_shelf_61 ?_
        refine lv_iload_n hx hb dX9_shelf_64 rfl (lv_at hl 3 rfl) ?_
        replace hf := chkI_inv hf
        obtain ⟨hi19, hf⟩ := hf
        refine r_iald C h 5 rfl hi19 dX9_shelf_65 ?_
        refine lv_if_lt (tgt := 81) hx hb dX9_shelf_66 rfl (fun c20 => ?_) (fun c20 => ?_)
        · replace hf := ifp c20 hf
          exact hK2 _ _ _ _ (B81 p0 hf) _ _ _ h (lv_sub hl [0, 1, 2, 3] rfl)
        · replace hf := ifn c20 hf
          refine lv_bipush (v := (10 : Int32)) hx hb dX9_shelf_69 rfl ?_
          refine lv_aload_n hx hb dX9_shelf_71 rfl (lv_at hl 0 rfl) ?_
          refine r_get C h fk_X9_53 0 rfl rfl dX9_shelf_72 ?_
          refine lv_iload_n hx hb dX9_shelf_75 rfl (lv_at hl 3 rfl) ?_
          replace hf := chkI_inv hf
          obtain ⟨hi21, hf⟩ := hf
          refine r_iald C h 5 rfl hi21 dX9_shelf_76 ?_
          refine lv_iadd hx hb dX9_shelf_77 ?_
          refine lv_goto (tgt := 82) hx hb dX9_shelf_78 rfl ?_
          exact hK2 _ _ _ _ (B82 p0 ((10 : Int32) + (f_this_sorts p2.toNatClampNeg)) hf) _ _ _ h (lv_sub hl [0, 1, 2, 3] rfl)
    · replace hf := ifp c9 hf
      refine lv_iconst (v := (0 : Int32)) hx hb dX9_shelf_51 rfl ?_
      refine lv_goto (tgt := 82) hx hb dX9_shelf_52 rfl ?_
      exact hK2 _ _ _ _ (B82 p0 (0 : Int32) hf) _ _ _ h (lv_sub hl [0, 1, 2, 3] rfl)
  have B28 : f_X9_shelf_b28 p0 p1 p2 f_this_heldOne f_this_holds f_this_sizes f_this_sorts = some (r, m_this_heldOne, m_this_holds) → K 28 ([] : List Value) [(h_this, ob 9 [.ref h_this_s, .ref h_this_kept, .ref h_this_laid, .int x_this_isKept, .ref h_this_pile, .ref h_this_tape, .int x_this_taped, .ref h_this_letters, .int x_this_at, .int x_this_begun, .int x_this_token, .int x_this_value, .int x_this_opened, .int x_this_steps, .ref h_this_code0, .ref h_this_read, .ref h_this_saved, .ref h_this_plan, .ref h_this_bestPlan, .int x_this_most, .int x_this_many, .int x_this_few, .int x_this_everHome, .ref h_this_offThen, .ref h_this_paidThen, .int x_this_firstFit, .ref h_this_rows, .int x_this_rowMany, .ref h_this_sorts, .ref h_this_sizes, .ref h_this_number, .ref h_this_holds, .ref h_this_heldOne, .ref h_this_trace, .int x_this_traced, .int x_this_own, .int x_this_isParted]), (h_this_heldOne, ia G 4 f_this_heldOne), (h_this_holds, ia G 4 f_this_holds), (h_this_s, ia G 313 f_this_s), (h_this_sizes, ia G 4 f_this_sizes), (h_this_sorts, ia G 4 f_this_sorts)] [(0, .ref h_this), (1, .int p0), (2, .int p1), (3, .int p2)] := by
    intro hf
    unfold f_X9_shelf_b28 at hf
    refine hK1 _ _ _ _ (fun H locs ls h hl => ?_)
    refine lv_iload_n hx hb dX9_shelf_28 rfl (lv_at hl 2 rfl) ?_
    refine lv_iconst (v := (1 : Int32)) hx hb dX9_shelf_29 rfl ?_
    refine lv_icmp_ne (tgt := 42) hx hb dX9_shelf_30 rfl (fun c8 => ?_) (fun c8 => ?_)
    · replace hf := ifn c8 hf
      exact hK2 _ _ _ _ (B42 hf) _ _ _ h (lv_sub hl [0, 1, 2, 3] rfl)
    · replace hf := ifp c8 hf
      refine lv_iload_n hx hb dX9_shelf_33 rfl (lv_at hl 3 rfl) ?_
      replace hf := bd1_inv hf
      obtain ⟨r22, hc23, hf⟩ := hf
      refine r_ciS0 C h (c_X9_isSheet hc23) ms_X9_329 rfl [] rfl rfl hl.1 rfl (Nat.le_of_ble_eq_true rfl) (rok (by decide)) dX9_shelf_34 (fun H locs h => ?_)
      refine lv_if_ne (tgt := 42) hx hb dX9_shelf_37 rfl (fun c24 => ?_) (fun c24 => ?_)
      · replace hf := ifn c24 hf
        exact hK2 _ _ _ _ (B42 hf) _ _ _ h (lv_sub hl [0, 1, 2, 3] rfl)
      · replace hf := ifp c24 hf
        refine lv_iconst (v := (-1 : Int32)) hx hb dX9_shelf_40 rfl ?_
        clear B42 B81 B82 hK2 hK1
        cases hf
        exact r_iret C h hr hlk rfl dX9_shelf_41
  refine lv_iload_n hx hb dX9_shelf_0 rfl (lv_at hl 1 rfl) ?_
  replace hf := bd1_inv hf
  obtain ⟨r1, hc2, hf⟩ := hf
  refine r_ciS0 C h (c_X9_isSheet hc2) ms_X9_329 rfl [] rfl rfl hl.1 rfl (Nat.le_of_ble_eq_true rfl) (rok (by decide)) dX9_shelf_1 (fun H locs h => ?_)
  refine lv_if_eq (tgt := 40) hx hb dX9_shelf_4 rfl (fun c3 => ?_) (fun c3 => ?_)
  · replace hf := ifp c3 hf
    refine lv_iconst (v := (-1 : Int32)) hx hb dX9_shelf_40 rfl ?_
    clear B28 B42 B81 B82 hK2 hK1
    cases hf
    exact r_iret C h hr hlk rfl dX9_shelf_41
  · replace hf := ifn c3 hf
    refine lv_iload_n hx hb dX9_shelf_7 rfl (lv_at hl 2 rfl) ?_
    refine lv_iconst (v := (0 : Int32)) hx hb dX9_shelf_8 rfl ?_
    refine lv_iconst (v := (2 : Int32)) hx hb dX9_shelf_9 rfl ?_
    replace hf := bd1_inv hf
    obtain ⟨r4, hc5, hf⟩ := hf
    refine r_ciS0 C h (c_X9_in1 hc5) ms_X9_71 rfl [] rfl rfl hl.1 rfl (Nat.le_of_ble_eq_true rfl) (rok (by decide)) dX9_shelf_10 (fun H locs h => ?_)
    refine lv_if_eq (tgt := 40) hx hb dX9_shelf_13 rfl (fun c6 => ?_) (fun c6 => ?_)
    · replace hf := ifp c6 hf
      refine lv_iconst (v := (-1 : Int32)) hx hb dX9_shelf_40 rfl ?_
      clear B28 B42 B81 B82 hK2 hK1
      cases hf
      exact r_iret C h hr hlk rfl dX9_shelf_41
    · replace hf := ifn c6 hf
      refine lv_iload_n hx hb dX9_shelf_16 rfl (lv_at hl 2 rfl) ?_
      refine lv_if_ne (tgt := 28) hx hb dX9_shelf_17 rfl (fun c7 => ?_) (fun c7 => ?_)
      · replace hf := ifn c7 hf
        exact hK2 _ _ _ _ (B28 hf) _ _ _ h (lv_sub hl [0, 1, 2, 3] rfl)
      · replace hf := ifp c7 hf
        refine lv_aload_n hx hb dX9_shelf_20 rfl (lv_at hl 0 rfl) ?_
        refine lv_iload_n hx hb dX9_shelf_21 rfl (lv_at hl 3 rfl) ?_
        replace hf := bd1_inv hf
        obtain ⟨r25, hc26, hf⟩ := hf
        refine r_ciV0 C h (c_X9_isShip hc26) mv_X9_226 rfl 0 rfl [0, 3] rfl rfl hl.1 rfl (Nat.le_of_ble_eq_true rfl) (rok (by decide)) dX9_shelf_22 (fun H locs h => ?_)
        refine lv_if_eq (tgt := 40) hx hb dX9_shelf_25 rfl (fun c27 => ?_) (fun c27 => ?_)
        · replace hf := ifp c27 hf
          refine lv_iconst (v := (-1 : Int32)) hx hb dX9_shelf_40 rfl ?_
          clear B28 B42 B81 B82 hK2 hK1
          cases hf
          exact r_iret C h hr hlk rfl dX9_shelf_41
        · replace hf := ifn c27 hf
          exact hK2 _ _ _ _ (B28 hf) _ _ _ h (lv_sub hl [0, 1, 2, 3] rfl)
