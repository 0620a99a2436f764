set_option maxRecDepth 100000 in
set_option maxHeartbeats 4000000 in
theorem c_X9_taken {l : Launch} {G : Gt} {h_this h_this_s h_this_kept h_this_laid h_this_pile h_this_tape h_this_letters h_this_code0 h_this_read h_this_saved h_this_plan h_this_bestPlan h_this_offThen h_this_paidThen h_this_rows h_this_sorts h_this_sizes h_this_number h_this_holds h_this_heldOne h_this_trace : Nat} {p0 : Int32} {p1 : Int32} {x_this_isKept : Int32} {x_this_taped : Int32} {x_this_at : Int32} {x_this_begun : Int32} {x_this_token : Int32} {x_this_value : Int32} {x_this_opened : Int32} {x_this_steps : Int32} {x_this_most : Int32} {x_this_many : Int32} {x_this_few : Int32} {x_this_everHome : Int32} {x_this_firstFit : Int32} {x_this_rowMany : Int32} {x_this_traced : Int32} {x_this_own : Int32} {x_this_isParted : Int32} {f_this_heldOne : Nat → Int32} {f_this_holds : Nat → Int32} {f_this_s : Nat → Int32} {r : Int32} (hf : f_X9_taken p0 p1 f_this_heldOne f_this_holds f_this_s = some r) : mFi l G yX9_taken cX9_taken 5 .int 3 [.ref h_this, .int p0, .int p1] [(h_this, ob 9 [.ref h_this_s, .ref h_this_kept, .ref h_this_laid, .int x_this_isKept, .ref h_this_pile, .ref h_this_tape, .int x_this_taped, .ref h_this_letters, .int x_this_at, .int x_this_begun, .int x_this_token, .int x_this_value, .int x_this_opened, .int x_this_steps, .ref h_this_code0, .ref h_this_read, .ref h_this_saved, .ref h_this_plan, .ref h_this_bestPlan, .int x_this_most, .int x_this_many, .int x_this_few, .int x_this_everHome, .ref h_this_offThen, .ref h_this_paidThen, .int x_this_firstFit, .ref h_this_rows, .int x_this_rowMany, .ref h_this_sorts, .ref h_this_sizes, .ref h_this_number, .ref h_this_holds, .ref h_this_heldOne, .ref h_this_trace, .int x_this_traced, .int x_this_own, .int x_this_isParted]), (h_this_heldOne, ia G 4 f_this_heldOne), (h_this_holds, ia G 4 f_this_holds), (h_this_s, ia G 313 f_this_s)] r [(h_this, ob 9 [.ref h_this_s, .ref h_this_kept, .ref h_this_laid, .int x_this_isKept, .ref h_this_pile, .ref h_this_tape, .int x_this_taped, .ref h_this_letters, .int x_this_at, .int x_this_begun, .int x_this_token, .int x_this_value, .int x_this_opened, .int x_this_steps, .ref h_this_code0, .ref h_this_read, .ref h_this_saved, .ref h_this_plan, .ref h_this_bestPlan, .int x_this_most, .int x_this_many, .int x_this_few, .int x_this_everHome, .ref h_this_offThen, .ref h_this_paidThen, .int x_this_firstFit, .ref h_this_rows, .int x_this_rowMany, .ref h_this_sorts, .ref h_this_sizes, .ref h_this_number, .ref h_this_holds, .ref h_this_heldOne, .ref h_this_trace, .int x_this_traced, .int x_this_own, .int x_this_isParted]), (h_this_heldOne, ia G 4 f_this_heldOne), (h_this_holds, ia G 4 f_this_holds), (h_this_s, ia G 313 f_this_s)] := by
  refine mFi.of (by decide +kernel) (Nat.le_of_ble_eq_true rfl) ?_
  intro p e s m below meth c A C hr hlk h ls hl
  obtain ⟨hx, hb, hml, hown, hts⟩ := id C
  replace hl : lv_has ls 5 [(0, .ref h_this), (1, .int p0), (2, .int p1)] := hl
  unfold f_X9_taken at hf
  refine with_K G A 5 (fun K hK1 hK2 => ?_)
  have B88 : ∀ (s0 : Int32), f_X9_taken_b88 p0 f_this_heldOne s0 = some r → K 88 [.int s0] [(h_this, ob 9 [.ref h_this_s, .ref h_this_kept, .ref h_this_laid, .int x_this_isKept, .ref h_this_pile, .ref h_this_tape, .int x_this_taped, .ref h_this_letters, .int x_this_at, .int x_this_begun, .int x_this_token, .int x_this_value, .int x_this_opened, .int x_this_steps, .ref h_this_code0, .ref h_this_read, .ref h_this_saved, .ref h_this_plan, .ref h_this_bestPlan, .int x_this_most, .int x_this_many, .int x_this_few, .int x_this_everHome, .ref h_this_offThen, .ref h_this_paidThen, .int x_this_firstFit, .ref h_this_rows, .int x_this_rowMany, .ref h_this_sorts, .ref h_this_sizes, .ref h_this_number, .ref h_this_holds, .ref h_this_heldOne, .ref h_this_trace, .int x_this_traced, .int x_this_own, .int x_this_isParted]), (h_this_heldOne, ia G 4 f_this_heldOne), (h_this_holds, ia G 4 f_this_holds), (h_this_s, ia G 313 f_this_s)] [(0, .ref h_this), (1, .int p0)] := by
    intro s0 hf
    unfold f_X9_taken_b88 at hf
    refine hK1 _ _ _ _ (fun H locs ls h hl => ?_)
    refine lv_istore (lv' := [(4, .int s0), (0, .ref h_this), (1, .int p0)]) hx hb dX9_taken_88 hl (by decide) rfl (fun ls hl => ?_)
    refine lv_iload hx hb dX9_taken_90 (lv_at hl 0 rfl) ?_
    refine lv_if_eq (tgt := 104) hx hb dX9_taken_92 rfl (fun c12 => ?_) (fun c12 => ?_)
    · replace hf := ifp c12 hf
      refine lv_bipush (v := (-13 : Int32)) hx hb dX9_taken_104 rfl ?_
      clear  hK2 hK1
      cases hf
      exact r_iret C h hr hlk rfl dX9_taken_106
    · replace hf := ifn c12 hf
      refine lv_aload_n hx hb dX9_taken_95 rfl (lv_at hl 1 rfl) ?_
      refine r_get C h fk_X9_65 0 rfl rfl dX9_taken_96 ?_
      refine lv_iload_n hx hb dX9_taken_99 rfl (lv_at hl 2 rfl) ?_
      replace hf := chkI_inv hf
      obtain ⟨hi13, hf⟩ := hf
      refine r_iald C h 1 rfl hi13 dX9_taken_100 ?_
      refine lv_goto (tgt := 106) hx hb dX9_taken_101 rfl ?_
      clear  hK2 hK1
      cases hf
      exact r_iret C h hr hlk rfl dX9_taken_106
  have B74 : f_X9_taken_b74 p0 f_this_heldOne = some r → K 74 ([] : List Value) [(h_this, ob 9 [.ref h_this_s, .ref h_this_kept, .ref h_this_laid, .int x_this_isKept, .ref h_this_pile, .ref h_this_tape, .int x_this_taped, .ref h_this_letters, .int x_this_at, .int x_this_begun, .int x_this_token, .int x_this_value, .int x_this_opened, .int x_this_steps, .ref h_this_code0, .ref h_this_read, .ref h_this_saved, .ref h_this_plan, .ref h_this_bestPlan, .int x_this_most, .int x_this_many, .int x_this_few, .int x_this_everHome, .ref h_this_offThen, .ref h_this_paidThen, .int x_this_firstFit, .ref h_this_rows, .int x_this_rowMany, .ref h_this_sorts, .ref h_this_sizes, .ref h_this_number, .ref h_this_holds, .ref h_this_heldOne, .ref h_this_trace, .int x_this_traced, .int x_this_own, .int x_this_isParted]), (h_this_heldOne, ia G 4 f_this_heldOne), (h_this_holds, ia G 4 f_this_holds), (h_this_s, ia G 313 f_this_s)] [(0, .ref h_this), (1, .int p0)] := by
    intro hf
    unfold f_X9_taken_b74 at hf
    refine hK1 _ _ _ _ (fun H locs ls h hl => ?_)
    refine lv_iconst (v := (0 : Int32)) hx hb dX9_taken_74 rfl ?_
    refine lv_goto (tgt := 88) hx hb dX9_taken_75 rfl ?_
    exact hK2 _ _ _ _ (B88 (0 : Int32) hf) _ _ _ h (lv_sub hl [0, 1] rfl)
  have B29 : f_X9_taken_b29 p0 p1 f_this_heldOne f_this_holds f_this_s = some r → K 29 ([] : List Value) [(h_this, ob 9 [.ref h_this_s, .ref h_this_kept, .ref h_this_laid, .int x_this_isKept, .ref h_this_pile, .ref h_this_tape, .int x_this_taped, .ref h_this_letters, .int x_this_at, .int x_this_begun, .int x_this_token, .int x_this_value, .int x_this_opened, .int x_this_steps, .ref h_this_code0, .ref h_this_read, .ref h_this_saved, .ref h_this_plan, .ref h_this_bestPlan, .int x_this_most, .int x_this_many, .int x_this_few, .int x_this_everHome, .ref h_this_offThen, .ref h_this_paidThen, .int x_this_firstFit, .ref h_this_rows, .int x_this_rowMany, .ref h_this_sorts, .ref h_this_sizes, .ref h_this_number, .ref h_this_holds, .ref h_this_heldOne, .ref h_this_trace, .int x_this_traced, .int x_this_own, .int x_this_isParted]), (h_this_heldOne, ia G 4 f_this_heldOne), (h_this_holds, ia G 4 f_this_holds), (h_this_s, ia G 313 f_this_s)] [(0, .ref h_this), (1, .int p0), (2, .int p1)] := by
    intro hf
    unfold f_X9_taken_b29 at hf
    refine hK1 _ _ _ _ (fun H locs ls h hl => ?_)
    refine lv_aload_n hx hb dX9_taken_29 rfl (lv_at hl 0 rfl) ?_
    refine lv_iload_n hx hb dX9_taken_30 rfl (lv_at hl 1 rfl) ?_
    replace hf := bd1_inv hf
    obtain ⟨r7, hc8, hf⟩ := hf
    refine r_ciV0 C h (c_X9_heldOn hc8) mv_X9_341 rfl 0 rfl [0, 1, 2, 3] rfl rfl hl.1 rfl (Nat.le_of_ble_eq_true rfl) (rok (by decide)) dX9_taken_31 (fun H locs h => ?_)
    refine lv_istore_n (lv' := [(3, .int r7), (0, .ref h_this), (1, .int p0), (2, .int p1)]) hx hb dX9_taken_34 rfl hl (by decide) rfl (fun ls hl => ?_)
    refine lv_iload_n hx hb dX9_taken_35 rfl (lv_at hl 0 rfl) ?_
    refine lv_if_ge (tgt := 42) hx hb dX9_taken_36 rfl (fun c9 => ?_) (fun c9 => ?_)
    · replace hf := ifp c9 hf
      refine lv_iload_n hx hb dX9_taken_42 rfl (lv_at hl 0 rfl) ?_
      refine lv_if_ne (tgt := 78) hx hb dX9_taken_43 rfl (fun c10 => ?_) (fun c10 => ?_)
      · replace hf := ifn c10 hf
        refine lv_iload_n hx hb dX9_taken_78 rfl (lv_at hl 0 rfl) ?_
        refine lv_iload_n hx hb dX9_taken_79 rfl (lv_at hl 3 rfl) ?_
        refine lv_icmp_ne (tgt := 87) hx hb dX9_taken_80 rfl (fun c11 => ?_) (fun c11 => ?_)
        · replace hf := ifn c11 hf
          refine lv_iconst (v := (0 : Int32)) hx hb dX9_taken_87 rfl ?_
          exact hK2 _ _ _ _ (B88 (0 : Int32) hf) _ _ _ h (lv_sub hl [1, 2] rfl)
        · replace hf := ifp c11 hf
          refine lv_iconst (v := (1 : Int32)) hx hb dX9_taken_83 rfl ?_
          refine lv_goto (tgt := 88) hx hb dX9_taken_84 rfl ?_
          exact hK2 _ _ _ _ (B88 (1 : Int32) hf) _ _ _ h (lv_sub hl [1, 2] rfl)
      · replace hf := ifp c10 hf
        refine lv_iload_n hx hb dX9_taken_46 rfl (lv_at hl 3 rfl) ?_
        refine lv_bipush (v := (10 : Int32)) hx hb dX9_taken_47 rfl ?_
        refine lv_icmp_ge (tgt := 74) hx hb dX9_taken_49 rfl (fun c14 => ?_) (fun c14 => ?_)
        · replace hf := ifp c14 hf
          exact hK2 _ _ _ _ (B74 hf) _ _ _ h (lv_sub hl [1, 2] rfl)
        · replace hf := ifn c14 hf
          refine lv_aload_n hx hb dX9_taken_52 rfl (lv_at hl 1 rfl) ?_
          refine lv_aload_n hx hb dX9_taken_53 rfl (lv_at hl 1 rfl) ?_
          refine r_get C h fk_X9_65 0 rfl rfl dX9_taken_54 ?_
          refine lv_iload_n hx hb dX9_taken_57 rfl (lv_at hl 2 rfl) ?_
          replace hf := chkI_inv hf
          obtain ⟨hi15, hf⟩ := hf
          refine r_iald C h 1 rfl hi15 dX9_taken_58 ?_
          refine lv_iconst (v := (0 : Int32)) hx hb dX9_taken_59 rfl ?_
          replace hf := bd1_inv hf
          obtain ⟨r16, hc17, hf⟩ := hf
          refine r_ciV0 C h (c_X9_get hc17) mv_X9_79 rfl 0 rfl [0, 3] rfl rfl hl.1 rfl (Nat.le_of_ble_eq_true rfl) (rok (by decide)) dX9_taken_60 (fun H locs h => ?_)
          refine lv_iload_n hx hb dX9_taken_63 rfl (lv_at hl 3 rfl) ?_
          replace hf := bd1_inv hf
          obtain ⟨r18, hc19, hf⟩ := hf
          refine r_ciS0 C h (c_X9_isUnder hc19) ms_X9_121 rfl [] rfl rfl hl.1 rfl (Nat.le_of_ble_eq_true rfl) (rok (by decide)) dX9_taken_64 (fun H locs h => ?_)
          refine lv_if_eq (tgt := 74) hx hb dX9_taken_67 rfl (fun c20 => ?_) (fun c20 => ?_)
          · replace hf := ifp c20 hf
            exact hK2 _ _ _ _ (B74 hf) _ _ _ h (lv_sub hl [1, 2] rfl)
          · replace hf := ifn c20 hf
            refine lv_iconst (v := (1 : Int32)) hx hb dX9_taken_70 rfl ?_
            refine lv_goto (tgt := 88) hx hb dX9_taken_71 rfl ?_
            exact hK2 _ _ _ _ (B88 (1 : Int32) hf) _ _ _ h (lv_sub hl [1, 2] rfl)
    · replace hf := ifn c9 hf
      refine lv_bipush (v := (-11 : Int32)) hx hb dX9_taken_39 rfl ?_
      clear B74 B88 hK2 hK1
      cases hf
      exact r_iret C h hr hlk rfl dX9_taken_41
  refine lv_iload_n hx hb dX9_taken_0 rfl (lv_at hl 1 rfl) ?_
  replace hf := bd1_inv hf
  obtain ⟨r1, hc2, hf⟩ := hf
  refine r_ciS0 C h (c_X9_isSheet hc2) ms_X9_329 rfl [] rfl rfl hl.1 rfl (Nat.le_of_ble_eq_true rfl) (rok (by decide)) dX9_taken_1 (fun H locs h => ?_)
  refine lv_if_eq (tgt := 27) hx hb dX9_taken_4 rfl (fun c3 => ?_) (fun c3 => ?_)
  · replace hf := ifp c3 hf
    refine lv_iconst (v := (-1 : Int32)) hx hb dX9_taken_27 rfl ?_
    clear B29 B74 B88 hK2 hK1
    cases hf
    exact r_iret C h hr hlk rfl dX9_taken_28
  · replace hf := ifn c3 hf
    refine lv_iload_n hx hb dX9_taken_7 rfl (lv_at hl 2 rfl) ?_
    refine lv_iconst (v := (0 : Int32)) hx hb dX9_taken_8 rfl ?_
    refine lv_iconst (v := (5 : Int32)) hx hb dX9_taken_9 rfl ?_
    replace hf := bd1_inv hf
    obtain ⟨r4, hc5, hf⟩ := hf
    refine r_ciS0 C h (c_X9_in1 hc5) ms_X9_71 rfl [] rfl rfl hl.1 rfl (Nat.le_of_ble_eq_true rfl) (rok (by decide)) dX9_taken_10 (fun H locs h => ?_)
    refine lv_if_ne (tgt := 29) hx hb dX9_taken_13 rfl (fun c6 => ?_) (fun c6 => ?_)
    · replace hf := ifn c6 hf
      exact hK2 _ _ _ _ (B29 hf) _ _ _ h (lv_sub hl [0, 1, 2] rfl)
    · replace hf := ifp c6 hf
      refine lv_iload_n hx hb dX9_taken_16 rfl (lv_at hl 2 rfl) ?_
      refine lv_bipush (v := (10 : Int32)) hx hb dX9_taken_17 rfl ?_
      refine lv_bipush (v := (14 : Int32)) hx hb dX9_taken_19 rfl ?_
      replace hf := bd1_inv hf
      obtain ⟨r21, hc22, hf⟩ := hf
      refine r_ciS0 C h (c_X9_in1 hc22) ms_X9_71 rfl [] rfl rfl hl.1 rfl (Nat.le_of_ble_eq_true rfl) (rok (by decide)) dX9_taken_21 (fun H locs h => ?_)
      refine lv_if_ne (tgt := 29) hx hb dX9_taken_24 rfl (fun c23 => ?_) (fun c23 => ?_)
      · replace hf := ifn c23 hf
        exact hK2 _ _ _ _ (B29 hf) _ _ _ h (lv_sub hl [0, 1, 2] rfl)
      · replace hf := ifp c23 hf
        refine lv_iconst (v := (-1 : Int32)) hx hb dX9_taken_27 rfl ?_
        clear B29 B74 B88 hK2 hK1
        cases hf
        exact r_iret C h hr hlk rfl dX9_taken_28
