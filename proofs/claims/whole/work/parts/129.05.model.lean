set_option maxRecDepth 100000 in
set_option maxHeartbeats 4000000 in
theorem c_X9_convoys {l : Launch} {G : Gt} {h_this h_this_s h_this_kept h_this_laid h_this_pile h_this_tape h_this_letters h_this_code0 h_this_read h_this_saved h_this_plan h_this_bestPlan h_this_offThen h_this_paidThen h_this_rows h_this_sorts h_this_sizes h_this_number h_this_holds h_this_heldOne h_this_trace : Nat} {p0 : Int32} {x_this_isKept : Int32} {x_this_taped : Int32} {x_this_at : Int32} {x_this_begun : Int32} {x_this_token : Int32} {x_this_value : Int32} {x_this_opened : Int32} {x_this_steps : Int32} {x_this_most : Int32} {x_this_many : Int32} {x_this_few : Int32} {x_this_everHome : Int32} {x_this_firstFit : Int32} {x_this_rowMany : Int32} {x_this_traced : Int32} {x_this_own : Int32} {x_this_isParted : Int32} {f_this_s : Nat → Int32} {r : Int32} (hf : f_X9_convoys p0 f_this_s = some r) : mFi l G yX9_convoys cX9_convoys 5 .int 3 [.ref h_this, .int p0] [(h_this, ob 9 [.ref h_this_s, .ref h_this_kept, .ref h_this_laid, .int x_this_isKept, .ref h_this_pile, .ref h_this_tape, .int x_this_taped, .ref h_this_letters, .int x_this_at, .int x_this_begun, .int x_this_token, .int x_this_value, .int x_this_opened, .int x_this_steps, .ref h_this_code0, .ref h_this_read, .ref h_this_saved, .ref h_this_plan, .ref h_this_bestPlan, .int x_this_most, .int x_this_many, .int x_this_few, .int x_this_everHome, .ref h_this_offThen, .ref h_this_paidThen, .int x_this_firstFit, .ref h_this_rows, .int x_this_rowMany, .ref h_this_sorts, .ref h_this_sizes, .ref h_this_number, .ref h_this_holds, .ref h_this_heldOne, .ref h_this_trace, .int x_this_traced, .int x_this_own, .int x_this_isParted]), (h_this_s, ia G 313 f_this_s)] r [(h_this, ob 9 [.ref h_this_s, .ref h_this_kept, .ref h_this_laid, .int x_this_isKept, .ref h_this_pile, .ref h_this_tape, .int x_this_taped, .ref h_this_letters, .int x_this_at, .int x_this_begun, .int x_this_token, .int x_this_value, .int x_this_opened, .int x_this_steps, .ref h_this_code0, .ref h_this_read, .ref h_this_saved, .ref h_this_plan, .ref h_this_bestPlan, .int x_this_most, .int x_this_many, .int x_this_few, .int x_this_everHome, .ref h_this_offThen, .ref h_this_paidThen, .int x_this_firstFit, .ref h_this_rows, .int x_this_rowMany, .ref h_this_sorts, .ref h_this_sizes, .ref h_this_number, .ref h_this_holds, .ref h_this_heldOne, .ref h_this_trace, .int x_this_traced, .int x_this_own, .int x_this_isParted]), (h_this_s, ia G 313 f_this_s)] := by
  refine mFi.of (by decide +kernel) (Nat.le_of_ble_eq_true rfl) ?_
  intro p e s m below meth c A C hr hlk h ls hl
  obtain ⟨hx, hb, hml, hown, hts⟩ := id C
  replace hl : lv_has ls 5 [(0, .ref h_this), (1, .int p0)] := hl
  unfold f_X9_convoys at hf
  refine with_K G A 5 (fun K hK1 hK2 => ?_)
  have L29 : ∀ (n : Nat) (v2 : Int32) (v3 : Int32), f_X9_convoys_L29 f_this_s n v2 v3 = some r → K 29 ([] : List Value) [(h_this, ob 9 [.ref h_this_s, .ref h_this_kept, .ref h_this_laid, .int x_this_isKept, .ref h_this_pile, .ref h_this_tape, .int x_this_taped, .ref h_this_letters, .int x_this_at, .int x_this_begun, .int x_this_token, .int x_this_value, .int x_this_opened, .int x_this_steps, .ref h_this_code0, .ref h_this_read, .ref h_this_saved, .ref h_this_plan, .ref h_this_bestPlan, .int x_this_most, .int x_this_many, .int x_this_few, .int x_this_everHome, .ref h_this_offThen, .ref h_this_paidThen, .int x_this_firstFit, .ref h_this_rows, .int x_this_rowMany, .ref h_this_sorts, .ref h_this_sizes, .ref h_this_number, .ref h_this_holds, .ref h_this_heldOne, .ref h_this_trace, .int x_this_traced, .int x_this_own, .int x_this_isParted]), (h_this_s, ia G 313 f_this_s)] [(0, .ref h_this), (2, .int v2), (3, .int v3)] := by
    intro n
    induction n with
    | zero =>
      intro v2 v3 hf
      replace hf : (none : Option _) = some _ := hf
      cases hf
    | succ n ih =>
      intro v2 v3 hf
      rw [f_X9_convoys_L29] at hf
      refine hK1 _ _ _ _ (fun H locs ls h hl => ?_)
      refine lv_iload_n hx hb dX9_convoys_29 rfl (lv_at hl 2 rfl) ?_
      refine lv_aload_n hx hb dX9_convoys_30 rfl (lv_at hl 0 rfl) ?_
      refine r_get C h fk_X9_9 0 rfl rfl dX9_convoys_31 ?_
      refine lv_iconst (v := (4 : Int32)) hx hb dX9_convoys_34 rfl ?_
      refine r_ialdL C h 1 rfl (vlit rfl) 4 rfl dX9_convoys_35 ?_
      refine lv_icmp_ge (tgt := 74) hx hb dX9_convoys_36 rfl (fun c3 => ?_) (fun c3 => ?_)
      · replace hf := ifp c3 hf
        refine lv_iload_n hx hb dX9_convoys_74 rfl (lv_at hl 1 rfl) ?_
        cases hf
        exact r_iret C h hr hlk rfl dX9_convoys_75
      · replace hf := ifn c3 hf
        refine lv_aload_n hx hb dX9_convoys_39 rfl (lv_at hl 0 rfl) ?_
        refine lv_iload_n hx hb dX9_convoys_40 rfl (lv_at hl 2 rfl) ?_
        replace hf := bd1_inv hf
        obtain ⟨r4, hc5, hf⟩ := hf
        refine r_ciV0 C h (c_X9_convoyOf hc5) mv_X9_259 rfl 0 rfl [0, 1] rfl rfl hl.1 rfl (Nat.le_of_ble_eq_true rfl) (rok (by decide)) dX9_convoys_41 (fun H locs h => ?_)
        refine lv_istore (lv' := [(4, .int r4), (0, .ref h_this), (2, .int v2), (3, .int v3)]) hx hb dX9_convoys_44 hl (by decide) rfl (fun ls hl => ?_)
        refine lv_iload_n hx hb dX9_convoys_46 rfl (lv_at hl 2 rfl) ?_
        refine lv_iload hx hb dX9_convoys_47 (lv_at hl 0 rfl) ?_
        refine lv_if_eq (tgt := 65) hx hb dX9_convoys_49 rfl (fun c6 => ?_) (fun c6 => ?_)
        · replace hf := ifp c6 hf
          refine lv_iconst (v := (0 : Int32)) hx hb dX9_convoys_65 rfl ?_
          refine lv_iadd hx hb dX9_convoys_66 ?_
          refine lv_topi (fun t7 et7 => ?_)
          replace hf := lt1_inv et7 hf
          refine lv_istore_n (lv' := [(2, .int t7), (4, .int r4), (0, .ref h_this), (3, .int v3)]) hx hb dX9_convoys_67 rfl hl (by decide) rfl (fun ls hl => ?_)
          obtain ⟨t8, et8⟩ : ∃ y : Int32, y = v3 + (1 : Int32) := ⟨_, rfl⟩
          replace hf := lt1_inv et8 hf
          refine lv_iinc (v := t8) (lv' := [(3, .int t8), (2, .int t7), (4, .int r4), (0, .ref h_this)]) hx hb dX9_convoys_68 hl (k := 3) rfl (by rw [et8]; rfl) (by decide) rfl (fun ls hl => ?_)
          refine lv_goto (tgt := 29) hx hb dX9_convoys_71 rfl ?_
          exact hK2 _ _ _ _ (ih t7 t8 hf) _ _ _ h (lv_sub hl [3, 1, 0] rfl)
        · replace hf := ifn c6 hf
          refine lv_iload hx hb dX9_convoys_52 (lv_at hl 0 rfl) ?_
          refine lv_iconst (v := (1 : Int32)) hx hb dX9_convoys_54 rfl ?_
          refine lv_iload_n hx hb dX9_convoys_55 rfl (lv_at hl 3 rfl) ?_
          refine lv_ishl hx hb dX9_convoys_56 ?_
          replace hf := chkD_inv hf
          obtain ⟨hd9, hf⟩ := hf
          refine lv_irem hx hb dX9_convoys_57 hd9 ?_
          refine lv_if_ne (tgt := 65) hx hb dX9_convoys_58 rfl (fun c10 => ?_) (fun c10 => ?_)
          · replace hf := ifn c10 hf
            refine lv_iconst (v := (0 : Int32)) hx hb dX9_convoys_65 rfl ?_
            refine lv_iadd hx hb dX9_convoys_66 ?_
            refine lv_topi (fun t11 et11 => ?_)
            replace hf := lt1_inv et11 hf
            refine lv_istore_n (lv' := [(2, .int t11), (4, .int r4), (0, .ref h_this), (3, .int v3)]) hx hb dX9_convoys_67 rfl hl (by decide) rfl (fun ls hl => ?_)
            obtain ⟨t12, et12⟩ : ∃ y : Int32, y = v3 + (1 : Int32) := ⟨_, rfl⟩
            replace hf := lt1_inv et12 hf
            refine lv_iinc (v := t12) (lv' := [(3, .int t12), (2, .int t11), (4, .int r4), (0, .ref h_this)]) hx hb dX9_convoys_68 hl (k := 3) rfl (by rw [et12]; rfl) (by decide) rfl (fun ls hl => ?_)
            refine lv_goto (tgt := 29) hx hb dX9_convoys_71 rfl ?_
            exact hK2 _ _ _ _ (ih t11 t12 hf) _ _ _ h (lv_sub hl [3, 1, 0] rfl)
          · replace hf := ifp c10 hf
            refine lv_iconst (v := (1 : Int32)) hx hb dX9_convoys_61 rfl ?_
            refine lv_goto (tgt := 66) hx hb dX9_convoys_62 rfl ?_
            refine lv_iadd hx hb dX9_convoys_66 ?_
            refine lv_topi (fun t13 et13 => ?_)
            replace hf := lt1_inv et13 hf
            refine lv_istore_n (lv' := [(2, .int t13), (4, .int r4), (0, .ref h_this), (3, .int v3)]) hx hb dX9_convoys_67 rfl hl (by decide) rfl (fun ls hl => ?_)
            obtain ⟨t14, et14⟩ : ∃ y : Int32, y = v3 + (1 : Int32) := ⟨_, rfl⟩
            replace hf := lt1_inv et14 hf
            refine lv_iinc (v := t14) (lv' := [(3, .int t14), (2, .int t13), (4, .int r4), (0, .ref h_this)]) hx hb dX9_convoys_68 hl (k := 3) rfl (by rw [et14]; rfl) (by decide) rfl (fun ls hl => ?_)
            refine lv_goto (tgt := 29) hx hb dX9_convoys_71 rfl ?_
            exact hK2 _ _ _ _ (ih t13 t14 hf) _ _ _ h (lv_sub hl [3, 1, 0] rfl)
  have B15 : f_X9_convoys_b15 p0 f_this_s = some r → K 15 ([] : List Value) [(h_this, ob 9 [.ref h_this_s, .ref h_this_kept, .ref h_this_laid, .int x_this_isKept, .ref h_this_pile, .ref h_this_tape, .int x_this_taped, .ref h_this_letters, .int x_this_at, .int x_this_begun, .int x_this_token, .int x_this_value, .int x_this_opened, .int x_this_steps, .ref h_this_code0, .ref h_this_read, .ref h_this_saved, .ref h_this_plan, .ref h_this_bestPlan, .int x_this_most, .int x_this_many, .int x_this_few, .int x_this_everHome, .ref h_this_offThen, .ref h_this_paidThen, .int x_this_firstFit, .ref h_this_rows, .int x_this_rowMany, .ref h_this_sorts, .ref h_this_sizes, .ref h_this_number, .ref h_this_holds, .ref h_this_heldOne, .ref h_this_trace, .int x_this_traced, .int x_this_own, .int x_this_isParted]), (h_this_s, ia G 313 f_this_s)] [(0, .ref h_this), (1, .int p0)] := by
    intro hf
    unfold f_X9_convoys_b15 at hf
    refine hK1 _ _ _ _ (fun H locs ls h hl => ?_)
    refine lv_iload_n hx hb dX9_convoys_15 rfl (lv_at hl 1 rfl) ?_
    refine lv_if_lt (tgt := 25) hx hb dX9_convoys_16 rfl (fun c2 => ?_) (fun c2 => ?_)
    · replace hf := ifp c2 hf
      refine lv_iconst (v := (0 : Int32)) hx hb dX9_convoys_25 rfl ?_
      refine lv_istore_n (lv' := [(2, .int (0 : Int32)), (0, .ref h_this), (1, .int p0)]) hx hb dX9_convoys_26 rfl hl (by decide) rfl (fun ls hl => ?_)
      refine lv_iconst (v := (0 : Int32)) hx hb dX9_convoys_27 rfl ?_
      refine lv_istore_n (lv' := [(3, .int (0 : Int32)), (2, .int (0 : Int32)), (0, .ref h_this), (1, .int p0)]) hx hb dX9_convoys_28 rfl hl (by decide) rfl (fun ls hl => ?_)
      exact hK2 _ _ _ _ (L29 1000 (0 : Int32) (0 : Int32) hf) _ _ _ h (lv_sub hl [2, 1, 0] rfl)
    · replace hf := ifn c2 hf
      refine lv_aload_n hx hb dX9_convoys_19 rfl (lv_at hl 0 rfl) ?_
      refine lv_iload_n hx hb dX9_convoys_20 rfl (lv_at hl 1 rfl) ?_
      replace hf := bd1_inv hf
      obtain ⟨r15, hc16, hf⟩ := hf
      refine r_ciV0 C h (c_X9_convoyOf hc16) mv_X9_259 rfl 0 rfl [0, 1] rfl rfl hl.1 rfl (Nat.le_of_ble_eq_true rfl) (rok (by decide)) dX9_convoys_21 (fun H locs h => ?_)
      cases hf
      exact r_iret C h hr hlk rfl dX9_convoys_24
  refine lv_iload_n hx hb dX9_convoys_0 rfl (lv_at hl 1 rfl) ?_
  refine lv_iconst (v := (-1 : Int32)) hx hb dX9_convoys_1 rfl ?_
  refine lv_icmp_eq (tgt := 15) hx hb dX9_convoys_2 rfl (fun c1 => ?_) (fun c1 => ?_)
  · replace hf := ifp c1 hf
    exact hK2 _ _ _ _ (B15 hf) _ _ _ h (lv_sub hl [0, 1] rfl)
  · replace hf := ifn c1 hf
    refine lv_aload_n hx hb dX9_convoys_5 rfl (lv_at hl 0 rfl) ?_
    refine lv_iload_n hx hb dX9_convoys_6 rfl (lv_at hl 1 rfl) ?_
    replace hf := bd1_inv hf
    obtain ⟨r17, hc18, hf⟩ := hf
    refine r_ciV0 C h (c_X9_isShip hc18) mv_X9_226 rfl 0 rfl [0, 1] rfl rfl hl.1 rfl (Nat.le_of_ble_eq_true rfl) (rok (by decide)) dX9_convoys_7 (fun H locs h => ?_)
    refine lv_if_ne (tgt := 15) hx hb dX9_convoys_10 rfl (fun c19 => ?_) (fun c19 => ?_)
    · replace hf := ifn c19 hf
      exact hK2 _ _ _ _ (B15 hf) _ _ _ h (lv_sub hl [0, 1] rfl)
    · replace hf := ifp c19 hf
      refine lv_iconst (v := (-1 : Int32)) hx hb dX9_convoys_13 rfl ?_
      clear B15 L29 hK2 hK1
      cases hf
      exact r_iret C h hr hlk rfl dX9_convoys_14
