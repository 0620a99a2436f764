set_option maxRecDepth 100000 in
set_option maxHeartbeats 4000000 in
theorem c_X9_convoyOf {l : Launch} {G : Gt} {h_this h_this_s h_this_kept h_this_laid h_this_pile h_this_tape h_this_letters h_this_code0 h_this_read h_this_saved h_this_plan h_this_bestPlan h_this_offThen h_this_paidThen h_this_rows h_this_sorts h_this_sizes h_this_number h_this_holds h_this_heldOne h_this_trace : Nat} {p0 : Int32} {x_this_isKept : Int32} {x_this_taped : Int32} {x_this_at : Int32} {x_this_begun : Int32} {x_this_token : Int32} {x_this_value : Int32} {x_this_opened : Int32} {x_this_steps : Int32} {x_this_most : Int32} {x_this_many : Int32} {x_this_few : Int32} {x_this_everHome : Int32} {x_this_firstFit : Int32} {x_this_rowMany : Int32} {x_this_traced : Int32} {x_this_own : Int32} {x_this_isParted : Int32} {f_this_s : Nat → Int32} {r : Int32} (hf : f_X9_convoyOf p0 f_this_s = some r) : mFi l G yX9_convoyOf cX9_convoyOf 6 .int 2 [.ref h_this, .int p0] [(h_this, ob 9 [.ref h_this_s, .ref h_this_kept, .ref h_this_laid, .int x_this_isKept, .ref h_this_pile, .ref h_this_tape, .int x_this_taped, .ref h_this_letters, .int x_this_at, .int x_this_begun, .int x_this_token, .int x_this_value, .int x_this_opened, .int x_this_steps, .ref h_this_code0, .ref h_this_read, .ref h_this_saved, .ref h_this_plan, .ref h_this_bestPlan, .int x_this_most, .int x_this_many, .int x_this_few, .int x_this_everHome, .ref h_this_offThen, .ref h_this_paidThen, .int x_this_firstFit, .ref h_this_rows, .int x_this_rowMany, .ref h_this_sorts, .ref h_this_sizes, .ref h_this_number, .ref h_this_holds, .ref h_this_heldOne, .ref h_this_trace, .int x_this_traced, .int x_this_own, .int x_this_isParted]), (h_this_s, ia G 313 f_this_s)] r [(h_this, ob 9 [.ref h_this_s, .ref h_this_kept, .ref h_this_laid, .int x_this_isKept, .ref h_this_pile, .ref h_this_tape, .int x_this_taped, .ref h_this_letters, .int x_this_at, .int x_this_begun, .int x_this_token, .int x_this_value, .int x_this_opened, .int x_this_steps, .ref h_this_code0, .ref h_this_read, .ref h_this_saved, .ref h_this_plan, .ref h_this_bestPlan, .int x_this_most, .int x_this_many, .int x_this_few, .int x_this_everHome, .ref h_this_offThen, .ref h_this_paidThen, .int x_this_firstFit, .ref h_this_rows, .int x_this_rowMany, .ref h_this_sorts, .ref h_this_sizes, .ref h_this_number, .ref h_this_holds, .ref h_this_heldOne, .ref h_this_trace, .int x_this_traced, .int x_this_own, .int x_this_isParted]), (h_this_s, ia G 313 f_this_s)] := by
  refine mFi.of (by decide +kernel) (Nat.le_of_ble_eq_true rfl) ?_
  intro p e s m below meth c A C hr hlk h ls hl
  obtain ⟨hx, hb, hml, hown, hts⟩ := id C
  replace hl : lv_has ls 6 [(0, .ref h_this), (1, .int p0)] := hl
  unfold f_X9_convoyOf at hf
  refine with_K G A 6 (fun K hK1 hK2 => ?_)
  have B94 : ∀ (v2 : Int32), f_X9_convoyOf_b94 p0 f_this_s v2 = some r → K 94 ([] : List Value) [(h_this, ob 9 [.ref h_this_s, .ref h_this_kept, .ref h_this_laid, .int x_this_isKept, .ref h_this_pile, .ref h_this_tape, .int x_this_taped, .ref h_this_letters, .int x_this_at, .int x_this_begun, .int x_this_token, .int x_this_value, .int x_this_opened, .int x_this_steps, .ref h_this_code0, .ref h_this_read, .ref h_this_saved, .ref h_this_plan, .ref h_this_bestPlan, .int x_this_most, .int x_this_many, .int x_this_few, .int x_this_everHome, .ref h_this_offThen, .ref h_this_paidThen, .int x_this_firstFit, .ref h_this_rows, .int x_this_rowMany, .ref h_this_sorts, .ref h_this_sizes, .ref h_this_number, .ref h_this_holds, .ref h_this_heldOne, .ref h_this_trace, .int x_this_traced, .int x_this_own, .int x_this_isParted]), (h_this_s, ia G 313 f_this_s)] [(0, .ref h_this), (1, .int p0), (2, .int v2)] := by
    intro v2 hf
    unfold f_X9_convoyOf_b94 at hf
    refine hK1 _ _ _ _ (fun H locs ls h hl => ?_)
    refine lv_aload_n hx hb dX9_convoyOf_94 rfl (lv_at hl 0 rfl) ?_
    refine lv_iload_n hx hb dX9_convoyOf_95 rfl (lv_at hl 1 rfl) ?_
    refine lv_iconst (v := (4 : Int32)) hx hb dX9_convoyOf_96 rfl ?_
    replace hf := bd1_inv hf
    obtain ⟨r3, hc4, hf⟩ := hf
    refine r_ciV0 C h (c_X9_get hc4) mv_X9_79 rfl 0 rfl [0, 1] rfl rfl hl.1 rfl (Nat.le_of_ble_eq_true rfl) (rok (by decide)) dX9_convoyOf_97 (fun H locs h => ?_)
    refine lv_iconst (v := (1 : Int32)) hx hb dX9_convoyOf_100 rfl ?_
    refine lv_icmp_ne (tgt := 108) hx hb dX9_convoyOf_101 rfl (fun c5 => ?_) (fun c5 => ?_)
    · replace hf := ifn c5 hf
      refine lv_iload_n hx hb dX9_convoyOf_108 rfl (lv_at hl 2 rfl) ?_
      cases hf
      exact r_iret C h hr hlk rfl dX9_convoyOf_109
    · replace hf := ifp c5 hf
      refine lv_iconst (v := (0 : Int32)) hx hb dX9_convoyOf_104 rfl ?_
      refine lv_goto (tgt := 109) hx hb dX9_convoyOf_105 rfl ?_
      cases hf
      exact r_iret C h hr hlk rfl dX9_convoyOf_109
  have L33 : ∀ (rec19 : Int32 → Int32 → Int32 → Option (Int32)) (hrec19 : ∀ (v2 : Int32) (v3 : Int32) (v4 : Int32), rec19 v2 v3 v4 = some r → K 19 ([] : List Value) [(h_this, ob 9 [.ref h_this_s, .ref h_this_kept, .ref h_this_laid, .int x_this_isKept, .ref h_this_pile, .ref h_this_tape, .int x_this_taped, .ref h_this_letters, .int x_this_at, .int x_this_begun, .int x_this_token, .int x_this_value, .int x_this_opened, .int x_this_steps, .ref h_this_code0, .ref h_this_read, .ref h_this_saved, .ref h_this_plan, .ref h_this_bestPlan, .int x_this_most, .int x_this_many, .int x_this_few, .int x_this_everHome, .ref h_this_offThen, .ref h_this_paidThen, .int x_this_firstFit, .ref h_this_rows, .int x_this_rowMany, .ref h_this_sorts, .ref h_this_sizes, .ref h_this_number, .ref h_this_holds, .ref h_this_heldOne, .ref h_this_trace, .int x_this_traced, .int x_this_own, .int x_this_isParted]), (h_this_s, ia G 313 f_this_s)] [(0, .ref h_this), (1, .int p0), (2, .int v2), (3, .int v3), (4, .int v4)]) (n : Nat) (v2 : Int32) (v3 : Int32) (v4 : Int32) (v5 : Int32), f_X9_convoyOf_L33 rec19 f_this_s n v2 v3 v4 v5 = some r → K 33 ([] : List Value) [(h_this, ob 9 [.ref h_this_s, .ref h_this_kept, .ref h_this_laid, .int x_this_isKept, .ref h_this_pile, .ref h_this_tape, .int x_this_taped, .ref h_this_letters, .int x_this_at, .int x_this_begun, .int x_this_token, .int x_this_value, .int x_this_opened, .int x_this_steps, .ref h_this_code0, .ref h_this_read, .ref h_this_saved, .ref h_this_plan, .ref h_this_bestPlan, .int x_this_most, .int x_this_many, .int x_this_few, .int x_this_everHome, .ref h_this_offThen, .ref h_this_paidThen, .int x_this_firstFit, .ref h_this_rows, .int x_this_rowMany, .ref h_this_sorts, .ref h_this_sizes, .ref h_this_number, .ref h_this_holds, .ref h_this_heldOne, .ref h_this_trace, .int x_this_traced, .int x_this_own, .int x_this_isParted]), (h_this_s, ia G 313 f_this_s)] [(0, .ref h_this), (1, .int p0), (2, .int v2), (3, .int v3), (4, .int v4), (5, .int v5)] := by
    intro rec19 hrec19 n
    induction n with
    | zero =>
      intro v2 v3 v4 v5 hf
      replace hf : (none : Option _) = some _ := hf
      cases hf
    | succ n ih =>
      intro v2 v3 v4 v5 hf
      rw [f_X9_convoyOf_L33] at hf
      refine hK1 _ _ _ _ (fun H locs ls h hl => ?_)
      refine lv_iload hx hb dX9_convoyOf_33 (lv_at hl 5 rfl) ?_
      refine lv_aload_n hx hb dX9_convoyOf_35 rfl (lv_at hl 0 rfl) ?_
      refine r_get C h fk_X9_9 0 rfl rfl dX9_convoyOf_36 ?_
      refine lv_iconst (v := (4 : Int32)) hx hb dX9_convoyOf_39 rfl ?_
      refine r_ialdL C h 1 rfl (vlit rfl) 4 rfl dX9_convoyOf_40 ?_
      refine lv_icmp_ge (tgt := 82) hx hb dX9_convoyOf_41 rfl (fun c8 => ?_) (fun c8 => ?_)
      · replace hf := ifp c8 hf
        obtain ⟨t9, et9⟩ : ∃ y : Int32, y = v4 + (1 : Int32) := ⟨_, rfl⟩
        replace hf := lt1_inv et9 hf
        refine lv_iinc (v := t9) (lv' := [(4, .int t9), (0, .ref h_this), (1, .int p0), (2, .int v2), (3, .int v3), (5, .int v5)]) hx hb dX9_convoyOf_82 hl (k := 4) rfl (by rw [et9]; rfl) (by decide) rfl (fun ls hl => ?_)
        refine lv_goto (tgt := 19) hx hb dX9_convoyOf_85 rfl ?_
        exact hK2 _ _ _ _ (hrec19 v2 v3 t9 hf) _ _ _ h (lv_sub hl [1, 2, 3, 4, 0] rfl)
      · replace hf := ifn c8 hf
        refine lv_iload_n hx hb dX9_convoyOf_44 rfl (lv_at hl 2 rfl) ?_
        refine lv_iload_n hx hb dX9_convoyOf_45 rfl (lv_at hl 2 rfl) ?_
        refine lv_iload hx hb dX9_convoyOf_46 (lv_at hl 4 rfl) ?_
        refine lv_ishr hx hb dX9_convoyOf_48 ?_
        refine lv_iconst (v := (1 : Int32)) hx hb dX9_convoyOf_49 rfl ?_
        refine lv_iand hx hb dX9_convoyOf_50 ?_
        refine lv_iconst (v := (1 : Int32)) hx hb dX9_convoyOf_51 rfl ?_
        refine lv_icmp_ne (tgt := 73) hx hb dX9_convoyOf_52 rfl (fun c10 => ?_) (fun c10 => ?_)
        · replace hf := ifn c10 hf
          refine lv_iconst (v := (0 : Int32)) hx hb dX9_convoyOf_73 rfl ?_
          refine lv_ior hx hb dX9_convoyOf_74 ?_
          refine lv_topi (fun t11 et11 => ?_)
          replace hf := lt1_inv et11 hf
          refine lv_istore_n (lv' := [(2, .int t11), (0, .ref h_this), (1, .int p0), (3, .int v3), (4, .int v4), (5, .int v5)]) hx hb dX9_convoyOf_75 rfl hl (by decide) rfl (fun ls hl => ?_)
          obtain ⟨t12, et12⟩ : ∃ y : Int32, y = v5 + (1 : Int32) := ⟨_, rfl⟩
          replace hf := lt1_inv et12 hf
          refine lv_iinc (v := t12) (lv' := [(5, .int t12), (2, .int t11), (0, .ref h_this), (1, .int p0), (3, .int v3), (4, .int v4)]) hx hb dX9_convoyOf_76 hl (k := 5) rfl (by rw [et12]; rfl) (by decide) rfl (fun ls hl => ?_)
          refine lv_goto (tgt := 33) hx hb dX9_convoyOf_79 rfl ?_
          exact hK2 _ _ _ _ (ih t11 v3 v4 t12 hf) _ _ _ h (lv_sub hl [2, 3, 1, 4, 5, 0] rfl)
        · replace hf := ifp c10 hf
          refine lv_aload_n hx hb dX9_convoyOf_55 rfl (lv_at hl 0 rfl) ?_
          refine lv_iload hx hb dX9_convoyOf_56 (lv_at hl 4 rfl) ?_
          refine lv_iload hx hb dX9_convoyOf_58 (lv_at hl 5 rfl) ?_
          replace hf := bd1_inv hf
          obtain ⟨r13, hc14, hf⟩ := hf
          refine r_ciV0 C h (c_X9_areClose hc14) mv_X9_256 rfl 0 rfl [0, 1] rfl rfl hl.1 rfl (Nat.le_of_ble_eq_true rfl) (rok (by decide)) dX9_convoyOf_60 (fun H locs h => ?_)
          refine lv_if_eq (tgt := 73) hx hb dX9_convoyOf_63 rfl (fun c15 => ?_) (fun c15 => ?_)
          · replace hf := ifp c15 hf
            refine lv_iconst (v := (0 : Int32)) hx hb dX9_convoyOf_73 rfl ?_
            refine lv_ior hx hb dX9_convoyOf_74 ?_
            refine lv_topi (fun t16 et16 => ?_)
            replace hf := lt1_inv et16 hf
            refine lv_istore_n (lv' := [(2, .int t16), (0, .ref h_this), (1, .int p0), (3, .int v3), (4, .int v4), (5, .int v5)]) hx hb dX9_convoyOf_75 rfl hl (by decide) rfl (fun ls hl => ?_)
            obtain ⟨t17, et17⟩ : ∃ y : Int32, y = v5 + (1 : Int32) := ⟨_, rfl⟩
            replace hf := lt1_inv et17 hf
            refine lv_iinc (v := t17) (lv' := [(5, .int t17), (2, .int t16), (0, .ref h_this), (1, .int p0), (3, .int v3), (4, .int v4)]) hx hb dX9_convoyOf_76 hl (k := 5) rfl (by rw [et17]; rfl) (by decide) rfl (fun ls hl => ?_)
            refine lv_goto (tgt := 33) hx hb dX9_convoyOf_79 rfl ?_
            exact hK2 _ _ _ _ (ih t16 v3 v4 t17 hf) _ _ _ h (lv_sub hl [2, 3, 1, 4, 5, 0] rfl)
          · replace hf := ifn c15 hf
            refine lv_iconst (v := (1 : Int32)) hx hb dX9_convoyOf_66 rfl ?_
            refine lv_iload hx hb dX9_convoyOf_67 (lv_at hl 5 rfl) ?_
            refine lv_ishl hx hb dX9_convoyOf_69 ?_
            refine lv_goto (tgt := 74) hx hb dX9_convoyOf_70 rfl ?_
            refine lv_ior hx hb dX9_convoyOf_74 ?_
            refine lv_topi (fun t18 et18 => ?_)
            replace hf := lt1_inv et18 hf
            refine lv_istore_n (lv' := [(2, .int t18), (0, .ref h_this), (1, .int p0), (3, .int v3), (4, .int v4), (5, .int v5)]) hx hb dX9_convoyOf_75 rfl hl (by decide) rfl (fun ls hl => ?_)
            obtain ⟨t19, et19⟩ : ∃ y : Int32, y = v5 + (1 : Int32) := ⟨_, rfl⟩
            replace hf := lt1_inv et19 hf
            refine lv_iinc (v := t19) (lv' := [(5, .int t19), (2, .int t18), (0, .ref h_this), (1, .int p0), (3, .int v3), (4, .int v4)]) hx hb dX9_convoyOf_76 hl (k := 5) rfl (by rw [et19]; rfl) (by decide) rfl (fun ls hl => ?_)
            refine lv_goto (tgt := 33) hx hb dX9_convoyOf_79 rfl ?_
            exact hK2 _ _ _ _ (ih t18 v3 v4 t19 hf) _ _ _ h (lv_sub hl [2, 3, 1, 4, 5, 0] rfl)
  have L19 : ∀ (rec6 : Int32 → Int32 → Option (Int32)) (hrec6 : ∀ (v2 : Int32) (v3 : Int32), rec6 v2 v3 = some r → K 6 ([] : List Value) [(h_this, ob 9 [.ref h_this_s, .ref h_this_kept, .ref h_this_laid, .int x_this_isKept, .ref h_this_pile, .ref h_this_tape, .int x_this_taped, .ref h_this_letters, .int x_this_at, .int x_this_begun, .int x_this_token, .int x_this_value, .int x_this_opened, .int x_this_steps, .ref h_this_code0, .ref h_this_read, .ref h_this_saved, .ref h_this_plan, .ref h_this_bestPlan, .int x_this_most, .int x_this_many, .int x_this_few, .int x_this_everHome, .ref h_this_offThen, .ref h_this_paidThen, .int x_this_firstFit, .ref h_this_rows, .int x_this_rowMany, .ref h_this_sorts, .ref h_this_sizes, .ref h_this_number, .ref h_this_holds, .ref h_this_heldOne, .ref h_this_trace, .int x_this_traced, .int x_this_own, .int x_this_isParted]), (h_this_s, ia G 313 f_this_s)] [(0, .ref h_this), (1, .int p0), (2, .int v2), (3, .int v3)]) (n : Nat) (v2 : Int32) (v3 : Int32) (v4 : Int32), f_X9_convoyOf_L19 rec6 f_this_s n v2 v3 v4 = some r → K 19 ([] : List Value) [(h_this, ob 9 [.ref h_this_s, .ref h_this_kept, .ref h_this_laid, .int x_this_isKept, .ref h_this_pile, .ref h_this_tape, .int x_this_taped, .ref h_this_letters, .int x_this_at, .int x_this_begun, .int x_this_token, .int x_this_value, .int x_this_opened, .int x_this_steps, .ref h_this_code0, .ref h_this_read, .ref h_this_saved, .ref h_this_plan, .ref h_this_bestPlan, .int x_this_most, .int x_this_many, .int x_this_few, .int x_this_everHome, .ref h_this_offThen, .ref h_this_paidThen, .int x_this_firstFit, .ref h_this_rows, .int x_this_rowMany, .ref h_this_sorts, .ref h_this_sizes, .ref h_this_number, .ref h_this_holds, .ref h_this_heldOne, .ref h_this_trace, .int x_this_traced, .int x_this_own, .int x_this_isParted]), (h_this_s, ia G 313 f_this_s)] [(0, .ref h_this), (1, .int p0), (2, .int v2), (3, .int v3), (4, .int v4)] := by
    intro rec6 hrec6 n
    induction n with
    | zero =>
      intro v2 v3 v4 hf
      replace hf : (none : Option _) = some _ := hf
      cases hf
    | succ n ih =>
      intro v2 v3 v4 hf
      rw [f_X9_convoyOf_L19] at hf
      refine hK1 _ _ _ _ (fun H locs ls h hl => ?_)
      refine lv_iload hx hb dX9_convoyOf_19 (lv_at hl 4 rfl) ?_
      refine lv_aload_n hx hb dX9_convoyOf_21 rfl (lv_at hl 0 rfl) ?_
      refine r_get C h fk_X9_9 0 rfl rfl dX9_convoyOf_22 ?_
      refine lv_iconst (v := (4 : Int32)) hx hb dX9_convoyOf_25 rfl ?_
      refine r_ialdL C h 1 rfl (vlit rfl) 4 rfl dX9_convoyOf_26 ?_
      refine lv_icmp_ge (tgt := 88) hx hb dX9_convoyOf_27 rfl (fun c6 => ?_) (fun c6 => ?_)
      · replace hf := ifp c6 hf
        obtain ⟨t7, et7⟩ : ∃ y : Int32, y = v3 + (1 : Int32) := ⟨_, rfl⟩
        replace hf := lt1_inv et7 hf
        refine lv_iinc (v := t7) (lv' := [(3, .int t7), (0, .ref h_this), (1, .int p0), (2, .int v2), (4, .int v4)]) hx hb dX9_convoyOf_88 hl (k := 3) rfl (by rw [et7]; rfl) (by decide) rfl (fun ls hl => ?_)
        refine lv_goto (tgt := 6) hx hb dX9_convoyOf_91 rfl ?_
        exact hK2 _ _ _ _ (hrec6 v2 t7 hf) _ _ _ h (lv_sub hl [1, 2, 3, 0] rfl)
      · replace hf := ifn c6 hf
        refine lv_iconst (v := (0 : Int32)) hx hb dX9_convoyOf_30 rfl ?_
        refine lv_istore (lv' := [(5, .int (0 : Int32)), (0, .ref h_this), (1, .int p0), (2, .int v2), (3, .int v3), (4, .int v4)]) hx hb dX9_convoyOf_31 hl (by decide) rfl (fun ls hl => ?_)
        exact hK2 _ _ _ _ (L33 _ ih 1000 v2 v3 v4 (0 : Int32) hf) _ _ _ h (lv_sub hl [1, 2, 3, 4, 5, 0] rfl)
  have L6 : ∀ (n : Nat) (v2 : Int32) (v3 : Int32), f_X9_convoyOf_L6 p0 f_this_s n v2 v3 = some r → K 6 ([] : List Value) [(h_this, ob 9 [.ref h_this_s, .ref h_this_kept, .ref h_this_laid, .int x_this_isKept, .ref h_this_pile, .ref h_this_tape, .int x_this_taped, .ref h_this_letters, .int x_this_at, .int x_this_begun, .int x_this_token, .int x_this_value, .int x_this_opened, .int x_this_steps, .ref h_this_code0, .ref h_this_read, .ref h_this_saved, .ref h_this_plan, .ref h_this_bestPlan, .int x_this_most, .int x_this_many, .int x_this_few, .int x_this_everHome, .ref h_this_offThen, .ref h_this_paidThen, .int x_this_firstFit, .ref h_this_rows, .int x_this_rowMany, .ref h_this_sorts, .ref h_this_sizes, .ref h_this_number, .ref h_this_holds, .ref h_this_heldOne, .ref h_this_trace, .int x_this_traced, .int x_this_own, .int x_this_isParted]), (h_this_s, ia G 313 f_this_s)] [(0, .ref h_this), (1, .int p0), (2, .int v2), (3, .int v3)] := by
    intro n
    induction n with
    | zero =>
      intro v2 v3 hf
      replace hf : (none : Option _) = some _ := hf
      cases hf
    | succ n ih =>
      intro v2 v3 hf
      rw [f_X9_convoyOf_L6] at hf
      refine hK1 _ _ _ _ (fun H locs ls h hl => ?_)
      refine lv_iload_n hx hb dX9_convoyOf_6 rfl (lv_at hl 3 rfl) ?_
      refine lv_aload_n hx hb dX9_convoyOf_7 rfl (lv_at hl 0 rfl) ?_
      refine r_get C h fk_X9_9 0 rfl rfl dX9_convoyOf_8 ?_
      refine lv_iconst (v := (4 : Int32)) hx hb dX9_convoyOf_11 rfl ?_
      refine r_ialdL C h 1 rfl (vlit rfl) 4 rfl dX9_convoyOf_12 ?_
      refine lv_icmp_ge (tgt := 94) hx hb dX9_convoyOf_13 rfl (fun c2 => ?_) (fun c2 => ?_)
      · replace hf := ifp c2 hf
        exact hK2 _ _ _ _ (B94 v2 hf) _ _ _ h (lv_sub hl [0, 1, 2] rfl)
      · replace hf := ifn c2 hf
        refine lv_iconst (v := (0 : Int32)) hx hb dX9_convoyOf_16 rfl ?_
        refine lv_istore (lv' := [(4, .int (0 : Int32)), (0, .ref h_this), (1, .int p0), (2, .int v2), (3, .int v3)]) hx hb dX9_convoyOf_17 hl (by decide) rfl (fun ls hl => ?_)
        exact hK2 _ _ _ _ (L19 _ ih 1000 v2 v3 (0 : Int32) hf) _ _ _ h (lv_sub hl [1, 2, 3, 4, 0] rfl)
  refine lv_iconst (v := (1 : Int32)) hx hb dX9_convoyOf_0 rfl ?_
  refine lv_iload_n hx hb dX9_convoyOf_1 rfl (lv_at hl 1 rfl) ?_
  refine lv_ishl hx hb dX9_convoyOf_2 ?_
  refine lv_topi (fun t1 et1 => ?_)
  replace hf := lt1_inv et1 hf
  refine lv_istore_n (lv' := [(2, .int t1), (0, .ref h_this), (1, .int p0)]) hx hb dX9_convoyOf_3 rfl hl (by decide) rfl (fun ls hl => ?_)
  refine lv_iconst (v := (0 : Int32)) hx hb dX9_convoyOf_4 rfl ?_
  refine lv_istore_n (lv' := [(3, .int (0 : Int32)), (2, .int t1), (0, .ref h_this), (1, .int p0)]) hx hb dX9_convoyOf_5 rfl hl (by decide) rfl (fun ls hl => ?_)
  exact hK2 _ _ _ _ (L6 1000 t1 (0 : Int32) hf) _ _ _ h (lv_sub hl [2, 3, 1, 0] rfl)
