def f_X9_convoyOf_b94 (p0 : Int32) (f_this_s : Nat → Int32) (v2 : Int32) : Option (Int32) := bd1 (f_X9_get p0 (4 : Int32) f_this_s) (fun r3 => (if r3 = (1 : Int32) then some (0 : Int32) else some v2))
def f_X9_convoyOf_L33 (rec19 : Int32 → Int32 → Int32 → Option (Int32)) (f_this_s : Nat → Int32) : Nat → Int32 → Int32 → Int32 → Int32 → Option (Int32)
  | 0, _, _, _, _ => none
  | n + 1, v2, v3, v4, v5 => (if (f_this_s 4) ≤ v5 then lt1 (v4 + (1 : Int32)) (fun (t9 : Int32) => rec19 v2 v3 t9) else (if ((v2 >>> (v4 &&& 31)) &&& (1 : Int32)) = (1 : Int32) then bd1 (f_X9_areClose v4 v5 f_this_s) (fun r13 => (if r13 = 0 then lt1 (v2 ||| (0 : Int32)) (fun (t16 : Int32) => lt1 (v5 + (1 : Int32)) (fun (t17 : Int32) => (f_X9_convoyOf_L33 rec19 f_this_s n) t16 v3 v4 t17)) else lt1 (v2 ||| ((1 : Int32) <<< (v5 &&& 31))) (fun (t18 : Int32) => lt1 (v5 + (1 : Int32)) (fun (t19 : Int32) => (f_X9_convoyOf_L33 rec19 f_this_s n) t18 v3 v4 t19)))) else lt1 (v2 ||| (0 : Int32)) (fun (t11 : Int32) => lt1 (v5 + (1 : Int32)) (fun (t12 : Int32) => (f_X9_convoyOf_L33 rec19 f_this_s n) t11 v3 v4 t12))))
def f_X9_convoyOf_L19 (rec6 : Int32 → Int32 → Option (Int32)) (f_this_s : Nat → Int32) : Nat → Int32 → Int32 → Int32 → Option (Int32)
  | 0, _, _, _ => none
  | n + 1, v2, v3, v4 => (if (f_this_s 4) ≤ v4 then lt1 (v3 + (1 : Int32)) (fun (t7 : Int32) => rec6 v2 t7) else f_X9_convoyOf_L33 (f_X9_convoyOf_L19 rec6 f_this_s n) f_this_s 1000 v2 v3 v4 (0 : Int32))
def f_X9_convoyOf_L6 (p0 : Int32) (f_this_s : Nat → Int32) : Nat → Int32 → Int32 → Option (Int32)
  | 0, _, _ => none
  | n + 1, v2, v3 => (if (f_this_s 4) ≤ v3 then f_X9_convoyOf_b94 p0 f_this_s v2 else f_X9_convoyOf_L19 (f_X9_convoyOf_L6 p0 f_this_s n) f_this_s 1000 v2 v3 (0 : Int32))
def f_X9_convoyOf (p0 : Int32) (f_this_s : Nat → Int32) : Option (Int32) := lt1 ((1 : Int32) <<< (p0 &&& 31)) (fun (t1 : Int32) => f_X9_convoyOf_L6 p0 f_this_s 1000 t1 (0 : Int32))
set_option maxRecDepth 100000 in
set_option maxHeartbeats 4000000 in
theorem c_X9_convoyOf {l : Launch} {G : Gt} {h_this h_this_s h_this_kept h_this_laid h_this_pile h_this_tape h_this_letters h_this_code0 h_this_read h_this_saved h_this_plan h_this_bestPlan h_this_offThen h_this_paidThen h_this_rows h_this_sorts h_this_sizes h_this_number h_this_holds h_this_heldOne h_this_trace : Nat} {p0 : Int32} {x_this_isKept : Int32} {x_this_taped : Int32} {x_this_at : Int32} {x_this_begun : Int32} {x_this_token : Int32} {x_this_value : Int32} {x_this_opened : Int32} {x_this_steps : Int32} {x_this_most : Int32} {x_this_many : Int32} {x_this_few : Int32} {x_this_everHome : Int32} {x_this_firstFit : Int32} {x_this_rowMany : Int32} {x_this_traced : Int32} {x_this_own : Int32} {x_this_isParted : Int32} {f_this_s : Nat → Int32} {r : Int32} (hf : f_X9_convoyOf p0 f_this_s = some r) : mFi l G yX9_convoyOf cX9_convoyOf 6 .int 2 [.ref h_this, .int p0] [(h_this, ob 9 [.ref h_this_s, .ref h_this_kept, .ref h_this_laid, .int x_this_isKept, .ref h_this_pile, .ref h_this_tape, .int x_this_taped, .ref h_this_letters, .int x_this_at, .int x_this_begun, .int x_this_token, .int x_this_value, .int x_this_opened, .int x_this_steps, .ref h_this_code0, .ref h_this_read, .ref h_this_saved, .ref h_this_plan, .ref h_this_bestPlan, .int x_this_most, .int x_this_many, .int x_this_few, .int x_this_everHome, .ref h_this_offThen, .ref h_this_paidThen, .int x_this_firstFit, .ref h_this_rows, .int x_this_rowMany, .ref h_this_sorts, .ref h_this_sizes, .ref h_this_number, .ref h_this_holds, .ref h_this_heldOne, .ref h_this_trace, .int x_this_traced, .int x_this_own, .int x_this_isParted]), (h_this_s, ia G 313 f_this_s)] r [(h_this, ob 9 [.ref h_this_s, .ref h_this_kept, .ref h_this_laid, .int x_this_isKept, .ref h_this_pile, .ref h_this_tape, .int x_this_taped, .ref h_this_letters, .int x_this_at, .int x_this_begun, .int x_this_token, .int x_this_value, .int x_this_opened, .int x_this_steps, .ref h_this_code0, .ref h_this_read, .ref h_this_saved, .ref h_this_plan, .ref h_this_bestPlan, .int x_this_most, .int x_this_many, .int x_this_few, .int x_this_everHome, .ref h_this_offThen, .ref h_this_paidThen, .int x_this_firstFit, .ref h_this_rows, .int x_this_rowMany, .ref h_this_sorts, .ref h_this_sizes, .ref h_this_number, .ref h_this_holds, .ref h_this_heldOne, .ref h_this_trace, .int x_this_traced, .int x_this_own, .int x_this_isParted]), (h_this_s, ia G 313 f_this_s)] := by
  refine mFi.of (by decide +kernel) (Nat.le_of_ble_eq_true rfl) ?_
  intro p e s m below meth c A C hr hlk h ls hl
  obtain ⟨hx, hb, hml, hown, hts⟩ := id C
  replace hl : lv_has ls 6 [(0, .ref h_this), (1, .int p0)] := hl
  unfold f_X9_convoyOf at hf
  refine with_K G A 6 (fun K hK1 hK2 => ?_)
  have B94 : ∀ (v2 : Int32), f_X9_convoyOf_b94 p0 f_this_s v2 = some r → K 94 ([] : List Value) [(h_this, ob 9 [.ref h_this_s, .ref h_this_kept, .ref h_this_laid, .int x_this_isKept, .ref h_this_pile, .ref h_this_tape, .int x_this_taped, .ref h_this_letters, .int x_this_at, .int x_this_begun, .int x_this_token, .int x_this_value, .int x_this_opened, .int x_this_steps, .ref h_this_code0, .ref h_this_read, .ref h_this_saved, .ref h_this_plan, .ref h_this_bestPlan, .int x_this_most, .int x_this_many, .int x_this_few, .int x_this_everHome, .ref h_this_offThen, .ref h_this_paidThen, .int x_this_firstFit, .ref h_this_rows, .int x_this_rowMany, .ref h_this_sorts, .ref h_this_sizes, .ref h_this_number, .ref h_this_holds, .ref h_this_heldOne, .ref h_this_trace, .int x_this_traced, .int x_this_own, .int x_this_isParted]), (h_this_s, ia G 313 f_this_s)] [(0, .ref h_this), (1, .int p0), (2, .int v2)] := by
    intro v2 hf
    unfold f_X9_convoyOf_b94 at hf
    refine hK1 _ _ _ _ (fun H locs ls h hl => ?_)
    refine lv_aload_n hx hb dX9_convoyOf_94 rfl (lv_at hl 0 rfl) ?_
    refine lv_iload_n hx hb dX9_convoyOf_95 rfl (lv_at hl 1 rfl) ?_
    refine lv_iconst (v := (4 : Int32)) hx hb dX9_convoyOf_96 rfl ?_
    replace hf := bd1_inv hf
    obtain ⟨r3, hc4, hf⟩ := hf
    refine r_ciV0 C h (c_X9_get hc4) mv_X9_79 rfl 0 rfl [0, 1] rfl rfl hl.1 rfl (Nat.le_of_ble_eq_true rfl) (rok (by decide)) dX9_convoyOf_97 (fun H locs h => ?_)
    refine lv_iconst (v := (1 : Int32)) hx hb dX9_convoyOf_100 rfl ?_
    refine lv_icmp_ne (tgt := 108) hx hb dX9_convoyOf_101 rfl (fun c5 => ?_) (fun c5 => ?_)
    · replace hf := ifn c5 hf
      refine lv_iload_n hx hb dX9_convoyOf_108 rfl (lv_at hl 2 rfl) ?_
      cases hf
      exact r_iret C h hr hlk rfl dX9_convoyOf_109
    · replace hf := ifp c5 hf
      refine lv_iconst (v := (0 : Int32)) hx hb dX9_convoyOf_104 rfl ?_
      refine lv_goto (tgt := 109) hx hb dX9_convoyOf_105 rfl ?_
      cases hf
      exact r_iret C h hr hlk rfl dX9_convoyOf_109
  have L33 : ∀ (rec19 : Int32 → Int32 → Int32 → Option (Int32)) (hrec19 : ∀ (v2 : Int32) (v3 : Int32) (v4 : Int32), rec19 v2 v3 v4 = some r → K 19 ([] : List Value) [(h_this, ob 9 [.ref h_this_s, .ref h_this_kept, .ref h_this_laid, .int x_this_isKept, .ref h_this_pile, .ref h_this_tape, .int x_this_taped, .ref h_this_letters, .int x_this_at, .int x_this_begun, .int x_this_token, .int x_this_value, .int x_this_opened, .int x_this_steps, .ref h_this_code0, .ref h_this_read, .ref h_this_saved, .ref h_this_plan, .ref h_this_bestPlan, .int x_this_most, .int x_this_many, .int x_this_few, .int x_this_everHome, .ref h_this_offThen, .ref h_this_paidThen, .int x_this_firstFit, .ref h_this_rows, .int x_this_rowMany, .ref h_this_sorts, .ref h_this_sizes, .ref h_this_number, .ref h_this_holds, .ref h_this_heldOne, .ref h_this_trace, .int x_this_traced, .int x_this_own, .int x_this_isParted]), (h_this_s, ia G 313 f_this_s)] [(0, .ref h_this), (1, .int p0), (2, .int v2), (3, .int v3), (4, .int v4)]) (n : Nat) (v2 : Int32) (v3 : Int32) (v4 : Int32) (v5 : Int32), f_X9_convoyOf_L33 rec19 f_this_s n v2 v3 v4 v5 = some r → K 33 ([] : List Value) [(h_this, ob 9 [.ref h_this_s, .ref h_this_kept, .ref h_this_laid, .int x_this_isKept, .ref h_this_pile, .ref h_this_tape, .int x_this_taped, .ref h_this_letters, .int x_this_at, .int x_this_begun, .int x_this_token, .int x_this_value, .int x_this_opened, .int x_this_steps, .ref h_this_code0, .ref h_this_read, .ref h_this_saved, .ref h_this_plan, .ref h_this_bestPlan, .int x_this_most, .int x_this_many, .int x_this_few, .int x_this_everHome, .ref h_this_offThen, .ref h_this_paidThen, .int x_this_firstFit, .ref h_this_rows, .int x_this_rowMany, .ref h_this_sorts, .ref h_this_sizes, .ref h_this_number, .ref h_this_holds, .ref h_this_heldOne, .ref h_this_trace, .int x_this_traced, .int x_this_own, .int x_this_isParted]), (h_this_s, ia G 313 f_this_s)] [(0, .ref h_this), (1, .int p0), (2, .int v2), (3, .int v3), (4, .int v4), (5, .int v5)] := by
    intro rec19 hrec19 n
    induction n with
    | zero =>
      intro v2 v3 v4 v5 hf
      replace hf : (none : Option _) = some _ := hf
      cases hf
    | succ n ih =>
      intro v2 v3 v4 v5 hf
      rw [f_X9_convoyOf_L33] at hf
      refine hK1 _ _ _ _ (fun H locs ls h hl => ?_)
      refine lv_iload hx hb dX9_convoyOf_33 (lv_at hl 5 rfl) ?_
      refine lv_aload_n hx hb dX9_convoyOf_35 rfl (lv_at hl 0 rfl) ?_
      refine r_get C h fk_X9_9 0 rfl rfl dX9_convoyOf_36 ?_
      refine lv_iconst (v := (4 : Int32)) hx hb dX9_convoyOf_39 rfl ?_
      refine r_ialdL C h 1 rfl (vlit rfl) 4 rfl dX9_convoyOf_40 ?_
      refine lv_icmp_ge (tgt := 82) hx hb dX9_convoyOf_41 rfl (fun c8 => ?_) (fun c8 => ?_)
      · replace hf := ifp c8 hf
        obtain ⟨t9, et9⟩ : ∃ y : Int32, y = v4 + (1 : Int32) := ⟨_, rfl⟩
        replace hf := lt1_inv et9 hf
        refine lv_iinc (v := t9) (lv' := [(4, .int t9), (0, .ref h_this), (1, .int p0), (2, .int v2), (3, .int v3), (5, .int v5)]) hx hb dX9_convoyOf_82 hl (k := 4) rfl (by rw [et9]; rfl) (by decide) rfl (fun ls hl => ?_)
        refine lv_goto (tgt := 19) hx hb dX9_convoyOf_85 rfl ?_
        exact hK2 _ _ _ _ (hrec19 v2 v3 t9 hf) _ _ _ h (lv_sub hl [1, 2, 3, 4, 0] rfl)
      · replace hf := ifn c8 hf
        refine lv_iload_n hx hb dX9_convoyOf_44 rfl (lv_at hl 2 rfl) ?_
        refine lv_iload_n hx hb dX9_convoyOf_45 rfl (lv_at hl 2 rfl) ?_
        refine lv_iload hx hb dX9_convoyOf_46 (lv_at hl 4 rfl) ?_
        refine lv_ishr hx hb dX9_convoyOf_48 ?_
        refine lv_iconst (v := (1 : Int32)) hx hb dX9_convoyOf_49 rfl ?_
        refine lv_iand hx hb dX9_convoyOf_50 ?_
        refine lv_iconst (v := (1 : Int32)) hx hb dX9_convoyOf_51 rfl ?_
        refine lv_icmp_ne (tgt := 73) hx hb dX9_convoyOf_52 rfl (fun c10 => ?_) (fun c10 => ?_)
        · replace hf := ifn c10 hf
          refine lv_iconst (v := (0 : Int32)) hx hb dX9_convoyOf_73 rfl ?_
          refine lv_ior hx hb dX9_convoyOf_74 ?_
          refine lv_topi (fun t11 et11 => ?_)
          replace hf := lt1_inv et11 hf
          refine lv_istore_n (lv' := [(2, .int t11), (0, .ref h_this), (1, .int p0), (3, .int v3), (4, .int v4), (5, .int v5)]) hx hb dX9_convoyOf_75 rfl hl (by decide) rfl (fun ls hl => ?_)
          obtain ⟨t12, et12⟩ : ∃ y : Int32, y = v5 + (1 : Int32) := ⟨_, rfl⟩
          replace hf := lt1_inv et12 hf
          refine lv_iinc (v := t12) (lv' := [(5, .int t12), (2, .int t11), (0, .ref h_this), (1, .int p0), (3, .int v3), (4, .int v4)]) hx hb dX9_convoyOf_76 hl (k := 5) rfl (by rw [et12]; rfl) (by decide) rfl (fun ls hl => ?_)
          refine lv_goto (tgt := 33) hx hb dX9_convoyOf_79 rfl ?_
          exact hK2 _ _ _ _ (ih t11 v3 v4 t12 hf) _ _ _ h (lv_sub hl [2, 3, 1, 4, 5, 0] rfl)
        · replace hf := ifp c10 hf
          refine lv_aload_n hx hb dX9_convoyOf_55 rfl (lv_at hl 0 rfl) ?_
          refine lv_iload hx hb dX9_convoyOf_56 (lv_at hl 4 rfl) ?_
          refine lv_iload hx hb dX9_convoyOf_58 (lv_at hl 5 rfl) ?_
          replace hf := bd1_inv hf
          obtain ⟨r13, hc14, hf⟩ := hf
          refine r_ciV0 C h (c_X9_areClose hc14) mv_X9_256 rfl 0 rfl [0, 1] rfl rfl hl.1 rfl (Nat.le_of_ble_eq_true rfl) (rok (by decide)) dX9_convoyOf_60 (fun H locs h => ?_)
          refine lv_if_eq (tgt := 73) hx hb dX9_convoyOf_63 rfl (fun c15 => ?_) (fun c15 => ?_)
          · replace hf := ifp c15 hf
            refine lv_iconst (v := (0 : Int32)) hx hb dX9_convoyOf_73 rfl ?_
            refine lv_ior hx hb dX9_convoyOf_74 ?_
            refine lv_topi (fun t16 et16 => ?_)
            replace hf := lt1_inv et16 hf
            refine lv_istore_n (lv' := [(2, .int t16), (0, .ref h_this), (1, .int p0), (3, .int v3), (4, .int v4), (5, .int v5)]) hx hb dX9_convoyOf_75 rfl hl (by decide) rfl (fun ls hl => ?_)
            obtain ⟨t17, et17⟩ : ∃ y : Int32, y = v5 + (1 : Int32) := ⟨_, rfl⟩
            replace hf := lt1_inv et17 hf
            refine lv_iinc (v := t17) (lv' := [(5, .int t17), (2, .int t16), (0, .ref h_this), (1, .int p0), (3, .int v3), (4, .int v4)]) hx hb dX9_convoyOf_76 hl (k := 5) rfl (by rw [et17]; rfl) (by decide) rfl (fun ls hl => ?_)
            refine lv_goto (tgt := 33) hx hb dX9_convoyOf_79 rfl ?_
            exact hK2 _ _ _ _ (ih t16 v3 v4 t17 hf) _ _ _ h (lv_sub hl [2, 3, 1, 4, 5, 0] rfl)
          · replace hf := ifn c15 hf
            refine lv_iconst (v := (1 : Int32)) hx hb dX9_convoyOf_66 rfl ?_
            refine lv_iload hx hb dX9_convoyOf_67 (lv_at hl 5 rfl) ?_
            refine lv_ishl hx hb dX9_convoyOf_69 ?_
            refine lv_goto (tgt := 74) hx hb dX9_convoyOf_70 rfl ?_
            refine lv_ior hx hb dX9_convoyOf_74 ?_
            refine lv_topi (fun t18 et18 => ?_)
            replace hf := lt1_inv et18 hf
            refine lv_istore_n (lv' := [(2, .int t18), (0, .ref h_this), (1, .int p0), (3, .int v3), (4, .int v4), (5, .int v5)]) hx hb dX9_convoyOf_75 rfl hl (by decide) rfl (fun ls hl => ?_)
            obtain ⟨t19, et19⟩ : ∃ y : Int32, y = v5 + (1 : Int32) := ⟨_, rfl⟩
            replace hf := lt1_inv et19 hf
            refine lv_iinc (v := t19) (lv' := [(5, .int t19), (2, .int t18), (0, .ref h_this), (1, .int p0), (3, .int v3), (4, .int v4)]) hx hb dX9_convoyOf_76 hl (k := 5) rfl (by rw [et19]; rfl) (by decide) rfl (fun ls hl => ?_)
            refine lv_goto (tgt := 33) hx hb dX9_convoyOf_79 rfl ?_
            exact hK2 _ _ _ _ (ih t18 v3 v4 t19 hf) _ _ _ h (lv_sub hl [2, 3, 1, 4, 5, 0] rfl)
  have L19 : ∀ (rec6 : Int32 → Int32 → Option (Int32)) (hrec6 : ∀ (v2 : Int32) (v3 : Int32), rec6 v2 v3 = some r → K 6 ([] : List Value) [(h_this, ob 9 [.ref h_this_s, .ref h_this_kept, .ref h_this_laid, .int x_this_isKept, .ref h_this_pile, .ref h_this_tape, .int x_this_taped, .ref h_this_letters, .int x_this_at, .int x_this_begun, .int x_this_token, .int x_this_value, .int x_this_opened, .int x_this_steps, .ref h_this_code0, .ref h_this_read, .ref h_this_saved, .ref h_this_plan, .ref h_this_bestPlan, .int x_this_most, .int x_this_many, .int x_this_few, .int x_this_everHome, .ref h_this_offThen, .ref h_this_paidThen, .int x_this_firstFit, .ref h_this_rows, .int x_this_rowMany, .ref h_this_sorts, .ref h_this_sizes, .ref h_this_number, .ref h_this_holds, .ref h_this_heldOne, .ref h_this_trace, .int x_this_traced, .int x_this_own, .int x_this_isParted]), (h_this_s, ia G 313 f_this_s)] [(0, .ref h_this), (1, .int p0), (2, .int v2), (3, .int v3)]) (n : Nat) (v2 : Int32) (v3 : Int32) (v4 : Int32), f_X9_convoyOf_L19 rec6 f_this_s n v2 v3 v4 = some r → K 19 ([] : List Value) [(h_this, ob 9 [.ref h_this_s, .ref h_this_kept, .ref h_this_laid, .int x_this_isKept, .ref h_this_pile, .ref h_this_tape, .int x_this_taped, .ref h_this_letters, .int x_this_at, .int x_this_begun, .int x_this_token, .int x_this_value, .int x_this_opened, .int x_this_steps, .ref h_this_code0, .ref h_this_read, .ref h_this_saved, .ref h_this_plan, .ref h_this_bestPlan, .int x_this_most, .int x_this_many, .int x_this_few, .int x_this_everHome, .ref h_this_offThen, .ref h_this_paidThen, .int x_this_firstFit, .ref h_this_rows, .int x_this_rowMany, .ref h_this_sorts, .ref h_this_sizes, .ref h_this_number, .ref h_this_holds, .ref h_this_heldOne, .ref h_this_trace, .int x_this_traced, .int x_this_own, .int x_this_isParted]), (h_this_s, ia G 313 f_this_s)] [(0, .ref h_this), (1, .int p0), (2, .int v2), (3, .int v3), (4, .int v4)] := by
    intro rec6 hrec6 n
    induction n with
    | zero =>
      intro v2 v3 v4 hf
      replace hf : (none : Option _) = some _ := hf
      cases hf
    | succ n ih =>
      intro v2 v3 v4 hf
      rw [f_X9_convoyOf_L19] at hf
      refine hK1 _ _ _ _ (fun H locs ls h hl => ?_)
      refine lv_iload hx hb dX9_convoyOf_19 (lv_at hl 4 rfl) ?_
      refine lv_aload_n hx hb dX9_convoyOf_21 rfl (lv_at hl 0 rfl) ?_
      refine r_get C h fk_X9_9 0 rfl rfl dX9_convoyOf_22 ?_
      refine lv_iconst (v := (4 : Int32)) hx hb dX9_convoyOf_25 rfl ?_
      refine r_ialdL C h 1 rfl (vlit rfl) 4 rfl dX9_convoyOf_26 ?_
      refine lv_icmp_ge (tgt := 88) hx hb dX9_convoyOf_27 rfl (fun c6 => ?_) (fun c6 => ?_)
      · replace hf := ifp c6 hf
        obtain ⟨t7, et7⟩ : ∃ y : Int32, y = v3 + (1 : Int32) := ⟨_, rfl⟩
        replace hf := lt1_inv et7 hf
        refine lv_iinc (v := t7) (lv' := [(3, .int t7), (0, .ref h_this), (1, .int p0), (2, .int v2), (4, .int v4)]) hx hb dX9_convoyOf_88 hl (k := 3) rfl (by rw [et7]; rfl) (by decide) rfl (fun ls hl => ?_)
        refine lv_goto (tgt := 6) hx hb dX9_convoyOf_91 rfl ?_
        exact hK2 _ _ _ _ (hrec6 v2 t7 hf) _ _ _ h (lv_sub hl [1, 2, 3, 0] rfl)
      · replace hf := ifn c6 hf
        refine lv_iconst (v := (0 : Int32)) hx hb dX9_convoyOf_30 rfl ?_
        refine lv_istore (lv' := [(5, .int (0 : Int32)), (0, .ref h_this), (1, .int p0), (2, .int v2), (3, .int v3), (4, .int v4)]) hx hb dX9_convoyOf_31 hl (by decide) rfl (fun ls hl => ?_)
        exact hK2 _ _ _ _ (L33 _ ih 1000 v2 v3 v4 (0 : Int32) hf) _ _ _ h (lv_sub hl [1, 2, 3, 4, 5, 0] rfl)
  have L6 : ∀ (n : Nat) (v2 : Int32) (v3 : Int32), f_X9_convoyOf_L6 p0 f_this_s n v2 v3 = some r → K 6 ([] : List Value) [(h_this, ob 9 [.ref h_this_s, .ref h_this_kept, .ref h_this_laid, .int x_this_isKept, .ref h_this_pile, .ref h_this_tape, .int x_this_taped, .ref h_this_letters, .int x_this_at, .int x_this_begun, .int x_this_token, .int x_this_value, .int x_this_opened, .int x_this_steps, .ref h_this_code0, .ref h_this_read, .ref h_this_saved, .ref h_this_plan, .ref h_this_bestPlan, .int x_this_most, .int x_this_many, .int x_this_few, .int x_this_everHome, .ref h_this_offThen, .ref h_this_paidThen, .int x_this_firstFit, .ref h_this_rows, .int x_this_rowMany, .ref h_this_sorts, .ref h_this_sizes, .ref h_this_number, .ref h_this_holds, .ref h_this_heldOne, .ref h_this_trace, .int x_this_traced, .int x_this_own, .int x_this_isParted]), (h_this_s, ia G 313 f_this_s)] [(0, .ref h_this), (1, .int p0), (2, .int v2), (3, .int v3)] := by
    intro n
    induction n with
    | zero =>
      intro v2 v3 hf
      replace hf : (none : Option _) = some _ := hf
      cases hf
    | succ n ih =>
      intro v2 v3 hf
      rw [f_X9_convoyOf_L6] at hf
      refine hK1 _ _ _ _ (fun H locs ls h hl => ?_)
      refine lv_iload_n hx hb dX9_convoyOf_6 rfl (lv_at hl 3 rfl) ?_
      refine lv_aload_n hx hb dX9_convoyOf_7 rfl (lv_at hl 0 rfl) ?_
      refine r_get C h fk_X9_9 0 rfl rfl dX9_convoyOf_8 ?_
      refine lv_iconst (v := (4 : Int32)) hx hb dX9_convoyOf_11 rfl ?_
      refine r_ialdL C h 1 rfl (vlit rfl) 4 rfl dX9_convoyOf_12 ?_
      refine lv_icmp_ge (tgt := 94) hx hb dX9_convoyOf_13 rfl (fun c2 => ?_) (fun c2 => ?_)
      · replace hf := ifp c2 hf
        exact hK2 _ _ _ _ (B94 v2 hf) _ _ _ h (lv_sub hl [0, 1, 2] rfl)
      · replace hf := ifn c2 hf
        refine lv_iconst (v := (0 : Int32)) hx hb dX9_convoyOf_16 rfl ?_
        refine lv_istore (lv' := [(4, .int (0 : Int32)), (0, .ref h_this), (1, .int p0), (2, .int v2), (3, .int v3)]) hx hb dX9_convoyOf_17 hl (by decide) rfl (fun ls hl => ?_)
        exact hK2 _ _ _ _ (L19 _ ih 1000 v2 v3 (0 : Int32) hf) _ _ _ h (lv_sub hl [1, 2, 3, 4, 0] rfl)
  refine lv_iconst (v := (1 : Int32)) hx hb dX9_convoyOf_0 rfl ?_
  refine lv_iload_n hx hb dX9_convoyOf_1 rfl (lv_at hl 1 rfl) ?_
  refine lv_ishl hx hb dX9_convoyOf_2 ?_
  refine lv_topi (fun t1 et1 => ?_)
  replace hf := lt1_inv et1 hf
  refine lv_istore_n (lv' := [(2, .int t1), (0, .ref h_this), (1, .int p0)]) hx hb dX9_convoyOf_3 rfl hl (by decide) rfl (fun ls hl => ?_)
  refine lv_iconst (v := (0 : Int32)) hx hb dX9_convoyOf_4 rfl ?_
  refine lv_istore_n (lv' := [(3, .int (0 : Int32)), (2, .int t1), (0, .ref h_this), (1, .int p0)]) hx hb dX9_convoyOf_5 rfl hl (by decide) rfl (fun ls hl => ?_)
  exact hK2 _ _ _ _ (L6 1000 t1 (0 : Int32) hf) _ _ _ h (lv_sub hl [2, 3, 1, 0] rfl)
def f_X9_convoys_L29 (f_this_s : Nat → Int32) : Nat → Int32 → Int32 → Option (Int32)
  | 0, _, _ => none
  | n + 1, v2, v3 => (if (f_this_s 4) ≤ v3 then some v2 else bd1 (f_X9_convoyOf v3 f_this_s) (fun r4 => (if r4 = 0 then lt1 (v2 + (0 : Int32)) (fun (t7 : Int32) => lt1 (v3 + (1 : Int32)) (fun (t8 : Int32) => (f_X9_convoys_L29 f_this_s n) t7 t8)) else chkD ((1 : Int32) <<< (v3 &&& 31)) ((if (r4 - r4 / ((1 : Int32) <<< (v3 &&& 31)) * ((1 : Int32) <<< (v3 &&& 31))) = 0 then lt1 (v2 + (1 : Int32)) (fun (t13 : Int32) => lt1 (v3 + (1 : Int32)) (fun (t14 : Int32) => (f_X9_convoys_L29 f_this_s n) t13 t14)) else lt1 (v2 + (0 : Int32)) (fun (t11 : Int32) => lt1 (v3 + (1 : Int32)) (fun (t12 : Int32) => (f_X9_convoys_L29 f_this_s n) t11 t12)))))))
def f_X9_convoys_b15 (p0 : Int32) (f_this_s : Nat → Int32) : Option (Int32) := (if p0 < 0 then f_X9_convoys_L29 f_this_s 1000 (0 : Int32) (0 : Int32) else bd1 (f_X9_convoyOf p0 f_this_s) (fun r15 => some r15))
def f_X9_convoys (p0 : Int32) (f_this_s : Nat → Int32) : Option (Int32) := (if p0 = (-1 : Int32) then f_X9_convoys_b15 p0 f_this_s else bd1 (f_X9_isShip p0 f_this_s) (fun r17 => (if r17 = 0 then some (-1 : Int32) else f_X9_convoys_b15 p0 f_this_s)))
set_option maxRecDepth 100000 in
set_option maxHeartbeats 4000000 in
theorem c_X9_convoys {l : Launch} {G : Gt} {h_this h_this_s h_this_kept h_this_laid h_this_pile h_this_tape h_this_letters h_this_code0 h_this_read h_this_saved h_this_plan h_this_bestPlan h_this_offThen h_this_paidThen h_this_rows h_this_sorts h_this_sizes h_this_number h_this_holds h_this_heldOne h_this_trace : Nat} {p0 : Int32} {x_this_isKept : Int32} {x_this_taped : Int32} {x_this_at : Int32} {x_this_begun : Int32} {x_this_token : Int32} {x_this_value : Int32} {x_this_opened : Int32} {x_this_steps : Int32} {x_this_most : Int32} {x_this_many : Int32} {x_this_few : Int32} {x_this_everHome : Int32} {x_this_firstFit : Int32} {x_this_rowMany : Int32} {x_this_traced : Int32} {x_this_own : Int32} {x_this_isParted : Int32} {f_this_s : Nat → Int32} {r : Int32} (hf : f_X9_convoys p0 f_this_s = some r) : mFi l G yX9_convoys cX9_convoys 5 .int 3 [.ref h_this, .int p0] [(h_this, ob 9 [.ref h_this_s, .ref h_this_kept, .ref h_this_laid, .int x_this_isKept, .ref h_this_pile, .ref h_this_tape, .int x_this_taped, .ref h_this_letters, .int x_this_at, .int x_this_begun, .int x_this_token, .int x_this_value, .int x_this_opened, .int x_this_steps, .ref h_this_code0, .ref h_this_read, .ref h_this_saved, .ref h_this_plan, .ref h_this_bestPlan, .int x_this_most, .int x_this_many, .int x_this_few, .int x_this_everHome, .ref h_this_offThen, .ref h_this_paidThen, .int x_this_firstFit, .ref h_this_rows, .int x_this_rowMany, .ref h_this_sorts, .ref h_this_sizes, .ref h_this_number, .ref h_this_holds, .ref h_this_heldOne, .ref h_this_trace, .int x_this_traced, .int x_this_own, .int x_this_isParted]), (h_this_s, ia G 313 f_this_s)] r [(h_this, ob 9 [.ref h_this_s, .ref h_this_kept, .ref h_this_laid, .int x_this_isKept, .ref h_this_pile, .ref h_this_tape, .int x_this_taped, .ref h_this_letters, .int x_this_at, .int x_this_begun, .int x_this_token, .int x_this_value, .int x_this_opened, .int x_this_steps, .ref h_this_code0, .ref h_this_read, .ref h_this_saved, .ref h_this_plan, .ref h_this_bestPlan, .int x_this_most, .int x_this_many, .int x_this_few, .int x_this_everHome, .ref h_this_offThen, .ref h_this_paidThen, .int x_this_firstFit, .ref h_this_rows, .int x_this_rowMany, .ref h_this_sorts, .ref h_this_sizes, .ref h_this_number, .ref h_this_holds, .ref h_this_heldOne, .ref h_this_trace, .int x_this_traced, .int x_this_own, .int x_this_isParted]), (h_this_s, ia G 313 f_this_s)] := by
  refine mFi.of (by decide +kernel) (Nat.le_of_ble_eq_true rfl) ?_
  intro p e s m below meth c A C hr hlk h ls hl
  obtain ⟨hx, hb, hml, hown, hts⟩ := id C
  replace hl : lv_has ls 5 [(0, .ref h_this), (1, .int p0)] := hl
  unfold f_X9_convoys at hf
  refine with_K G A 5 (fun K hK1 hK2 => ?_)
  have L29 : ∀ (n : Nat) (v2 : Int32) (v3 : Int32), f_X9_convoys_L29 f_this_s n v2 v3 = some r → K 29 ([] : List Value) [(h_this, ob 9 [.ref h_this_s, .ref h_this_kept, .ref h_this_laid, .int x_this_isKept, .ref h_this_pile, .ref h_this_tape, .int x_this_taped, .ref h_this_letters, .int x_this_at, .int x_this_begun, .int x_this_token, .int x_this_value, .int x_this_opened, .int x_this_steps, .ref h_this_code0, .ref h_this_read, .ref h_this_saved, .ref h_this_plan, .ref h_this_bestPlan, .int x_this_most, .int x_this_many, .int x_this_few, .int x_this_everHome, .ref h_this_offThen, .ref h_this_paidThen, .int x_this_firstFit, .ref h_this_rows, .int x_this_rowMany, .ref h_this_sorts, .ref h_this_sizes, .ref h_this_number, .ref h_this_holds, .ref h_this_heldOne, .ref h_this_trace, .int x_this_traced, .int x_this_own, .int x_this_isParted]), (h_this_s, ia G 313 f_this_s)] [(0, .ref h_this), (2, .int v2), (3, .int v3)] := by
    intro n
    induction n with
    | zero =>
      intro v2 v3 hf
      replace hf : (none : Option _) = some _ := hf
      cases hf
    | succ n ih =>
      intro v2 v3 hf
      rw [f_X9_convoys_L29] at hf
      refine hK1 _ _ _ _ (fun H locs ls h hl => ?_)
      refine lv_iload_n hx hb dX9_convoys_29 rfl (lv_at hl 2 rfl) ?_
      refine lv_aload_n hx hb dX9_convoys_30 rfl (lv_at hl 0 rfl) ?_
      refine r_get C h fk_X9_9 0 rfl rfl dX9_convoys_31 ?_
      refine lv_iconst (v := (4 : Int32)) hx hb dX9_convoys_34 rfl ?_
      refine r_ialdL C h 1 rfl (vlit rfl) 4 rfl dX9_convoys_35 ?_
      refine lv_icmp_ge (tgt := 74) hx hb dX9_convoys_36 rfl (fun c3 => ?_) (fun c3 => ?_)
      · replace hf := ifp c3 hf
        refine lv_iload_n hx hb dX9_convoys_74 rfl (lv_at hl 1 rfl) ?_
        cases hf
        exact r_iret C h hr hlk rfl dX9_convoys_75
      · replace hf := ifn c3 hf
        refine lv_aload_n hx hb dX9_convoys_39 rfl (lv_at hl 0 rfl) ?_
        refine lv_iload_n hx hb dX9_convoys_40 rfl (lv_at hl 2 rfl) ?_
        replace hf := bd1_inv hf
        obtain ⟨r4, hc5, hf⟩ := hf
        refine r_ciV0 C h (c_X9_convoyOf hc5) mv_X9_259 rfl 0 rfl [0, 1] rfl rfl hl.1 rfl (Nat.le_of_ble_eq_true rfl) (rok (by decide)) dX9_convoys_41 (fun H locs h => ?_)
        refine lv_istore (lv' := [(4, .int r4), (0, .ref h_this), (2, .int v2), (3, .int v3)]) hx hb dX9_convoys_44 hl (by decide) rfl (fun ls hl => ?_)
        refine lv_iload_n hx hb dX9_convoys_46 rfl (lv_at hl 2 rfl) ?_
        refine lv_iload hx hb dX9_convoys_47 (lv_at hl 0 rfl) ?_
        refine lv_if_eq (tgt := 65) hx hb dX9_convoys_49 rfl (fun c6 => ?_) (fun c6 => ?_)
        · replace hf := ifp c6 hf
          refine lv_iconst (v := (0 : Int32)) hx hb dX9_convoys_65 rfl ?_
          refine lv_iadd hx hb dX9_convoys_66 ?_
          refine lv_topi (fun t7 et7 => ?_)
          replace hf := lt1_inv et7 hf
          refine lv_istore_n (lv' := [(2, .int t7), (4, .int r4), (0, .ref h_this), (3, .int v3)]) hx hb dX9_convoys_67 rfl hl (by decide) rfl (fun ls hl => ?_)
          obtain ⟨t8, et8⟩ : ∃ y : Int32, y = v3 + (1 : Int32) := ⟨_, rfl⟩
          replace hf := lt1_inv et8 hf
          refine lv_iinc (v := t8) (lv' := [(3, .int t8), (2, .int t7), (4, .int r4), (0, .ref h_this)]) hx hb dX9_convoys_68 hl (k := 3) rfl (by rw [et8]; rfl) (by decide) rfl (fun ls hl => ?_)
          refine lv_goto (tgt := 29) hx hb dX9_convoys_71 rfl ?_
          exact hK2 _ _ _ _ (ih t7 t8 hf) _ _ _ h (lv_sub hl [3, 1, 0] rfl)
        · replace hf := ifn c6 hf
          refine lv_iload hx hb dX9_convoys_52 (lv_at hl 0 rfl) ?_
          refine lv_iconst (v := (1 : Int32)) hx hb dX9_convoys_54 rfl ?_
          refine lv_iload_n hx hb dX9_convoys_55 rfl (lv_at hl 3 rfl) ?_
          refine lv_ishl hx hb dX9_convoys_56 ?_
          replace hf := chkD_inv hf
          obtain ⟨hd9, hf⟩ := hf
          refine lv_irem hx hb dX9_convoys_57 hd9 ?_
          refine lv_if_ne (tgt := 65) hx hb dX9_convoys_58 rfl (fun c10 => ?_) (fun c10 => ?_)
          · replace hf := ifn c10 hf
            refine lv_iconst (v := (0 : Int32)) hx hb dX9_convoys_65 rfl ?_
            refine lv_iadd hx hb dX9_convoys_66 ?_
            refine lv_topi (fun t11 et11 => ?_)
            replace hf := lt1_inv et11 hf
            refine lv_istore_n (lv' := [(2, .int t11), (4, .int r4), (0, .ref h_this), (3, .int v3)]) hx hb dX9_convoys_67 rfl hl (by decide) rfl (fun ls hl => ?_)
            obtain ⟨t12, et12⟩ : ∃ y : Int32, y = v3 + (1 : Int32) := ⟨_, rfl⟩
            replace hf := lt1_inv et12 hf
            refine lv_iinc (v := t12) (lv' := [(3, .int t12), (2, .int t11), (4, .int r4), (0, .ref h_this)]) hx hb dX9_convoys_68 hl (k := 3) rfl (by rw [et12]; rfl) (by decide) rfl (fun ls hl => ?_)
            refine lv_goto (tgt := 29) hx hb dX9_convoys_71 rfl ?_
            exact hK2 _ _ _ _ (ih t11 t12 hf) _ _ _ h (lv_sub hl [3, 1, 0] rfl)
          · replace hf := ifp c10 hf
            refine lv_iconst (v := (1 : Int32)) hx hb dX9_convoys_61 rfl ?_
            refine lv_goto (tgt := 66) hx hb dX9_convoys_62 rfl ?_
            refine lv_iadd hx hb dX9_convoys_66 ?_
            refine lv_topi (fun t13 et13 => ?_)
            replace hf := lt1_inv et13 hf
            refine lv_istore_n (lv' := [(2, .int t13), (4, .int r4), (0, .ref h_this), (3, .int v3)]) hx hb dX9_convoys_67 rfl hl (by decide) rfl (fun ls hl => ?_)
            obtain ⟨t14, et14⟩ : ∃ y : Int32, y = v3 + (1 : Int32) := ⟨_, rfl⟩
            replace hf := lt1_inv et14 hf
            refine lv_iinc (v := t14) (lv' := [(3, .int t14), (2, .int t13), (4, .int r4), (0, .ref h_this)]) hx hb dX9_convoys_68 hl (k := 3) rfl (by rw [et14]; rfl) (by decide) rfl (fun ls hl => ?_)
            refine lv_goto (tgt := 29) hx hb dX9_convoys_71 rfl ?_
            exact hK2 _ _ _ _ (ih t13 t14 hf) _ _ _ h (lv_sub hl [3, 1, 0] rfl)
  have B15 : f_X9_convoys_b15 p0 f_this_s = some r → K 15 ([] : List Value) [(h_this, ob 9 [.ref h_this_s, .ref h_this_kept, .ref h_this_laid, .int x_this_isKept, .ref h_this_pile, .ref h_this_tape, .int x_this_taped, .ref h_this_letters, .int x_this_at, .int x_this_begun, .int x_this_token, .int x_this_value, .int x_this_opened, .int x_this_steps, .ref h_this_code0, .ref h_this_read, .ref h_this_saved, .ref h_this_plan, .ref h_this_bestPlan, .int x_this_most, .int x_this_many, .int x_this_few, .int x_this_everHome, .ref h_this_offThen, .ref h_this_paidThen, .int x_this_firstFit, .ref h_this_rows, .int x_this_rowMany, .ref h_this_sorts, .ref h_this_sizes, .ref h_this_number, .ref h_this_holds, .ref h_this_heldOne, .ref h_this_trace, .int x_this_traced, .int x_this_own, .int x_this_isParted]), (h_this_s, ia G 313 f_this_s)] [(0, .ref h_this), (1, .int p0)] := by
    intro hf
    unfold f_X9_convoys_b15 at hf
    refine hK1 _ _ _ _ (fun H locs ls h hl => ?_)
    refine lv_iload_n hx hb dX9_convoys_15 rfl (lv_at hl 1 rfl) ?_
    refine lv_if_lt (tgt := 25) hx hb dX9_convoys_16 rfl (fun c2 => ?_) (fun c2 => ?_)
    · replace hf := ifp c2 hf
      refine lv_iconst (v := (0 : Int32)) hx hb dX9_convoys_25 rfl ?_
      refine lv_istore_n (lv' := [(2, .int (0 : Int32)), (0, .ref h_this), (1, .int p0)]) hx hb dX9_convoys_26 rfl hl (by decide) rfl (fun ls hl => ?_)
      refine lv_iconst (v := (0 : Int32)) hx hb dX9_convoys_27 rfl ?_
      refine lv_istore_n (lv' := [(3, .int (0 : Int32)), (2, .int (0 : Int32)), (0, .ref h_this), (1, .int p0)]) hx hb dX9_convoys_28 rfl hl (by decide) rfl (fun ls hl => ?_)
      exact hK2 _ _ _ _ (L29 1000 (0 : Int32) (0 : Int32) hf) _ _ _ h (lv_sub hl [2, 1, 0] rfl)
    · replace hf := ifn c2 hf
      refine lv_aload_n hx hb dX9_convoys_19 rfl (lv_at hl 0 rfl) ?_
      refine lv_iload_n hx hb dX9_convoys_20 rfl (lv_at hl 1 rfl) ?_
      replace hf := bd1_inv hf
      obtain ⟨r15, hc16, hf⟩ := hf
      refine r_ciV0 C h (c_X9_convoyOf hc16) mv_X9_259 rfl 0 rfl [0, 1] rfl rfl hl.1 rfl (Nat.le_of_ble_eq_true rfl) (rok (by decide)) dX9_convoys_21 (fun H locs h => ?_)
      cases hf
      exact r_iret C h hr hlk rfl dX9_convoys_24
  refine lv_iload_n hx hb dX9_convoys_0 rfl (lv_at hl 1 rfl) ?_
  refine lv_iconst (v := (-1 : Int32)) hx hb dX9_convoys_1 rfl ?_
  refine lv_icmp_eq (tgt := 15) hx hb dX9_convoys_2 rfl (fun c1 => ?_) (fun c1 => ?_)
  · replace hf := ifp c1 hf
    exact hK2 _ _ _ _ (B15 hf) _ _ _ h (lv_sub hl [0, 1] rfl)
  · replace hf := ifn c1 hf
    refine lv_aload_n hx hb dX9_convoys_5 rfl (lv_at hl 0 rfl) ?_
    refine lv_iload_n hx hb dX9_convoys_6 rfl (lv_at hl 1 rfl) ?_
    replace hf := bd1_inv hf
    obtain ⟨r17, hc18, hf⟩ := hf
    refine r_ciV0 C h (c_X9_isShip hc18) mv_X9_226 rfl 0 rfl [0, 1] rfl rfl hl.1 rfl (Nat.le_of_ble_eq_true rfl) (rok (by decide)) dX9_convoys_7 (fun H locs h => ?_)
    refine lv_if_ne (tgt := 15) hx hb dX9_convoys_10 rfl (fun c19 => ?_) (fun c19 => ?_)
    · replace hf := ifn c19 hf
      exact hK2 _ _ _ _ (B15 hf) _ _ _ h (lv_sub hl [0, 1] rfl)
    · replace hf := ifp c19 hf
      refine lv_iconst (v := (-1 : Int32)) hx hb dX9_convoys_13 rfl ?_
      cases hf
      exact r_iret C h hr hlk rfl dX9_convoys_14
def f_X9_isPlan (p0 : Int32) : Option (Int32) := bd1 (f_X9_in1 p0 (0 : Int32) (4 : Int32)) (fun r1 => chkB r1 (some r1))
set_option maxRecDepth 100000 in
set_option maxHeartbeats 4000000 in
theorem c_X9_isPlan {l : Launch} {G : Gt} {p0 : Int32} {r : Int32} (hf : f_X9_isPlan p0 = some r) : mFi l G yX9_isPlan cX9_isPlan 1 .boolean 1 [.int p0] ([] : va_W) r ([] : va_W) := by
  refine mFi.of (by decide +kernel) (Nat.le_of_ble_eq_true rfl) ?_
  intro p e s m below meth c A C hr hlk h ls hl
  obtain ⟨hx, hb, hml, hown, hts⟩ := id C
  replace hl : lv_has ls 1 [(0, .int p0)] := hl
  unfold f_X9_isPlan at hf
  refine lv_iload_n hx hb dX9_isPlan_0 rfl (lv_at hl 0 rfl) ?_
  refine lv_iconst (v := (0 : Int32)) hx hb dX9_isPlan_1 rfl ?_
  refine lv_iconst (v := (4 : Int32)) hx hb dX9_isPlan_2 rfl ?_
  replace hf := bd1_inv hf
  obtain ⟨r1, hc2, hf⟩ := hf
  refine r_ciS0 C h (c_X9_in1 hc2) ms_X9_71 rfl [] rfl rfl hl.1 rfl (Nat.le_of_ble_eq_true rfl) (rok (by decide)) dX9_isPlan_3 (fun H locs h => ?_)
  replace hf := chkB_inv hf
  obtain ⟨hb3, hf⟩ := hf
  cases hf
  exact r_iret C h hr hlk hb3 dX9_isPlan_6
def f_X9_daysOf_b24 (p0 : Int32) (s0 : Int32) : Option (Int32) := (if s0 ≤ p0 then some s0 else some p0)
def f_X9_daysOf (p0 : Int32) (f_this_s : Nat → Int32) : Option (Int32) := bd1 (f_X9_isOver f_this_s) (fun r1 => (if r1 = 0 then f_X9_daysOf_b24 p0 ((f_this_s 1) - (f_this_s 0)) else f_X9_daysOf_b24 p0 (0 : Int32)))
set_option maxRecDepth 100000 in
set_option maxHeartbeats 4000000 in
theorem c_X9_daysOf {l : Launch} {G : Gt} {h_this h_this_s h_this_kept h_this_laid h_this_pile h_this_tape h_this_letters h_this_code0 h_this_read h_this_saved h_this_plan h_this_bestPlan h_this_offThen h_this_paidThen h_this_rows h_this_sorts h_this_sizes h_this_number h_this_holds h_this_heldOne h_this_trace : Nat} {p0 : Int32} {x_this_isKept : Int32} {x_this_taped : Int32} {x_this_at : Int32} {x_this_begun : Int32} {x_this_token : Int32} {x_this_value : Int32} {x_this_opened : Int32} {x_this_steps : Int32} {x_this_most : Int32} {x_this_many : Int32} {x_this_few : Int32} {x_this_everHome : Int32} {x_this_firstFit : Int32} {x_this_rowMany : Int32} {x_this_traced : Int32} {x_this_own : Int32} {x_this_isParted : Int32} {f_this_s : Nat → Int32} {r : Int32} (hf : f_X9_daysOf p0 f_this_s = some r) : mFi l G yX9_daysOf cX9_daysOf 3 .int 1 [.ref h_this, .int p0] [(h_this, ob 9 [.ref h_this_s, .ref h_this_kept, .ref h_this_laid, .int x_this_isKept, .ref h_this_pile, .ref h_this_tape, .int x_this_taped, .ref h_this_letters, .int x_this_at, .int x_this_begun, .int x_this_token, .int x_this_value, .int x_this_opened, .int x_this_steps, .ref h_this_code0, .ref h_this_read, .ref h_this_saved, .ref h_this_plan, .ref h_this_bestPlan, .int x_this_most, .int x_this_many, .int x_this_few, .int x_this_everHome, .ref h_this_offThen, .ref h_this_paidThen, .int x_this_firstFit, .ref h_this_rows, .int x_this_rowMany, .ref h_this_sorts, .ref h_this_sizes, .ref h_this_number, .ref h_this_holds, .ref h_this_heldOne, .ref h_this_trace, .int x_this_traced, .int x_this_own, .int x_this_isParted]), (h_this_s, ia G 313 f_this_s)] r [(h_this, ob 9 [.ref h_this_s, .ref h_this_kept, .ref h_this_laid, .int x_this_isKept, .ref h_this_pile, .ref h_this_tape, .int x_this_taped, .ref h_this_letters, .int x_this_at, .int x_this_begun, .int x_this_token, .int x_this_value, .int x_this_opened, .int x_this_steps, .ref h_this_code0, .ref h_this_read, .ref h_this_saved, .ref h_this_plan, .ref h_this_bestPlan, .int x_this_most, .int x_this_many, .int x_this_few, .int x_this_everHome, .ref h_this_offThen, .ref h_this_paidThen, .int x_this_firstFit, .ref h_this_rows, .int x_this_rowMany, .ref h_this_sorts, .ref h_this_sizes, .ref h_this_number, .ref h_this_holds, .ref h_this_heldOne, .ref h_this_trace, .int x_this_traced, .int x_this_own, .int x_this_isParted]), (h_this_s, ia G 313 f_this_s)] := by
  refine mFi.of (by decide +kernel) (Nat.le_of_ble_eq_true rfl) ?_
  intro p e s m below meth c A C hr hlk h ls hl
  obtain ⟨hx, hb, hml, hown, hts⟩ := id C
  replace hl : lv_has ls 3 [(0, .ref h_this), (1, .int p0)] := hl
  unfold f_X9_daysOf at hf
  refine with_K G A 3 (fun K hK1 hK2 => ?_)
  have B24 : ∀ (s0 : Int32), f_X9_daysOf_b24 p0 s0 = some r → K 24 [.int s0] [(h_this, ob 9 [.ref h_this_s, .ref h_this_kept, .ref h_this_laid, .int x_this_isKept, .ref h_this_pile, .ref h_this_tape, .int x_this_taped, .ref h_this_letters, .int x_this_at, .int x_this_begun, .int x_this_token, .int x_this_value, .int x_this_opened, .int x_this_steps, .ref h_this_code0, .ref h_this_read, .ref h_this_saved, .ref h_this_plan, .ref h_this_bestPlan, .int x_this_most, .int x_this_many, .int x_this_few, .int x_this_everHome, .ref h_this_offThen, .ref h_this_paidThen, .int x_this_firstFit, .ref h_this_rows, .int x_this_rowMany, .ref h_this_sorts, .ref h_this_sizes, .ref h_this_number, .ref h_this_holds, .ref h_this_heldOne, .ref h_this_trace, .int x_this_traced, .int x_this_own, .int x_this_isParted]), (h_this_s, ia G 313 f_this_s)] [(1, .int p0)] := by
    intro s0 hf
    unfold f_X9_daysOf_b24 at hf
    refine hK1 _ _ _ _ (fun H locs ls h hl => ?_)
    refine lv_istore_n (lv' := [(2, .int s0), (1, .int p0)]) hx hb dX9_daysOf_24 rfl hl (by decide) rfl (fun ls hl => ?_)
    refine lv_iload_n hx hb dX9_daysOf_25 rfl (lv_at hl 1 rfl) ?_
    refine lv_iload_n hx hb dX9_daysOf_26 rfl (lv_at hl 0 rfl) ?_
    refine lv_icmp_ge (tgt := 34) hx hb dX9_daysOf_27 rfl (fun c4 => ?_) (fun c4 => ?_)
    · replace hf := ifp c4 hf
      refine lv_iload_n hx hb dX9_daysOf_34 rfl (lv_at hl 0 rfl) ?_
      cases hf
      exact r_iret C h hr hlk rfl dX9_daysOf_35
    · replace hf := ifn c4 hf
      refine lv_iload_n hx hb dX9_daysOf_30 rfl (lv_at hl 1 rfl) ?_
      refine lv_goto (tgt := 35) hx hb dX9_daysOf_31 rfl ?_
      cases hf
      exact r_iret C h hr hlk rfl dX9_daysOf_35
  refine lv_aload_n hx hb dX9_daysOf_0 rfl (lv_at hl 0 rfl) ?_
  replace hf := bd1_inv hf
  obtain ⟨r1, hc2, hf⟩ := hf
  refine r_ciV0 C h (c_X9_isOver hc2) mv_X9_232 rfl 0 rfl [0, 1] rfl rfl hl.1 rfl (Nat.le_of_ble_eq_true rfl) (rok (by decide)) dX9_daysOf_1 (fun H locs h => ?_)
  refine lv_if_eq (tgt := 11) hx hb dX9_daysOf_4 rfl (fun c3 => ?_) (fun c3 => ?_)
  · replace hf := ifp c3 hf
    refine lv_aload_n hx hb dX9_daysOf_11 rfl (lv_at hl 0 rfl) ?_
    refine r_get C h fk_X9_9 0 rfl rfl dX9_daysOf_12 ?_
    refine lv_iconst (v := (1 : Int32)) hx hb dX9_daysOf_15 rfl ?_
    refine r_ialdL C h 1 rfl (vlit rfl) 1 rfl dX9_daysOf_16 ?_
    refine lv_aload_n hx hb dX9_daysOf_17 rfl (lv_at hl 0 rfl) ?_
    refine r_get C h fk_X9_9 0 rfl rfl dX9_daysOf_18 ?_
    refine lv_iconst (v := (0 : Int32)) hx hb dX9_daysOf_21 rfl ?_
    refine r_ialdL C h 1 rfl (vlit rfl) 0 rfl dX9_daysOf_22 ?_
    refine lv_isub hx hb dX9_daysOf_23 ?_
    exact hK2 _ _ _ _ (B24 ((f_this_s 1) - (f_this_s 0)) hf) _ _ _ h (lv_sub hl [1] rfl)
  · replace hf := ifn c3 hf
    refine lv_iconst (v := (0 : Int32)) hx hb dX9_daysOf_7 rfl ?_
    refine lv_goto (tgt := 24) hx hb dX9_daysOf_8 rfl ?_
    exact hK2 _ _ _ _ (B24 (0 : Int32) hf) _ _ _ h (lv_sub hl [1] rfl)
def f_X9_endsPlan_b99 (x_this_few : Int32) (x_this_everHome : Int32) (v5 : Int32) (y_this_most : Int32) (y_this_many : Int32) (g_this_bestPlan : Nat → Int32) : Option (Int32 × Int32 × Int32 × Int32 × (Nat → Int32)) := lt1 (x_this_everHome ||| v5) (fun (t7 : Int32) => some (y_this_most, y_this_many, x_this_few, t7, g_this_bestPlan))
def f_X9_endsPlan_b65 (p2 : Int32) (p3 : Int32) (x_this_few : Int32) (x_this_everHome : Int32) (f_this_s : Nat → Int32) (s1 : Int32) (s2 : Int32) (y_this_most : Int32) (y_this_many : Int32) (g_this_bestPlan : Nat → Int32) : Option (Int32 × Int32 × Int32 × Int32 × (Nat → Int32)) := lt1 (s1 + s2) (fun (t3 : Int32) => bd1 (f_X9_those (4 : Int32) f_this_s) (fun r4 => (if (p3 &&& (r4 ^^^ (-1 : Int32))) = 0 then (if x_this_few ≤ p2 then f_X9_endsPlan_b99 x_this_few x_this_everHome r4 y_this_most t3 g_this_bestPlan else lt1 (x_this_everHome ||| r4) (fun (t9 : Int32) => some (y_this_most, t3, p2, t9, g_this_bestPlan))) else f_X9_endsPlan_b99 x_this_few x_this_everHome r4 y_this_most t3 g_this_bestPlan)))
def f_X9_endsPlan_b47 (p1 : Int32) (p2 : Int32) (p3 : Int32) (x_this_few : Int32) (x_this_everHome : Int32) (f_this_s : Nat → Int32) (y_this_most : Int32) (y_this_many : Int32) (g_this_bestPlan : Nat → Int32) : Option (Int32 × Int32 × Int32 × Int32 × (Nat → Int32)) := (if p1 = y_this_most then f_X9_endsPlan_b65 p2 p3 x_this_few x_this_everHome f_this_s y_this_many (1 : Int32) y_this_most y_this_many g_this_bestPlan else f_X9_endsPlan_b65 p2 p3 x_this_few x_this_everHome f_this_s y_this_many (0 : Int32) y_this_most y_this_many g_this_bestPlan)
def f_X9_endsPlan_L21 (p0 : Int32) (p1 : Int32) (p2 : Int32) (p3 : Int32) (x_this_few : Int32) (x_this_everHome : Int32) (f_this_plan : Nat → Int32) (f_this_s : Nat → Int32) : Nat → Int32 → Int32 → Int32 → (Nat → Int32) → Option (Int32 × Int32 × Int32 × Int32 × (Nat → Int32))
  | 0, _, _, _, _ => none
  | n + 1, v5, y_this_most, y_this_many, g_this_bestPlan => (if p0 ≤ v5 then f_X9_endsPlan_b47 p1 p2 p3 x_this_few x_this_everHome f_this_s y_this_most y_this_many g_this_bestPlan else chkI v5 4 (lt1 (f_this_plan v5.toNatClampNeg) (fun (t12 : Int32) => chkI v5 4 (lt1 (v5 + (1 : Int32)) (fun (t14 : Int32) => (f_X9_endsPlan_L21 p0 p1 p2 p3 x_this_few x_this_everHome f_this_plan f_this_s n) t14 y_this_most y_this_many (upd g_this_bestPlan v5.toNatClampNeg t12))))))
def f_X9_endsPlan (p0 : Int32) (p1 : Int32) (p2 : Int32) (p3 : Int32) (x_this_most : Int32) (x_this_many : Int32) (x_this_few : Int32) (x_this_everHome : Int32) (f_this_bestPlan : Nat → Int32) (f_this_plan : Nat → Int32) (f_this_s : Nat → Int32) : Option (Int32 × Int32 × Int32 × Int32 × (Nat → Int32)) := (if p1 ≤ x_this_most then f_X9_endsPlan_b47 p1 p2 p3 x_this_few x_this_everHome f_this_s x_this_most x_this_many f_this_bestPlan else f_X9_endsPlan_L21 p0 p1 p2 p3 x_this_few x_this_everHome f_this_plan f_this_s 1000 (0 : Int32) p1 (0 : Int32) f_this_bestPlan)
set_option maxRecDepth 100000 in
set_option maxHeartbeats 4000000 in
theorem c_X9_endsPlan {l : Launch} {G : Gt} {h_this h_this_s h_this_kept h_this_laid h_this_pile h_this_tape h_this_letters h_this_code0 h_this_read h_this_saved h_this_plan h_this_bestPlan h_this_offThen h_this_paidThen h_this_rows h_this_sorts h_this_sizes h_this_number h_this_holds h_this_heldOne h_this_trace : Nat} {p0 : Int32} {p1 : Int32} {p2 : Int32} {p3 : Int32} {x_this_isKept : Int32} {x_this_taped : Int32} {x_this_at : Int32} {x_this_begun : Int32} {x_this_token : Int32} {x_this_value : Int32} {x_this_opened : Int32} {x_this_steps : Int32} {x_this_most : Int32} {x_this_many : Int32} {x_this_few : Int32} {x_this_everHome : Int32} {x_this_firstFit : Int32} {x_this_rowMany : Int32} {x_this_traced : Int32} {x_this_own : Int32} {x_this_isParted : Int32} {f_this_bestPlan : Nat → Int32} {f_this_plan : Nat → Int32} {f_this_s : Nat → Int32} {m_this_most : Int32} {m_this_many : Int32} {m_this_few : Int32} {m_this_everHome : Int32} {m_this_bestPlan : Nat → Int32} (hf : f_X9_endsPlan p0 p1 p2 p3 x_this_most x_this_many x_this_few x_this_everHome f_this_bestPlan f_this_plan f_this_s = some (m_this_most, m_this_many, m_this_few, m_this_everHome, m_this_bestPlan)) : mFv l G yX9_endsPlan cX9_endsPlan 6 2 [.ref h_this, .int p0, .int p1, .int p2, .int p3] [(h_this, ob 9 [.ref h_this_s, .ref h_this_kept, .ref h_this_laid, .int x_this_isKept, .ref h_this_pile, .ref h_this_tape, .int x_this_taped, .ref h_this_letters, .int x_this_at, .int x_this_begun, .int x_this_token, .int x_this_value, .int x_this_opened, .int x_this_steps, .ref h_this_code0, .ref h_this_read, .ref h_this_saved, .ref h_this_plan, .ref h_this_bestPlan, .int x_this_most, .int x_this_many, .int x_this_few, .int x_this_everHome, .ref h_this_offThen, .ref h_this_paidThen, .int x_this_firstFit, .ref h_this_rows, .int x_this_rowMany, .ref h_this_sorts, .ref h_this_sizes, .ref h_this_number, .ref h_this_holds, .ref h_this_heldOne, .ref h_this_trace, .int x_this_traced, .int x_this_own, .int x_this_isParted]), (h_this_bestPlan, ia G 4 f_this_bestPlan), (h_this_plan, ia G 4 f_this_plan), (h_this_s, ia G 313 f_this_s)] [(h_this, ob 9 [.ref h_this_s, .ref h_this_kept, .ref h_this_laid, .int x_this_isKept, .ref h_this_pile, .ref h_this_tape, .int x_this_taped, .ref h_this_letters, .int x_this_at, .int x_this_begun, .int x_this_token, .int x_this_value, .int x_this_opened, .int x_this_steps, .ref h_this_code0, .ref h_this_read, .ref h_this_saved, .ref h_this_plan, .ref h_this_bestPlan, .int m_this_most, .int m_this_many, .int m_this_few, .int m_this_everHome, .ref h_this_offThen, .ref h_this_paidThen, .int x_this_firstFit, .ref h_this_rows, .int x_this_rowMany, .ref h_this_sorts, .ref h_this_sizes, .ref h_this_number, .ref h_this_holds, .ref h_this_heldOne, .ref h_this_trace, .int x_this_traced, .int x_this_own, .int x_this_isParted]), (h_this_bestPlan, ia G 4 m_this_bestPlan), (h_this_plan, ia G 4 f_this_plan), (h_this_s, ia G 313 f_this_s)] := by
  refine mFv.of (by decide +kernel) (Nat.le_of_ble_eq_true rfl) ?_
  intro p e s m below meth c A C hr hlk h ls hl
  obtain ⟨hx, hb, hml, hown, hts⟩ := id C
  replace hl : lv_has ls 6 [(0, .ref h_this), (1, .int p0), (2, .int p1), (3, .int p2), (4, .int p3)] := hl
  unfold f_X9_endsPlan at hf
  refine with_K G A 6 (fun K hK1 hK2 => ?_)
  have B99 : ∀ (v5 : Int32) (y_this_most : Int32) (y_this_many : Int32) (g_this_bestPlan : Nat → Int32), f_X9_endsPlan_b99 x_this_few x_this_everHome v5 y_this_most y_this_many g_this_bestPlan = some (m_this_most, m_this_many, m_this_few, m_this_everHome, m_this_bestPlan) → K 99 [.ref h_this] [(h_this, ob 9 [.ref h_this_s, .ref h_this_kept, .ref h_this_laid, .int x_this_isKept, .ref h_this_pile, .ref h_this_tape, .int x_this_taped, .ref h_this_letters, .int x_this_at, .int x_this_begun, .int x_this_token, .int x_this_value, .int x_this_opened, .int x_this_steps, .ref h_this_code0, .ref h_this_read, .ref h_this_saved, .ref h_this_plan, .ref h_this_bestPlan, .int y_this_most, .int y_this_many, .int x_this_few, .int x_this_everHome, .ref h_this_offThen, .ref h_this_paidThen, .int x_this_firstFit, .ref h_this_rows, .int x_this_rowMany, .ref h_this_sorts, .ref h_this_sizes, .ref h_this_number, .ref h_this_holds, .ref h_this_heldOne, .ref h_this_trace, .int x_this_traced, .int x_this_own, .int x_this_isParted]), (h_this_bestPlan, ia G 4 g_this_bestPlan), (h_this_plan, ia G 4 f_this_plan), (h_this_s, ia G 313 f_this_s)] [(0, .ref h_this), (5, .int v5)] := by
    intro v5 y_this_most y_this_many g_this_bestPlan hf
    unfold f_X9_endsPlan_b99 at hf
    refine hK1 _ _ _ _ (fun H locs ls h hl => ?_)
    refine lv_aload_n hx hb dX9_endsPlan_99 rfl (lv_at hl 0 rfl) ?_
    refine r_get C h fk_X9_268 0 rfl rfl dX9_endsPlan_100 ?_
    refine r_put (ws' := [(h_this, ob 9 [.ref h_this_s, .ref h_this_kept, .ref h_this_laid, .int x_this_isKept, .ref h_this_pile, .ref h_this_tape, .int x_this_taped, .ref h_this_letters, .int x_this_at, .int x_this_begun, .int x_this_token, .int x_this_value, .int x_this_opened, .int x_this_steps, .ref h_this_code0, .ref h_this_read, .ref h_this_saved, .ref h_this_plan, .ref h_this_bestPlan, .int y_this_most, .int y_this_many, .int x_this_few, .int x_this_everHome, .ref h_this_offThen, .ref h_this_paidThen, .int x_this_firstFit, .ref h_this_rows, .int x_this_rowMany, .ref h_this_sorts, .ref h_this_sizes, .ref h_this_number, .ref h_this_holds, .ref h_this_heldOne, .ref h_this_trace, .int x_this_traced, .int x_this_own, .int x_this_isParted]), (h_this_bestPlan, ia G 4 g_this_bestPlan), (h_this_plan, ia G 4 f_this_plan), (h_this_s, ia G 313 f_this_s)]) C h fw_X9_268 0 rfl rfl rfl (Nat.le_of_ble_eq_true rfl) dX9_endsPlan_103 rfl (fun H locs h => ?_)
    refine lv_aload_n hx hb dX9_endsPlan_106 rfl (lv_at hl 0 rfl) ?_
    refine lv_dup hx hb dX9_endsPlan_107 rfl ?_
    refine r_get C h fk_X9_271 0 rfl rfl dX9_endsPlan_108 ?_
    refine lv_iload hx hb dX9_endsPlan_111 (lv_at hl 1 rfl) ?_
    refine lv_ior hx hb dX9_endsPlan_113 ?_
    refine lv_topi (fun t7 et7 => ?_)
    replace hf := lt1_inv et7 hf
    refine r_put (ws' := [(h_this, ob 9 [.ref h_this_s, .ref h_this_kept, .ref h_this_laid, .int x_this_isKept, .ref h_this_pile, .ref h_this_tape, .int x_this_taped, .ref h_this_letters, .int x_this_at, .int x_this_begun, .int x_this_token, .int x_this_value, .int x_this_opened, .int x_this_steps, .ref h_this_code0, .ref h_this_read, .ref h_this_saved, .ref h_this_plan, .ref h_this_bestPlan, .int y_this_most, .int y_this_many, .int x_this_few, .int t7, .ref h_this_offThen, .ref h_this_paidThen, .int x_this_firstFit, .ref h_this_rows, .int x_this_rowMany, .ref h_this_sorts, .ref h_this_sizes, .ref h_this_number, .ref h_this_holds, .ref h_this_heldOne, .ref h_this_trace, .int x_this_traced, .int x_this_own, .int x_this_isParted]), (h_this_bestPlan, ia G 4 g_this_bestPlan), (h_this_plan, ia G 4 f_this_plan), (h_this_s, ia G 313 f_this_s)]) C h fw_X9_271 0 rfl rfl rfl (Nat.le_of_ble_eq_true rfl) dX9_endsPlan_114 rfl (fun H locs h => ?_)
    cases hf
    exact r_vret C h hr hlk dX9_endsPlan_117
  have B65 : ∀ (s1 : Int32) (s2 : Int32) (y_this_most : Int32) (y_this_many : Int32) (g_this_bestPlan : Nat → Int32), f_X9_endsPlan_b65 p2 p3 x_this_few x_this_everHome f_this_s s1 s2 y_this_most y_this_many g_this_bestPlan = some (m_this_most, m_this_many, m_this_few, m_this_everHome, m_this_bestPlan) → K 65 [.int s2, .int s1, .ref h_this] [(h_this, ob 9 [.ref h_this_s, .ref h_this_kept, .ref h_this_laid, .int x_this_isKept, .ref h_this_pile, .ref h_this_tape, .int x_this_taped, .ref h_this_letters, .int x_this_at, .int x_this_begun, .int x_this_token, .int x_this_value, .int x_this_opened, .int x_this_steps, .ref h_this_code0, .ref h_this_read, .ref h_this_saved, .ref h_this_plan, .ref h_this_bestPlan, .int y_this_most, .int y_this_many, .int x_this_few, .int x_this_everHome, .ref h_this_offThen, .ref h_this_paidThen, .int x_this_firstFit, .ref h_this_rows, .int x_this_rowMany, .ref h_this_sorts, .ref h_this_sizes, .ref h_this_number, .ref h_this_holds, .ref h_this_heldOne, .ref h_this_trace, .int x_this_traced, .int x_this_own, .int x_this_isParted]), (h_this_bestPlan, ia G 4 g_this_bestPlan), (h_this_plan, ia G 4 f_this_plan), (h_this_s, ia G 313 f_this_s)] [(0, .ref h_this), (3, .int p2), (4, .int p3)] := by
    intro s1 s2 y_this_most y_this_many g_this_bestPlan hf
    unfold f_X9_endsPlan_b65 at hf
    refine hK1 _ _ _ _ (fun H locs ls h hl => ?_)
    refine lv_iadd hx hb dX9_endsPlan_65 ?_
    refine lv_topi (fun t3 et3 => ?_)
    replace hf := lt1_inv et3 hf
    refine r_put (ws' := [(h_this, ob 9 [.ref h_this_s, .ref h_this_kept, .ref h_this_laid, .int x_this_isKept, .ref h_this_pile, .ref h_this_tape, .int x_this_taped, .ref h_this_letters, .int x_this_at, .int x_this_begun, .int x_this_token, .int x_this_value, .int x_this_opened, .int x_this_steps, .ref h_this_code0, .ref h_this_read, .ref h_this_saved, .ref h_this_plan, .ref h_this_bestPlan, .int y_this_most, .int t3, .int x_this_few, .int x_this_everHome, .ref h_this_offThen, .ref h_this_paidThen, .int x_this_firstFit, .ref h_this_rows, .int x_this_rowMany, .ref h_this_sorts, .ref h_this_sizes, .ref h_this_number, .ref h_this_holds, .ref h_this_heldOne, .ref h_this_trace, .int x_this_traced, .int x_this_own, .int x_this_isParted]), (h_this_bestPlan, ia G 4 g_this_bestPlan), (h_this_plan, ia G 4 f_this_plan), (h_this_s, ia G 313 f_this_s)]) C h fw_X9_265 0 rfl rfl rfl (Nat.le_of_ble_eq_true rfl) dX9_endsPlan_66 rfl (fun H locs h => ?_)
    refine lv_aload_n hx hb dX9_endsPlan_69 rfl (lv_at hl 0 rfl) ?_
    refine lv_iconst (v := (4 : Int32)) hx hb dX9_endsPlan_70 rfl ?_
    replace hf := bd1_inv hf
    obtain ⟨r4, hc5, hf⟩ := hf
    refine r_ciV0 C h (c_X9_those hc5) mv_X9_235 rfl 0 rfl [0, 3] rfl rfl hl.1 rfl (Nat.le_of_ble_eq_true rfl) (rok (by decide)) dX9_endsPlan_71 (fun H locs h => ?_)
    refine lv_istore (lv' := [(5, .int r4), (0, .ref h_this), (3, .int p2), (4, .int p3)]) hx hb dX9_endsPlan_74 hl (by decide) rfl (fun ls hl => ?_)
    refine lv_aload_n hx hb dX9_endsPlan_76 rfl (lv_at hl 1 rfl) ?_
    refine lv_iload hx hb dX9_endsPlan_77 (lv_at hl 3 rfl) ?_
    refine lv_iload hx hb dX9_endsPlan_79 (lv_at hl 0 rfl) ?_
    refine lv_iconst (v := (-1 : Int32)) hx hb dX9_endsPlan_81 rfl ?_
    refine lv_ixor hx hb dX9_endsPlan_82 ?_
    refine lv_iand hx hb dX9_endsPlan_83 ?_
    refine lv_if_ne (tgt := 99) hx hb dX9_endsPlan_84 rfl (fun c6 => ?_) (fun c6 => ?_)
    · replace hf := ifn c6 hf
      exact hK2 _ _ _ _ (B99 r4 y_this_most t3 g_this_bestPlan hf) _ _ _ h (lv_sub hl [1, 0] rfl)
    · replace hf := ifp c6 hf
      refine lv_iload_n hx hb dX9_endsPlan_87 rfl (lv_at hl 2 rfl) ?_
      refine lv_aload_n hx hb dX9_endsPlan_88 rfl (lv_at hl 1 rfl) ?_
      refine r_get C h fk_X9_268 0 rfl rfl dX9_endsPlan_89 ?_
      refine lv_icmp_ge (tgt := 99) hx hb dX9_endsPlan_92 rfl (fun c8 => ?_) (fun c8 => ?_)
      · replace hf := ifp c8 hf
        exact hK2 _ _ _ _ (B99 r4 y_this_most t3 g_this_bestPlan hf) _ _ _ h (lv_sub hl [1, 0] rfl)
      · replace hf := ifn c8 hf
        refine lv_iload_n hx hb dX9_endsPlan_95 rfl (lv_at hl 2 rfl) ?_
        refine lv_goto (tgt := 103) hx hb dX9_endsPlan_96 rfl ?_
        refine r_put (ws' := [(h_this, ob 9 [.ref h_this_s, .ref h_this_kept, .ref h_this_laid, .int x_this_isKept, .ref h_this_pile, .ref h_this_tape, .int x_this_taped, .ref h_this_letters, .int x_this_at, .int x_this_begun, .int x_this_token, .int x_this_value, .int x_this_opened, .int x_this_steps, .ref h_this_code0, .ref h_this_read, .ref h_this_saved, .ref h_this_plan, .ref h_this_bestPlan, .int y_this_most, .int t3, .int p2, .int x_this_everHome, .ref h_this_offThen, .ref h_this_paidThen, .int x_this_firstFit, .ref h_this_rows, .int x_this_rowMany, .ref h_this_sorts, .ref h_this_sizes, .ref h_this_number, .ref h_this_holds, .ref h_this_heldOne, .ref h_this_trace, .int x_this_traced, .int x_this_own, .int x_this_isParted]), (h_this_bestPlan, ia G 4 g_this_bestPlan), (h_this_plan, ia G 4 f_this_plan), (h_this_s, ia G 313 f_this_s)]) C h fw_X9_268 0 rfl rfl rfl (Nat.le_of_ble_eq_true rfl) dX9_endsPlan_103 rfl (fun H locs h => ?_)
        refine lv_aload_n hx hb dX9_endsPlan_106 rfl (lv_at hl 1 rfl) ?_
        refine lv_dup hx hb dX9_endsPlan_107 rfl ?_
        refine r_get C h fk_X9_271 0 rfl rfl dX9_endsPlan_108 ?_
        refine lv_iload hx hb dX9_endsPlan_111 (lv_at hl 0 rfl) ?_
        refine lv_ior hx hb dX9_endsPlan_113 ?_
        refine lv_topi (fun t9 et9 => ?_)
        replace hf := lt1_inv et9 hf
        refine r_put (ws' := [(h_this, ob 9 [.ref h_this_s, .ref h_this_kept, .ref h_this_laid, .int x_this_isKept, .ref h_this_pile, .ref h_this_tape, .int x_this_taped, .ref h_this_letters, .int x_this_at, .int x_this_begun, .int x_this_token, .int x_this_value, .int x_this_opened, .int x_this_steps, .ref h_this_code0, .ref h_this_read, .ref h_this_saved, .ref h_this_plan, .ref h_this_bestPlan, .int y_this_most, .int t3, .int p2, .int t9, .ref h_this_offThen, .ref h_this_paidThen, .int x_this_firstFit, .ref h_this_rows, .int x_this_rowMany, .ref h_this_sorts, .ref h_this_sizes, .ref h_this_number, .ref h_this_holds, .ref h_this_heldOne, .ref h_this_trace, .int x_this_traced, .int x_this_own, .int x_this_isParted]), (h_this_bestPlan, ia G 4 g_this_bestPlan), (h_this_plan, ia G 4 f_this_plan), (h_this_s, ia G 313 f_this_s)]) C h fw_X9_271 0 rfl rfl rfl (Nat.le_of_ble_eq_true rfl) dX9_endsPlan_114 rfl (fun H locs h => ?_)
        cases hf
        exact r_vret C h hr hlk dX9_endsPlan_117
  have B47 : ∀ (y_this_most : Int32) (y_this_many : Int32) (g_this_bestPlan : Nat → Int32), f_X9_endsPlan_b47 p1 p2 p3 x_this_few x_this_everHome f_this_s y_this_most y_this_many g_this_bestPlan = some (m_this_most, m_this_many, m_this_few, m_this_everHome, m_this_bestPlan) → K 47 ([] : List Value) [(h_this, ob 9 [.ref h_this_s, .ref h_this_kept, .ref h_this_laid, .int x_this_isKept, .ref h_this_pile, .ref h_this_tape, .int x_this_taped, .ref h_this_letters, .int x_this_at, .int x_this_begun, .int x_this_token, .int x_this_value, .int x_this_opened, .int x_this_steps, .ref h_this_code0, .ref h_this_read, .ref h_this_saved, .ref h_this_plan, .ref h_this_bestPlan, .int y_this_most, .int y_this_many, .int x_this_few, .int x_this_everHome, .ref h_this_offThen, .ref h_this_paidThen, .int x_this_firstFit, .ref h_this_rows, .int x_this_rowMany, .ref h_this_sorts, .ref h_this_sizes, .ref h_this_number, .ref h_this_holds, .ref h_this_heldOne, .ref h_this_trace, .int x_this_traced, .int x_this_own, .int x_this_isParted]), (h_this_bestPlan, ia G 4 g_this_bestPlan), (h_this_plan, ia G 4 f_this_plan), (h_this_s, ia G 313 f_this_s)] [(0, .ref h_this), (2, .int p1), (3, .int p2), (4, .int p3)] := by
    intro y_this_most y_this_many g_this_bestPlan hf
    unfold f_X9_endsPlan_b47 at hf
    refine hK1 _ _ _ _ (fun H locs ls h hl => ?_)
    refine lv_aload_n hx hb dX9_endsPlan_47 rfl (lv_at hl 0 rfl) ?_
    refine lv_dup hx hb dX9_endsPlan_48 rfl ?_
    refine r_get C h fk_X9_265 0 rfl rfl dX9_endsPlan_49 ?_
    refine lv_iload_n hx hb dX9_endsPlan_52 rfl (lv_at hl 1 rfl) ?_
    refine lv_aload_n hx hb dX9_endsPlan_53 rfl (lv_at hl 0 rfl) ?_
    refine r_get C h fk_X9_262 0 rfl rfl dX9_endsPlan_54 ?_
    refine lv_icmp_ne (tgt := 64) hx hb dX9_endsPlan_57 rfl (fun c2 => ?_) (fun c2 => ?_)
    · replace hf := ifn c2 hf
      refine lv_iconst (v := (0 : Int32)) hx hb dX9_endsPlan_64 rfl ?_
      exact hK2 _ _ _ _ (B65 y_this_many (0 : Int32) y_this_most y_this_many g_this_bestPlan hf) _ _ _ h (lv_sub hl [0, 2, 3] rfl)
    · replace hf := ifp c2 hf
      refine lv_iconst (v := (1 : Int32)) hx hb dX9_endsPlan_60 rfl ?_
      refine lv_goto (tgt := 65) hx hb dX9_endsPlan_61 rfl ?_
      exact hK2 _ _ _ _ (B65 y_this_many (1 : Int32) y_this_most y_this_many g_this_bestPlan hf) _ _ _ h (lv_sub hl [0, 2, 3] rfl)
  have L21 : ∀ (n : Nat) (v5 : Int32) (y_this_most : Int32) (y_this_many : Int32) (g_this_bestPlan : Nat → Int32), f_X9_endsPlan_L21 p0 p1 p2 p3 x_this_few x_this_everHome f_this_plan f_this_s n v5 y_this_most y_this_many g_this_bestPlan = some (m_this_most, m_this_many, m_this_few, m_this_everHome, m_this_bestPlan) → K 21 ([] : List Value) [(h_this, ob 9 [.ref h_this_s, .ref h_this_kept, .ref h_this_laid, .int x_this_isKept, .ref h_this_pile, .ref h_this_tape, .int x_this_taped, .ref h_this_letters, .int x_this_at, .int x_this_begun, .int x_this_token, .int x_this_value, .int x_this_opened, .int x_this_steps, .ref h_this_code0, .ref h_this_read, .ref h_this_saved, .ref h_this_plan, .ref h_this_bestPlan, .int y_this_most, .int y_this_many, .int x_this_few, .int x_this_everHome, .ref h_this_offThen, .ref h_this_paidThen, .int x_this_firstFit, .ref h_this_rows, .int x_this_rowMany, .ref h_this_sorts, .ref h_this_sizes, .ref h_this_number, .ref h_this_holds, .ref h_this_heldOne, .ref h_this_trace, .int x_this_traced, .int x_this_own, .int x_this_isParted]), (h_this_bestPlan, ia G 4 g_this_bestPlan), (h_this_plan, ia G 4 f_this_plan), (h_this_s, ia G 313 f_this_s)] [(0, .ref h_this), (1, .int p0), (2, .int p1), (3, .int p2), (4, .int p3), (5, .int v5)] := by
    intro n
    induction n with
    | zero =>
      intro v5 y_this_most y_this_many g_this_bestPlan hf
      replace hf : (none : Option _) = some _ := hf
      cases hf
    | succ n ih =>
      intro v5 y_this_most y_this_many g_this_bestPlan hf
      rw [f_X9_endsPlan_L21] at hf
      refine hK1 _ _ _ _ (fun H locs ls h hl => ?_)
      refine lv_iload hx hb dX9_endsPlan_21 (lv_at hl 5 rfl) ?_
      refine lv_iload_n hx hb dX9_endsPlan_23 rfl (lv_at hl 1 rfl) ?_
      refine lv_icmp_ge (tgt := 47) hx hb dX9_endsPlan_24 rfl (fun c10 => ?_) (fun c10 => ?_)
      · replace hf := ifp c10 hf
        exact hK2 _ _ _ _ (B47 y_this_most y_this_many g_this_bestPlan hf) _ _ _ h (lv_sub hl [0, 2, 3, 4] rfl)
      · replace hf := ifn c10 hf
        refine lv_aload_n hx hb dX9_endsPlan_27 rfl (lv_at hl 0 rfl) ?_
        refine r_get C h fk_X9_41 0 rfl rfl dX9_endsPlan_28 ?_
        refine lv_iload hx hb dX9_endsPlan_31 (lv_at hl 5 rfl) ?_
        refine lv_aload_n hx hb dX9_endsPlan_33 rfl (lv_at hl 0 rfl) ?_
        refine r_get C h fk_X9_38 0 rfl rfl dX9_endsPlan_34 ?_
        refine lv_iload hx hb dX9_endsPlan_37 (lv_at hl 5 rfl) ?_
        replace hf := chkI_inv hf
        obtain ⟨hi11, hf⟩ := hf
        refine r_iald C h 2 rfl hi11 dX9_endsPlan_39 ?_
        refine lv_topi (fun t12 et12 => ?_)
        replace hf := lt1_inv et12 hf
        replace hf := chkI_inv hf
        obtain ⟨hi13, hf⟩ := hf
        refine r_iast (ws' := [(h_this, ob 9 [.ref h_this_s, .ref h_this_kept, .ref h_this_laid, .int x_this_isKept, .ref h_this_pile, .ref h_this_tape, .int x_this_taped, .ref h_this_letters, .int x_this_at, .int x_this_begun, .int x_this_token, .int x_this_value, .int x_this_opened, .int x_this_steps, .ref h_this_code0, .ref h_this_read, .ref h_this_saved, .ref h_this_plan, .ref h_this_bestPlan, .int y_this_most, .int y_this_many, .int x_this_few, .int x_this_everHome, .ref h_this_offThen, .ref h_this_paidThen, .int x_this_firstFit, .ref h_this_rows, .int x_this_rowMany, .ref h_this_sorts, .ref h_this_sizes, .ref h_this_number, .ref h_this_holds, .ref h_this_heldOne, .ref h_this_trace, .int x_this_traced, .int x_this_own, .int x_this_isParted]), (h_this_bestPlan, ia G 4 (upd g_this_bestPlan v5.toNatClampNeg t12)), (h_this_plan, ia G 4 f_this_plan), (h_this_s, ia G 313 f_this_s)]) C h 1 rfl hi13 dX9_endsPlan_40 rfl (fun H locs h => ?_)
        obtain ⟨t14, et14⟩ : ∃ y : Int32, y = v5 + (1 : Int32) := ⟨_, rfl⟩
        replace hf := lt1_inv et14 hf
        refine lv_iinc (v := t14) (lv' := [(5, .int t14), (0, .ref h_this), (1, .int p0), (2, .int p1), (3, .int p2), (4, .int p3)]) hx hb dX9_endsPlan_41 hl (k := 5) rfl (by rw [et14]; rfl) (by decide) rfl (fun ls hl => ?_)
        refine lv_goto (tgt := 21) hx hb dX9_endsPlan_44 rfl ?_
        exact hK2 _ _ _ _ (ih t14 y_this_most y_this_many (upd g_this_bestPlan v5.toNatClampNeg t12) hf) _ _ _ h (lv_sub hl [1, 2, 3, 4, 5, 0] rfl)
  refine lv_iload_n hx hb dX9_endsPlan_0 rfl (lv_at hl 2 rfl) ?_
  refine lv_aload_n hx hb dX9_endsPlan_1 rfl (lv_at hl 0 rfl) ?_
  refine r_get C h fk_X9_262 0 rfl rfl dX9_endsPlan_2 ?_
  refine lv_icmp_le (tgt := 47) hx hb dX9_endsPlan_5 rfl (fun c1 => ?_) (fun c1 => ?_)
  · replace hf := ifp c1 hf
    exact hK2 _ _ _ _ (B47 x_this_most x_this_many f_this_bestPlan hf) _ _ _ h (lv_sub hl [0, 2, 3, 4] rfl)
  · replace hf := ifn c1 hf
    refine lv_aload_n hx hb dX9_endsPlan_8 rfl (lv_at hl 0 rfl) ?_
    refine lv_iconst (v := (0 : Int32)) hx hb dX9_endsPlan_9 rfl ?_
    refine r_put (ws' := [(h_this, ob 9 [.ref h_this_s, .ref h_this_kept, .ref h_this_laid, .int x_this_isKept, .ref h_this_pile, .ref h_this_tape, .int x_this_taped, .ref h_this_letters, .int x_this_at, .int x_this_begun, .int x_this_token, .int x_this_value, .int x_this_opened, .int x_this_steps, .ref h_this_code0, .ref h_this_read, .ref h_this_saved, .ref h_this_plan, .ref h_this_bestPlan, .int x_this_most, .int (0 : Int32), .int x_this_few, .int x_this_everHome, .ref h_this_offThen, .ref h_this_paidThen, .int x_this_firstFit, .ref h_this_rows, .int x_this_rowMany, .ref h_this_sorts, .ref h_this_sizes, .ref h_this_number, .ref h_this_holds, .ref h_this_heldOne, .ref h_this_trace, .int x_this_traced, .int x_this_own, .int x_this_isParted]), (h_this_bestPlan, ia G 4 f_this_bestPlan), (h_this_plan, ia G 4 f_this_plan), (h_this_s, ia G 313 f_this_s)]) C h fw_X9_265 0 rfl rfl rfl (Nat.le_of_ble_eq_true rfl) dX9_endsPlan_10 rfl (fun H locs h => ?_)
    refine lv_aload_n hx hb dX9_endsPlan_13 rfl (lv_at hl 0 rfl) ?_
    refine lv_iload_n hx hb dX9_endsPlan_14 rfl (lv_at hl 2 rfl) ?_
    refine r_put (ws' := [(h_this, ob 9 [.ref h_this_s, .ref h_this_kept, .ref h_this_laid, .int x_this_isKept, .ref h_this_pile, .ref h_this_tape, .int x_this_taped, .ref h_this_letters, .int x_this_at, .int x_this_begun, .int x_this_token, .int x_this_value, .int x_this_opened, .int x_this_steps, .ref h_this_code0, .ref h_this_read, .ref h_this_saved, .ref h_this_plan, .ref h_this_bestPlan, .int p1, .int (0 : Int32), .int x_this_few, .int x_this_everHome, .ref h_this_offThen, .ref h_this_paidThen, .int x_this_firstFit, .ref h_this_rows, .int x_this_rowMany, .ref h_this_sorts, .ref h_this_sizes, .ref h_this_number, .ref h_this_holds, .ref h_this_heldOne, .ref h_this_trace, .int x_this_traced, .int x_this_own, .int x_this_isParted]), (h_this_bestPlan, ia G 4 f_this_bestPlan), (h_this_plan, ia G 4 f_this_plan), (h_this_s, ia G 313 f_this_s)]) C h fw_X9_262 0 rfl rfl rfl (Nat.le_of_ble_eq_true rfl) dX9_endsPlan_15 rfl (fun H locs h => ?_)
    refine lv_iconst (v := (0 : Int32)) hx hb dX9_endsPlan_18 rfl ?_
    refine lv_istore (lv' := [(5, .int (0 : Int32)), (0, .ref h_this), (1, .int p0), (2, .int p1), (3, .int p2), (4, .int p3)]) hx hb dX9_endsPlan_19 hl (by decide) rfl (fun ls hl => ?_)
    exact hK2 _ _ _ _ (L21 1000 (0 : Int32) p1 (0 : Int32) f_this_bestPlan hf) _ _ _ h (lv_sub hl [1, 2, 3, 4, 5, 0] rfl)
def f_X9_saves_L2 (p0 : Int32) (f_this_s : Nat → Int32) : Nat → Int32 → (Nat → Int32) → Option ((Nat → Int32))
  | 0, _, _ => none
  | n + 1, v2, g_this_saved => (if (65 : Int32) ≤ v2 then some g_this_saved else chkI v2 313 (lt1 (f_this_s v2.toNatClampNeg) (fun (t3 : Int32) => chkI (((65 : Int32) * p0) + v2) 325 (lt1 (v2 + (1 : Int32)) (fun (t5 : Int32) => (f_X9_saves_L2 p0 f_this_s n) t5 (upd g_this_saved (((65 : Int32) * p0) + v2).toNatClampNeg t3))))))
def f_X9_saves (p0 : Int32) (f_this_s : Nat → Int32) (f_this_saved : Nat → Int32) : Option ((Nat → Int32)) := f_X9_saves_L2 p0 f_this_s 1000 (0 : Int32) f_this_saved
set_option maxRecDepth 100000 in
set_option maxHeartbeats 4000000 in
theorem c_X9_saves {l : Launch} {G : Gt} {h_this h_this_s h_this_kept h_this_laid h_this_pile h_this_tape h_this_letters h_this_code0 h_this_read h_this_saved h_this_plan h_this_bestPlan h_this_offThen h_this_paidThen h_this_rows h_this_sorts h_this_sizes h_this_number h_this_holds h_this_heldOne h_this_trace : Nat} {p0 : Int32} {x_this_isKept : Int32} {x_this_taped : Int32} {x_this_at : Int32} {x_this_begun : Int32} {x_this_token : Int32} {x_this_value : Int32} {x_this_opened : Int32} {x_this_steps : Int32} {x_this_most : Int32} {x_this_many : Int32} {x_this_few : Int32} {x_this_everHome : Int32} {x_this_firstFit : Int32} {x_this_rowMany : Int32} {x_this_traced : Int32} {x_this_own : Int32} {x_this_isParted : Int32} {f_this_s : Nat → Int32} {f_this_saved : Nat → Int32} {m_this_saved : Nat → Int32} (hf : f_X9_saves p0 f_this_s f_this_saved = some m_this_saved) : mFv l G yX9_saves cX9_saves 3 0 [.ref h_this, .int p0] [(h_this, ob 9 [.ref h_this_s, .ref h_this_kept, .ref h_this_laid, .int x_this_isKept, .ref h_this_pile, .ref h_this_tape, .int x_this_taped, .ref h_this_letters, .int x_this_at, .int x_this_begun, .int x_this_token, .int x_this_value, .int x_this_opened, .int x_this_steps, .ref h_this_code0, .ref h_this_read, .ref h_this_saved, .ref h_this_plan, .ref h_this_bestPlan, .int x_this_most, .int x_this_many, .int x_this_few, .int x_this_everHome, .ref h_this_offThen, .ref h_this_paidThen, .int x_this_firstFit, .ref h_this_rows, .int x_this_rowMany, .ref h_this_sorts, .ref h_this_sizes, .ref h_this_number, .ref h_this_holds, .ref h_this_heldOne, .ref h_this_trace, .int x_this_traced, .int x_this_own, .int x_this_isParted]), (h_this_s, ia G 313 f_this_s), (h_this_saved, ia G 325 f_this_saved)] [(h_this, ob 9 [.ref h_this_s, .ref h_this_kept, .ref h_this_laid, .int x_this_isKept, .ref h_this_pile, .ref h_this_tape, .int x_this_taped, .ref h_this_letters, .int x_this_at, .int x_this_begun, .int x_this_token, .int x_this_value, .int x_this_opened, .int x_this_steps, .ref h_this_code0, .ref h_this_read, .ref h_this_saved, .ref h_this_plan, .ref h_this_bestPlan, .int x_this_most, .int x_this_many, .int x_this_few, .int x_this_everHome, .ref h_this_offThen, .ref h_this_paidThen, .int x_this_firstFit, .ref h_this_rows, .int x_this_rowMany, .ref h_this_sorts, .ref h_this_sizes, .ref h_this_number, .ref h_this_holds, .ref h_this_heldOne, .ref h_this_trace, .int x_this_traced, .int x_this_own, .int x_this_isParted]), (h_this_s, ia G 313 f_this_s), (h_this_saved, ia G 325 m_this_saved)] := by
  refine mFv.of (by decide +kernel) (Nat.le_of_ble_eq_true rfl) ?_
  intro p e s m below meth c A C hr hlk h ls hl
  obtain ⟨hx, hb, hml, hown, hts⟩ := id C
  replace hl : lv_has ls 3 [(0, .ref h_this), (1, .int p0)] := hl
  unfold f_X9_saves at hf
  refine with_K G A 3 (fun K hK1 hK2 => ?_)
  have L2 : ∀ (n : Nat) (v2 : Int32) (g_this_saved : Nat → Int32), f_X9_saves_L2 p0 f_this_s n v2 g_this_saved = some m_this_saved → K 2 ([] : List Value) [(h_this, ob 9 [.ref h_this_s, .ref h_this_kept, .ref h_this_laid, .int x_this_isKept, .ref h_this_pile, .ref h_this_tape, .int x_this_taped, .ref h_this_letters, .int x_this_at, .int x_this_begun, .int x_this_token, .int x_this_value, .int x_this_opened, .int x_this_steps, .ref h_this_code0, .ref h_this_read, .ref h_this_saved, .ref h_this_plan, .ref h_this_bestPlan, .int x_this_most, .int x_this_many, .int x_this_few, .int x_this_everHome, .ref h_this_offThen, .ref h_this_paidThen, .int x_this_firstFit, .ref h_this_rows, .int x_this_rowMany, .ref h_this_sorts, .ref h_this_sizes, .ref h_this_number, .ref h_this_holds, .ref h_this_heldOne, .ref h_this_trace, .int x_this_traced, .int x_this_own, .int x_this_isParted]), (h_this_s, ia G 313 f_this_s), (h_this_saved, ia G 325 g_this_saved)] [(0, .ref h_this), (1, .int p0), (2, .int v2)] := by
    intro n
    induction n with
    | zero =>
      intro v2 g_this_saved hf
      replace hf : (none : Option _) = some _ := hf
      cases hf
    | succ n ih =>
      intro v2 g_this_saved hf
      rw [f_X9_saves_L2] at hf
      refine hK1 _ _ _ _ (fun H locs ls h hl => ?_)
      refine lv_iload_n hx hb dX9_saves_2 rfl (lv_at hl 2 rfl) ?_
      refine lv_bipush (v := (65 : Int32)) hx hb dX9_saves_3 rfl ?_
      refine lv_icmp_ge (tgt := 31) hx hb dX9_saves_5 rfl (fun c1 => ?_) (fun c1 => ?_)
      · replace hf := ifp c1 hf
        cases hf
        exact r_vret C h hr hlk dX9_saves_31
      · replace hf := ifn c1 hf
        refine lv_aload_n hx hb dX9_saves_8 rfl (lv_at hl 0 rfl) ?_
        refine r_get C h fk_X9_35 0 rfl rfl dX9_saves_9 ?_
        refine lv_bipush (v := (65 : Int32)) hx hb dX9_saves_12 rfl ?_
        refine lv_iload_n hx hb dX9_saves_14 rfl (lv_at hl 1 rfl) ?_
        refine lv_imul hx hb dX9_saves_15 ?_
        refine lv_iload_n hx hb dX9_saves_16 rfl (lv_at hl 2 rfl) ?_
        refine lv_iadd hx hb dX9_saves_17 ?_
        refine lv_aload_n hx hb dX9_saves_18 rfl (lv_at hl 0 rfl) ?_
        refine r_get C h fk_X9_9 0 rfl rfl dX9_saves_19 ?_
        refine lv_iload_n hx hb dX9_saves_22 rfl (lv_at hl 2 rfl) ?_
        replace hf := chkI_inv hf
        obtain ⟨hi2, hf⟩ := hf
        refine r_iald C h 1 rfl hi2 dX9_saves_23 ?_
        refine lv_topi (fun t3 et3 => ?_)
        replace hf := lt1_inv et3 hf
        replace hf := chkI_inv hf
        obtain ⟨hi4, hf⟩ := hf
        refine r_iast (ws' := [(h_this, ob 9 [.ref h_this_s, .ref h_this_kept, .ref h_this_laid, .int x_this_isKept, .ref h_this_pile, .ref h_this_tape, .int x_this_taped, .ref h_this_letters, .int x_this_at, .int x_this_begun, .int x_this_token, .int x_this_value, .int x_this_opened, .int x_this_steps, .ref h_this_code0, .ref h_this_read, .ref h_this_saved, .ref h_this_plan, .ref h_this_bestPlan, .int x_this_most, .int x_this_many, .int x_this_few, .int x_this_everHome, .ref h_this_offThen, .ref h_this_paidThen, .int x_this_firstFit, .ref h_this_rows, .int x_this_rowMany, .ref h_this_sorts, .ref h_this_sizes, .ref h_this_number, .ref h_this_holds, .ref h_this_heldOne, .ref h_this_trace, .int x_this_traced, .int x_this_own, .int x_this_isParted]), (h_this_s, ia G 313 f_this_s), (h_this_saved, ia G 325 (upd g_this_saved (((65 : Int32) * p0) + v2).toNatClampNeg t3))]) C h 2 rfl hi4 dX9_saves_24 rfl (fun H locs h => ?_)
        obtain ⟨t5, et5⟩ : ∃ y : Int32, y = v2 + (1 : Int32) := ⟨_, rfl⟩
        replace hf := lt1_inv et5 hf
        refine lv_iinc (v := t5) (lv' := [(2, .int t5), (0, .ref h_this), (1, .int p0)]) hx hb dX9_saves_25 hl (k := 2) rfl (by rw [et5]; rfl) (by decide) rfl (fun ls hl => ?_)
        refine lv_goto (tgt := 2) hx hb dX9_saves_28 rfl ?_
        exact hK2 _ _ _ _ (ih t5 (upd g_this_saved (((65 : Int32) * p0) + v2).toNatClampNeg t3) hf) _ _ _ h (lv_sub hl [1, 2, 0] rfl)
  refine lv_iconst (v := (0 : Int32)) hx hb dX9_saves_0 rfl ?_
  refine lv_istore_n (lv' := [(2, .int (0 : Int32)), (0, .ref h_this), (1, .int p0)]) hx hb dX9_saves_1 rfl hl (by decide) rfl (fun ls hl => ?_)
  exact hK2 _ _ _ _ (L2 1000 (0 : Int32) f_this_saved hf) _ _ _ h (lv_sub hl [1, 2, 0] rfl)
def f_X9_restores_L2 (p0 : Int32) (f_this_saved : Nat → Int32) : Nat → Int32 → (Nat → Int32) → Option ((Nat → Int32))
  | 0, _, _ => none
  | n + 1, v2, g_this_s => (if (65 : Int32) ≤ v2 then some g_this_s else chkI (((65 : Int32) * p0) + v2) 325 (lt1 (f_this_saved (((65 : Int32) * p0) + v2).toNatClampNeg) (fun (t3 : Int32) => chkI v2 313 (lt1 (v2 + (1 : Int32)) (fun (t5 : Int32) => (f_X9_restores_L2 p0 f_this_saved n) t5 (upd g_this_s v2.toNatClampNeg t3))))))
def f_X9_restores (p0 : Int32) (f_this_s : Nat → Int32) (f_this_saved : Nat → Int32) : Option ((Nat → Int32)) := f_X9_restores_L2 p0 f_this_saved 1000 (0 : Int32) f_this_s
set_option maxRecDepth 100000 in
set_option maxHeartbeats 4000000 in
theorem c_X9_restores {l : Launch} {G : Gt} {h_this h_this_s h_this_kept h_this_laid h_this_pile h_this_tape h_this_letters h_this_code0 h_this_read h_this_saved h_this_plan h_this_bestPlan h_this_offThen h_this_paidThen h_this_rows h_this_sorts h_this_sizes h_this_number h_this_holds h_this_heldOne h_this_trace : Nat} {p0 : Int32} {x_this_isKept : Int32} {x_this_taped : Int32} {x_this_at : Int32} {x_this_begun : Int32} {x_this_token : Int32} {x_this_value : Int32} {x_this_opened : Int32} {x_this_steps : Int32} {x_this_most : Int32} {x_this_many : Int32} {x_this_few : Int32} {x_this_everHome : Int32} {x_this_firstFit : Int32} {x_this_rowMany : Int32} {x_this_traced : Int32} {x_this_own : Int32} {x_this_isParted : Int32} {f_this_s : Nat → Int32} {f_this_saved : Nat → Int32} {m_this_s : Nat → Int32} (hf : f_X9_restores p0 f_this_s f_this_saved = some m_this_s) : mFv l G yX9_restores cX9_restores 3 0 [.ref h_this, .int p0] [(h_this, ob 9 [.ref h_this_s, .ref h_this_kept, .ref h_this_laid, .int x_this_isKept, .ref h_this_pile, .ref h_this_tape, .int x_this_taped, .ref h_this_letters, .int x_this_at, .int x_this_begun, .int x_this_token, .int x_this_value, .int x_this_opened, .int x_this_steps, .ref h_this_code0, .ref h_this_read, .ref h_this_saved, .ref h_this_plan, .ref h_this_bestPlan, .int x_this_most, .int x_this_many, .int x_this_few, .int x_this_everHome, .ref h_this_offThen, .ref h_this_paidThen, .int x_this_firstFit, .ref h_this_rows, .int x_this_rowMany, .ref h_this_sorts, .ref h_this_sizes, .ref h_this_number, .ref h_this_holds, .ref h_this_heldOne, .ref h_this_trace, .int x_this_traced, .int x_this_own, .int x_this_isParted]), (h_this_s, ia G 313 f_this_s), (h_this_saved, ia G 325 f_this_saved)] [(h_this, ob 9 [.ref h_this_s, .ref h_this_kept, .ref h_this_laid, .int x_this_isKept, .ref h_this_pile, .ref h_this_tape, .int x_this_taped, .ref h_this_letters, .int x_this_at, .int x_this_begun, .int x_this_token, .int x_this_value, .int x_this_opened, .int x_this_steps, .ref h_this_code0, .ref h_this_read, .ref h_this_saved, .ref h_this_plan, .ref h_this_bestPlan, .int x_this_most, .int x_this_many, .int x_this_few, .int x_this_everHome, .ref h_this_offThen, .ref h_this_paidThen, .int x_this_firstFit, .ref h_this_rows, .int x_this_rowMany, .ref h_this_sorts, .ref h_this_sizes, .ref h_this_number, .ref h_this_holds, .ref h_this_heldOne, .ref h_this_trace, .int x_this_traced, .int x_this_own, .int x_this_isParted]), (h_this_s, ia G 313 m_this_s), (h_this_saved, ia G 325 f_this_saved)] := by
  refine mFv.of (by decide +kernel) (Nat.le_of_ble_eq_true rfl) ?_
  intro p e s m below meth c A C hr hlk h ls hl
  obtain ⟨hx, hb, hml, hown, hts⟩ := id C
  replace hl : lv_has ls 3 [(0, .ref h_this), (1, .int p0)] := hl
  unfold f_X9_restores at hf
  refine with_K G A 3 (fun K hK1 hK2 => ?_)
  have L2 : ∀ (n : Nat) (v2 : Int32) (g_this_s : Nat → Int32), f_X9_restores_L2 p0 f_this_saved n v2 g_this_s = some m_this_s → K 2 ([] : List Value) [(h_this, ob 9 [.ref h_this_s, .ref h_this_kept, .ref h_this_laid, .int x_this_isKept, .ref h_this_pile, .ref h_this_tape, .int x_this_taped, .ref h_this_letters, .int x_this_at, .int x_this_begun, .int x_this_token, .int x_this_value, .int x_this_opened, .int x_this_steps, .ref h_this_code0, .ref h_this_read, .ref h_this_saved, .ref h_this_plan, .ref h_this_bestPlan, .int x_this_most, .int x_this_many, .int x_this_few, .int x_this_everHome, .ref h_this_offThen, .ref h_this_paidThen, .int x_this_firstFit, .ref h_this_rows, .int x_this_rowMany, .ref h_this_sorts, .ref h_this_sizes, .ref h_this_number, .ref h_this_holds, .ref h_this_heldOne, .ref h_this_trace, .int x_this_traced, .int x_this_own, .int x_this_isParted]), (h_this_s, ia G 313 g_this_s), (h_this_saved, ia G 325 f_this_saved)] [(0, .ref h_this), (1, .int p0), (2, .int v2)] := by
    intro n
    induction n with
    | zero =>
      intro v2 g_this_s hf
      replace hf : (none : Option _) = some _ := hf
      cases hf
    | succ n ih =>
      intro v2 g_this_s hf
      rw [f_X9_restores_L2] at hf
      refine hK1 _ _ _ _ (fun H locs ls h hl => ?_)
      refine lv_iload_n hx hb dX9_restores_2 rfl (lv_at hl 2 rfl) ?_
      refine lv_bipush (v := (65 : Int32)) hx hb dX9_restores_3 rfl ?_
      refine lv_icmp_ge (tgt := 31) hx hb dX9_restores_5 rfl (fun c1 => ?_) (fun c1 => ?_)
      · replace hf := ifp c1 hf
        cases hf
        exact r_vret C h hr hlk dX9_restores_31
      · replace hf := ifn c1 hf
        refine lv_aload_n hx hb dX9_restores_8 rfl (lv_at hl 0 rfl) ?_
        refine r_get C h fk_X9_9 0 rfl rfl dX9_restores_9 ?_
        refine lv_iload_n hx hb dX9_restores_12 rfl (lv_at hl 2 rfl) ?_
        refine lv_aload_n hx hb dX9_restores_13 rfl (lv_at hl 0 rfl) ?_
        refine r_get C h fk_X9_35 0 rfl rfl dX9_restores_14 ?_
        refine lv_bipush (v := (65 : Int32)) hx hb dX9_restores_17 rfl ?_
        refine lv_iload_n hx hb dX9_restores_19 rfl (lv_at hl 1 rfl) ?_
        refine lv_imul hx hb dX9_restores_20 ?_
        refine lv_iload_n hx hb dX9_restores_21 rfl (lv_at hl 2 rfl) ?_
        refine lv_iadd hx hb dX9_restores_22 ?_
        replace hf := chkI_inv hf
        obtain ⟨hi2, hf⟩ := hf
        refine r_iald C h 2 rfl hi2 dX9_restores_23 ?_
        refine lv_topi (fun t3 et3 => ?_)
        replace hf := lt1_inv et3 hf
        replace hf := chkI_inv hf
        obtain ⟨hi4, hf⟩ := hf
        refine r_iast (ws' := [(h_this, ob 9 [.ref h_this_s, .ref h_this_kept, .ref h_this_laid, .int x_this_isKept, .ref h_this_pile, .ref h_this_tape, .int x_this_taped, .ref h_this_letters, .int x_this_at, .int x_this_begun, .int x_this_token, .int x_this_value, .int x_this_opened, .int x_this_steps, .ref h_this_code0, .ref h_this_read, .ref h_this_saved, .ref h_this_plan, .ref h_this_bestPlan, .int x_this_most, .int x_this_many, .int x_this_few, .int x_this_everHome, .ref h_this_offThen, .ref h_this_paidThen, .int x_this_firstFit, .ref h_this_rows, .int x_this_rowMany, .ref h_this_sorts, .ref h_this_sizes, .ref h_this_number, .ref h_this_holds, .ref h_this_heldOne, .ref h_this_trace, .int x_this_traced, .int x_this_own, .int x_this_isParted]), (h_this_s, ia G 313 (upd g_this_s v2.toNatClampNeg t3)), (h_this_saved, ia G 325 f_this_saved)]) C h 1 rfl hi4 dX9_restores_24 rfl (fun H locs h => ?_)
        obtain ⟨t5, et5⟩ : ∃ y : Int32, y = v2 + (1 : Int32) := ⟨_, rfl⟩
        replace hf := lt1_inv et5 hf
        refine lv_iinc (v := t5) (lv' := [(2, .int t5), (0, .ref h_this), (1, .int p0)]) hx hb dX9_restores_25 hl (k := 2) rfl (by rw [et5]; rfl) (by decide) rfl (fun ls hl => ?_)
        refine lv_goto (tgt := 2) hx hb dX9_restores_28 rfl ?_
        exact hK2 _ _ _ _ (ih t5 (upd g_this_s v2.toNatClampNeg t3) hf) _ _ _ h (lv_sub hl [1, 2, 0] rfl)
  refine lv_iconst (v := (0 : Int32)) hx hb dX9_restores_0 rfl ?_
  refine lv_istore_n (lv' := [(2, .int (0 : Int32)), (0, .ref h_this), (1, .int p0)]) hx hb dX9_restores_1 rfl hl (by decide) rfl (fun ls hl => ?_)
  exact hK2 _ _ _ _ (L2 1000 (0 : Int32) f_this_s hf) _ _ _ h (lv_sub hl [1, 2, 0] rfl)
def f_X9_goesPlans_L24 (self : Int32 → Int32 → Int32 → Int32 → Int32 → Int32 → Int32 → Int32 → Int32 → (Nat → Int32) → (Nat → Int32) → (Nat → Int32) → (Nat → Int32) → (Nat → Int32) → Option (Int32 × Int32 × Int32 × Int32 × (Nat → Int32) × (Nat → Int32) × (Nat → Int32) × (Nat → Int32) × (Nat → Int32))) (p0 : Int32) (p1 : Int32) (p2 : Int32) (p3 : Int32) (p4 : Int32) : Nat → Int32 → Int32 → Int32 → Int32 → Int32 → (Nat → Int32) → (Nat → Int32) → (Nat → Int32) → (Nat → Int32) → (Nat → Int32) → Option (Int32 × Int32 × Int32 × Int32 × (Nat → Int32) × (Nat → Int32) × (Nat → Int32) × (Nat → Int32) × (Nat → Int32))
  | 0, _, _, _, _, _, _, _, _, _, _ => none
  | n + 1, v6, y_this_most, y_this_many, y_this_few, y_this_everHome, g_this_bestPlan, g_this_pile, g_this_plan, g_this_s, g_this_saved => (if (g_this_s 4) < v6 then some (y_this_most, y_this_many, y_this_few, y_this_everHome, g_this_bestPlan, g_this_pile, g_this_plan, g_this_s, g_this_saved) else chkI p0 4 (bd3 (f_X9_goesBy v6 g_this_pile g_this_s) (fun r6 g7 g8 => (if v6 ≤ 0 then bd9 (self (p0 + (1 : Int32)) p1 (p2 + r6) p3 p4 y_this_most y_this_many y_this_few y_this_everHome g_this_bestPlan g7 (upd g_this_plan p0.toNatClampNeg v6) g8 g_this_saved) (fun y11 y12 y13 y14 g15 g16 g17 g18 g19 => bd1 (f_X9_restores p0 g18 g19) (fun g21 => lt1 (v6 + (1 : Int32)) (fun (t23 : Int32) => (f_X9_goesPlans_L24 self p0 p1 p2 p3 p4 n) t23 y11 y12 y13 y14 g15 g16 g17 g21 g19))) else bd9 (self (p0 + (1 : Int32)) p1 (p2 + r6) (p3 + (1 : Int32)) p4 y_this_most y_this_many y_this_few y_this_everHome g_this_bestPlan g7 (upd g_this_plan p0.toNatClampNeg v6) g8 g_this_saved) (fun y24 y25 y26 y27 g28 g29 g30 g31 g32 => bd1 (f_X9_restores p0 g31 g32) (fun g34 => lt1 (v6 + (1 : Int32)) (fun (t36 : Int32) => (f_X9_goesPlans_L24 self p0 p1 p2 p3 p4 n) t36 y24 y25 y26 y27 g28 g29 g30 g34 g32)))))))
def f_X9_goesPlans (self : Int32 → Int32 → Int32 → Int32 → Int32 → Int32 → Int32 → Int32 → Int32 → (Nat → Int32) → (Nat → Int32) → (Nat → Int32) → (Nat → Int32) → (Nat → Int32) → Option (Int32 × Int32 × Int32 × Int32 × (Nat → Int32) × (Nat → Int32) × (Nat → Int32) × (Nat → Int32) × (Nat → Int32))) (p0 : Int32) (p1 : Int32) (p2 : Int32) (p3 : Int32) (p4 : Int32) (x_this_most : Int32) (x_this_many : Int32) (x_this_few : Int32) (x_this_everHome : Int32) (f_this_bestPlan : Nat → Int32) (f_this_pile : Nat → Int32) (f_this_plan : Nat → Int32) (f_this_s : Nat → Int32) (f_this_saved : Nat → Int32) : Option (Int32 × Int32 × Int32 × Int32 × (Nat → Int32) × (Nat → Int32) × (Nat → Int32) × (Nat → Int32) × (Nat → Int32)) := (if p0 = p1 then bd5 (f_X9_endsPlan p1 p2 p3 p4 x_this_most x_this_many x_this_few x_this_everHome f_this_bestPlan f_this_plan f_this_s) (fun y37 y38 y39 y40 g41 => some (y37, y38, y39, y40, g41, f_this_pile, f_this_plan, f_this_s, f_this_saved)) else bd1 (f_X9_saves p0 f_this_s f_this_saved) (fun g2 => f_X9_goesPlans_L24 self p0 p1 p2 p3 p4 1000 (0 : Int32) x_this_most x_this_many x_this_few x_this_everHome f_this_bestPlan f_this_pile f_this_plan f_this_s g2))
set_option maxRecDepth 100000 in
set_option maxHeartbeats 4000000 in
theorem c_X9_goesPlans {l : Launch} {G : Gt} {self : Int32 → Int32 → Int32 → Int32 → Int32 → Int32 → Int32 → Int32 → Int32 → (Nat → Int32) → (Nat → Int32) → (Nat → Int32) → (Nat → Int32) → (Nat → Int32) → Option (Int32 × Int32 × Int32 × Int32 × (Nat → Int32) × (Nat → Int32) × (Nat → Int32) × (Nat → Int32) × (Nat → Int32))} {H0 : Nat} (hself : ∀ {h_this h_this_s h_this_kept h_this_laid h_this_pile h_this_tape h_this_letters h_this_code0 h_this_read h_this_saved h_this_plan h_this_bestPlan h_this_offThen h_this_paidThen h_this_rows h_this_sorts h_this_sizes h_this_number h_this_holds h_this_heldOne h_this_trace : Nat} {p0 : Int32} {p1 : Int32} {p2 : Int32} {p3 : Int32} {p4 : Int32} {x_this_isKept : Int32} {x_this_taped : Int32} {x_this_at : Int32} {x_this_begun : Int32} {x_this_token : Int32} {x_this_value : Int32} {x_this_opened : Int32} {x_this_steps : Int32} {x_this_most : Int32} {x_this_many : Int32} {x_this_few : Int32} {x_this_everHome : Int32} {x_this_firstFit : Int32} {x_this_rowMany : Int32} {x_this_traced : Int32} {x_this_own : Int32} {x_this_isParted : Int32} {f_this_bestPlan : Nat → Int32} {f_this_pile : Nat → Int32} {f_this_plan : Nat → Int32} {f_this_s : Nat → Int32} {f_this_saved : Nat → Int32} {m_this_most : Int32} {m_this_many : Int32} {m_this_few : Int32} {m_this_everHome : Int32} {m_this_bestPlan : Nat → Int32} {m_this_pile : Nat → Int32} {m_this_plan : Nat → Int32} {m_this_s : Nat → Int32} {m_this_saved : Nat → Int32} , self p0 p1 p2 p3 p4 x_this_most x_this_many x_this_few x_this_everHome f_this_bestPlan f_this_pile f_this_plan f_this_s f_this_saved = some (m_this_most, m_this_many, m_this_few, m_this_everHome, m_this_bestPlan, m_this_pile, m_this_plan, m_this_s, m_this_saved) → mFv l G yX9_goesPlans cX9_goesPlans 8 H0 [.ref h_this, .int p0, .int p1, .int p2, .int p3, .int p4] [(h_this, ob 9 [.ref h_this_s, .ref h_this_kept, .ref h_this_laid, .int x_this_isKept, .ref h_this_pile, .ref h_this_tape, .int x_this_taped, .ref h_this_letters, .int x_this_at, .int x_this_begun, .int x_this_token, .int x_this_value, .int x_this_opened, .int x_this_steps, .ref h_this_code0, .ref h_this_read, .ref h_this_saved, .ref h_this_plan, .ref h_this_bestPlan, .int x_this_most, .int x_this_many, .int x_this_few, .int x_this_everHome, .ref h_this_offThen, .ref h_this_paidThen, .int x_this_firstFit, .ref h_this_rows, .int x_this_rowMany, .ref h_this_sorts, .ref h_this_sizes, .ref h_this_number, .ref h_this_holds, .ref h_this_heldOne, .ref h_this_trace, .int x_this_traced, .int x_this_own, .int x_this_isParted]), (h_this_bestPlan, ia G 4 f_this_bestPlan), (h_this_pile, ia G 200 f_this_pile), (h_this_plan, ia G 4 f_this_plan), (h_this_s, ia G 313 f_this_s), (h_this_saved, ia G 325 f_this_saved)] [(h_this, ob 9 [.ref h_this_s, .ref h_this_kept, .ref h_this_laid, .int x_this_isKept, .ref h_this_pile, .ref h_this_tape, .int x_this_taped, .ref h_this_letters, .int x_this_at, .int x_this_begun, .int x_this_token, .int x_this_value, .int x_this_opened, .int x_this_steps, .ref h_this_code0, .ref h_this_read, .ref h_this_saved, .ref h_this_plan, .ref h_this_bestPlan, .int m_this_most, .int m_this_many, .int m_this_few, .int m_this_everHome, .ref h_this_offThen, .ref h_this_paidThen, .int x_this_firstFit, .ref h_this_rows, .int x_this_rowMany, .ref h_this_sorts, .ref h_this_sizes, .ref h_this_number, .ref h_this_holds, .ref h_this_heldOne, .ref h_this_trace, .int x_this_traced, .int x_this_own, .int x_this_isParted]), (h_this_bestPlan, ia G 4 m_this_bestPlan), (h_this_pile, ia G 200 m_this_pile), (h_this_plan, ia G 4 m_this_plan), (h_this_s, ia G 313 m_this_s), (h_this_saved, ia G 325 m_this_saved)]) {h_this h_this_s h_this_kept h_this_laid h_this_pile h_this_tape h_this_letters h_this_code0 h_this_read h_this_saved h_this_plan h_this_bestPlan h_this_offThen h_this_paidThen h_this_rows h_this_sorts h_this_sizes h_this_number h_this_holds h_this_heldOne h_this_trace : Nat} {p0 : Int32} {p1 : Int32} {p2 : Int32} {p3 : Int32} {p4 : Int32} {x_this_isKept : Int32} {x_this_taped : Int32} {x_this_at : Int32} {x_this_begun : Int32} {x_this_token : Int32} {x_this_value : Int32} {x_this_opened : Int32} {x_this_steps : Int32} {x_this_most : Int32} {x_this_many : Int32} {x_this_few : Int32} {x_this_everHome : Int32} {x_this_firstFit : Int32} {x_this_rowMany : Int32} {x_this_traced : Int32} {x_this_own : Int32} {x_this_isParted : Int32} {f_this_bestPlan : Nat → Int32} {f_this_pile : Nat → Int32} {f_this_plan : Nat → Int32} {f_this_s : Nat → Int32} {f_this_saved : Nat → Int32} {m_this_most : Int32} {m_this_many : Int32} {m_this_few : Int32} {m_this_everHome : Int32} {m_this_bestPlan : Nat → Int32} {m_this_pile : Nat → Int32} {m_this_plan : Nat → Int32} {m_this_s : Nat → Int32} {m_this_saved : Nat → Int32} (hf : f_X9_goesPlans self p0 p1 p2 p3 p4 x_this_most x_this_many x_this_few x_this_everHome f_this_bestPlan f_this_pile f_this_plan f_this_s f_this_saved = some (m_this_most, m_this_many, m_this_few, m_this_everHome, m_this_bestPlan, m_this_pile, m_this_plan, m_this_s, m_this_saved)) : mFv l G yX9_goesPlans cX9_goesPlans 8 (H0 + 7) [.ref h_this, .int p0, .int p1, .int p2, .int p3, .int p4] [(h_this, ob 9 [.ref h_this_s, .ref h_this_kept, .ref h_this_laid, .int x_this_isKept, .ref h_this_pile, .ref h_this_tape, .int x_this_taped, .ref h_this_letters, .int x_this_at, .int x_this_begun, .int x_this_token, .int x_this_value, .int x_this_opened, .int x_this_steps, .ref h_this_code0, .ref h_this_read, .ref h_this_saved, .ref h_this_plan, .ref h_this_bestPlan, .int x_this_most, .int x_this_many, .int x_this_few, .int x_this_everHome, .ref h_this_offThen, .ref h_this_paidThen, .int x_this_firstFit, .ref h_this_rows, .int x_this_rowMany, .ref h_this_sorts, .ref h_this_sizes, .ref h_this_number, .ref h_this_holds, .ref h_this_heldOne, .ref h_this_trace, .int x_this_traced, .int x_this_own, .int x_this_isParted]), (h_this_bestPlan, ia G 4 f_this_bestPlan), (h_this_pile, ia G 200 f_this_pile), (h_this_plan, ia G 4 f_this_plan), (h_this_s, ia G 313 f_this_s), (h_this_saved, ia G 325 f_this_saved)] [(h_this, ob 9 [.ref h_this_s, .ref h_this_kept, .ref h_this_laid, .int x_this_isKept, .ref h_this_pile, .ref h_this_tape, .int x_this_taped, .ref h_this_letters, .int x_this_at, .int x_this_begun, .int x_this_token, .int x_this_value, .int x_this_opened, .int x_this_steps, .ref h_this_code0, .ref h_this_read, .ref h_this_saved, .ref h_this_plan, .ref h_this_bestPlan, .int m_this_most, .int m_this_many, .int m_this_few, .int m_this_everHome, .ref h_this_offThen, .ref h_this_paidThen, .int x_this_firstFit, .ref h_this_rows, .int x_this_rowMany, .ref h_this_sorts, .ref h_this_sizes, .ref h_this_number, .ref h_this_holds, .ref h_this_heldOne, .ref h_this_trace, .int x_this_traced, .int x_this_own, .int x_this_isParted]), (h_this_bestPlan, ia G 4 m_this_bestPlan), (h_this_pile, ia G 200 m_this_pile), (h_this_plan, ia G 4 m_this_plan), (h_this_s, ia G 313 m_this_s), (h_this_saved, ia G 325 m_this_saved)] := by
  refine mFv.of (by decide +kernel) (Nat.le_of_ble_eq_true rfl) ?_
  intro p e s m below meth c A C hr hlk h ls hl
  obtain ⟨hx, hb, hml, hown, hts⟩ := id C
  replace hl : lv_has ls 8 [(0, .ref h_this), (1, .int p0), (2, .int p1), (3, .int p2), (4, .int p3), (5, .int p4)] := hl
  unfold f_X9_goesPlans at hf
  refine with_K G A 8 (fun K hK1 hK2 => ?_)
  have L24 : ∀ (n : Nat) (v6 : Int32) (y_this_most : Int32) (y_this_many : Int32) (y_this_few : Int32) (y_this_everHome : Int32) (g_this_bestPlan : Nat → Int32) (g_this_pile : Nat → Int32) (g_this_plan : Nat → Int32) (g_this_s : Nat → Int32) (g_this_saved : Nat → Int32), f_X9_goesPlans_L24 self p0 p1 p2 p3 p4 n v6 y_this_most y_this_many y_this_few y_this_everHome g_this_bestPlan g_this_pile g_this_plan g_this_s g_this_saved = some (m_this_most, m_this_many, m_this_few, m_this_everHome, m_this_bestPlan, m_this_pile, m_this_plan, m_this_s, m_this_saved) → K 24 ([] : List Value) [(h_this, ob 9 [.ref h_this_s, .ref h_this_kept, .ref h_this_laid, .int x_this_isKept, .ref h_this_pile, .ref h_this_tape, .int x_this_taped, .ref h_this_letters, .int x_this_at, .int x_this_begun, .int x_this_token, .int x_this_value, .int x_this_opened, .int x_this_steps, .ref h_this_code0, .ref h_this_read, .ref h_this_saved, .ref h_this_plan, .ref h_this_bestPlan, .int y_this_most, .int y_this_many, .int y_this_few, .int y_this_everHome, .ref h_this_offThen, .ref h_this_paidThen, .int x_this_firstFit, .ref h_this_rows, .int x_this_rowMany, .ref h_this_sorts, .ref h_this_sizes, .ref h_this_number, .ref h_this_holds, .ref h_this_heldOne, .ref h_this_trace, .int x_this_traced, .int x_this_own, .int x_this_isParted]), (h_this_bestPlan, ia G 4 g_this_bestPlan), (h_this_pile, ia G 200 g_this_pile), (h_this_plan, ia G 4 g_this_plan), (h_this_s, ia G 313 g_this_s), (h_this_saved, ia G 325 g_this_saved)] [(0, .ref h_this), (1, .int p0), (2, .int p1), (3, .int p2), (4, .int p3), (5, .int p4), (6, .int v6)] := by
    intro n
    induction n with
    | zero =>
      intro v6 y_this_most y_this_many y_this_few y_this_everHome g_this_bestPlan g_this_pile g_this_plan g_this_s g_this_saved hf
      replace hf : (none : Option _) = some _ := hf
      cases hf
    | succ n ih =>
      intro v6 y_this_most y_this_many y_this_few y_this_everHome g_this_bestPlan g_this_pile g_this_plan g_this_s g_this_saved hf
      rw [f_X9_goesPlans_L24] at hf
      refine hK1 _ _ _ _ (fun H locs ls h hl => ?_)
      refine lv_iload hx hb dX9_goesPlans_24 (lv_at hl 6 rfl) ?_
      refine lv_aload_n hx hb dX9_goesPlans_26 rfl (lv_at hl 0 rfl) ?_
      refine r_get C h fk_X9_9 0 rfl rfl dX9_goesPlans_27 ?_
      refine lv_iconst (v := (4 : Int32)) hx hb dX9_goesPlans_30 rfl ?_
      refine r_ialdL C h 4 rfl (vlit rfl) 4 rfl dX9_goesPlans_31 ?_
      refine lv_icmp_gt (tgt := 90) hx hb dX9_goesPlans_32 rfl (fun c4 => ?_) (fun c4 => ?_)
      · replace hf := ifp c4 hf
        cases hf
        exact r_vret C h hr hlk dX9_goesPlans_90
      · replace hf := ifn c4 hf
        refine lv_aload_n hx hb dX9_goesPlans_35 rfl (lv_at hl 0 rfl) ?_
        refine r_get C h fk_X9_38 0 rfl rfl dX9_goesPlans_36 ?_
        refine lv_iload_n hx hb dX9_goesPlans_39 rfl (lv_at hl 1 rfl) ?_
        refine lv_iload hx hb dX9_goesPlans_40 (lv_at hl 6 rfl) ?_
        replace hf := chkI_inv hf
        obtain ⟨hi5, hf⟩ := hf
        refine r_iast (ws' := [(h_this, ob 9 [.ref h_this_s, .ref h_this_kept, .ref h_this_laid, .int x_this_isKept, .ref h_this_pile, .ref h_this_tape, .int x_this_taped, .ref h_this_letters, .int x_this_at, .int x_this_begun, .int x_this_token, .int x_this_value, .int x_this_opened, .int x_this_steps, .ref h_this_code0, .ref h_this_read, .ref h_this_saved, .ref h_this_plan, .ref h_this_bestPlan, .int y_this_most, .int y_this_many, .int y_this_few, .int y_this_everHome, .ref h_this_offThen, .ref h_this_paidThen, .int x_this_firstFit, .ref h_this_rows, .int x_this_rowMany, .ref h_this_sorts, .ref h_this_sizes, .ref h_this_number, .ref h_this_holds, .ref h_this_heldOne, .ref h_this_trace, .int x_this_traced, .int x_this_own, .int x_this_isParted]), (h_this_bestPlan, ia G 4 g_this_bestPlan), (h_this_pile, ia G 200 g_this_pile), (h_this_plan, ia G 4 (upd g_this_plan p0.toNatClampNeg v6)), (h_this_s, ia G 313 g_this_s), (h_this_saved, ia G 325 g_this_saved)]) C h 3 rfl hi5 dX9_goesPlans_42 rfl (fun H locs h => ?_)
        refine lv_aload_n hx hb dX9_goesPlans_43 rfl (lv_at hl 0 rfl) ?_
        refine lv_iload hx hb dX9_goesPlans_44 (lv_at hl 6 rfl) ?_
        replace hf := bd3_inv hf
        obtain ⟨r6, g7, g8, hc9, hf⟩ := hf
        refine r_ciV (ws' := [(h_this, ob 9 [.ref h_this_s, .ref h_this_kept, .ref h_this_laid, .int x_this_isKept, .ref h_this_pile, .ref h_this_tape, .int x_this_taped, .ref h_this_letters, .int x_this_at, .int x_this_begun, .int x_this_token, .int x_this_value, .int x_this_opened, .int x_this_steps, .ref h_this_code0, .ref h_this_read, .ref h_this_saved, .ref h_this_plan, .ref h_this_bestPlan, .int y_this_most, .int y_this_many, .int y_this_few, .int y_this_everHome, .ref h_this_offThen, .ref h_this_paidThen, .int x_this_firstFit, .ref h_this_rows, .int x_this_rowMany, .ref h_this_sorts, .ref h_this_sizes, .ref h_this_number, .ref h_this_holds, .ref h_this_heldOne, .ref h_this_trace, .int x_this_traced, .int x_this_own, .int x_this_isParted]), (h_this_bestPlan, ia G 4 g_this_bestPlan), (h_this_pile, ia G 200 g7), (h_this_plan, ia G 4 (upd g_this_plan p0.toNatClampNeg v6)), (h_this_s, ia G 313 g8), (h_this_saved, ia G 325 g_this_saved)]) C h (c_X9_goesBy hc9) mv_X9_238 rfl 0 rfl [0, 2, 4] rfl rfl rfl rfl rfl hl.1 rfl (Nat.le_of_ble_eq_true rfl) (rok (by omega)) dX9_goesPlans_46 (fun H locs h => ?_)
        refine lv_istore (lv' := [(7, .int r6), (0, .ref h_this), (1, .int p0), (2, .int p1), (3, .int p2), (4, .int p3), (5, .int p4), (6, .int v6)]) hx hb dX9_goesPlans_49 hl (by decide) rfl (fun ls hl => ?_)
        refine lv_aload_n hx hb dX9_goesPlans_51 rfl (lv_at hl 1 rfl) ?_
        refine lv_iload_n hx hb dX9_goesPlans_52 rfl (lv_at hl 2 rfl) ?_
        refine lv_iconst (v := (1 : Int32)) hx hb dX9_goesPlans_53 rfl ?_
        refine lv_iadd hx hb dX9_goesPlans_54 ?_
        refine lv_iload_n hx hb dX9_goesPlans_55 rfl (lv_at hl 3 rfl) ?_
        refine lv_iload_n hx hb dX9_goesPlans_56 rfl (lv_at hl 4 rfl) ?_
        refine lv_iload hx hb dX9_goesPlans_57 (lv_at hl 0 rfl) ?_
        refine lv_iadd hx hb dX9_goesPlans_59 ?_
        refine lv_iload hx hb dX9_goesPlans_60 (lv_at hl 7 rfl) ?_
        refine lv_if_le (tgt := 72) hx hb dX9_goesPlans_62 rfl (fun c10 => ?_) (fun c10 => ?_)
        · replace hf := ifp c10 hf
          refine lv_iload hx hb dX9_goesPlans_72 (lv_at hl 5 rfl) ?_
          refine lv_iload hx hb dX9_goesPlans_74 (lv_at hl 6 rfl) ?_
          replace hf := bd9_inv hf
          obtain ⟨y11, y12, y13, y14, g15, g16, g17, g18, g19, hc20, hf⟩ := hf
          refine r_cvV (ws' := [(h_this, ob 9 [.ref h_this_s, .ref h_this_kept, .ref h_this_laid, .int x_this_isKept, .ref h_this_pile, .ref h_this_tape, .int x_this_taped, .ref h_this_letters, .int x_this_at, .int x_this_begun, .int x_this_token, .int x_this_value, .int x_this_opened, .int x_this_steps, .ref h_this_code0, .ref h_this_read, .ref h_this_saved, .ref h_this_plan, .ref h_this_bestPlan, .int y11, .int y12, .int y13, .int y14, .ref h_this_offThen, .ref h_this_paidThen, .int x_this_firstFit, .ref h_this_rows, .int x_this_rowMany, .ref h_this_sorts, .ref h_this_sizes, .ref h_this_number, .ref h_this_holds, .ref h_this_heldOne, .ref h_this_trace, .int x_this_traced, .int x_this_own, .int x_this_isParted]), (h_this_bestPlan, ia G 4 g15), (h_this_pile, ia G 200 g16), (h_this_plan, ia G 4 g17), (h_this_s, ia G 313 g18), (h_this_saved, ia G 325 g19)]) C h (hself hc20) mv_X9_281 rfl 0 rfl [0, 1, 2, 3, 4, 5] rfl rfl rfl rfl rfl hl.1 rfl (Nat.le_of_ble_eq_true rfl) (rok (by omega)) dX9_goesPlans_76 (fun H locs h => ?_)
          refine lv_aload_n hx hb dX9_goesPlans_79 rfl (lv_at hl 1 rfl) ?_
          refine lv_iload_n hx hb dX9_goesPlans_80 rfl (lv_at hl 2 rfl) ?_
          replace hf := bd1_inv hf
          obtain ⟨g21, hc22, hf⟩ := hf
          refine r_cvV (ws' := [(h_this, ob 9 [.ref h_this_s, .ref h_this_kept, .ref h_this_laid, .int x_this_isKept, .ref h_this_pile, .ref h_this_tape, .int x_this_taped, .ref h_this_letters, .int x_this_at, .int x_this_begun, .int x_this_token, .int x_this_value, .int x_this_opened, .int x_this_steps, .ref h_this_code0, .ref h_this_read, .ref h_this_saved, .ref h_this_plan, .ref h_this_bestPlan, .int y11, .int y12, .int y13, .int y14, .ref h_this_offThen, .ref h_this_paidThen, .int x_this_firstFit, .ref h_this_rows, .int x_this_rowMany, .ref h_this_sorts, .ref h_this_sizes, .ref h_this_number, .ref h_this_holds, .ref h_this_heldOne, .ref h_this_trace, .int x_this_traced, .int x_this_own, .int x_this_isParted]), (h_this_bestPlan, ia G 4 g15), (h_this_pile, ia G 200 g16), (h_this_plan, ia G 4 g17), (h_this_s, ia G 313 g21), (h_this_saved, ia G 325 g19)]) C h (c_X9_restores hc22) mv_X9_285 rfl 0 rfl [0, 4, 5] rfl rfl rfl rfl rfl hl.1 rfl (Nat.le_of_ble_eq_true rfl) (rok (by omega)) dX9_goesPlans_81 (fun H locs h => ?_)
          obtain ⟨t23, et23⟩ : ∃ y : Int32, y = v6 + (1 : Int32) := ⟨_, rfl⟩
          replace hf := lt1_inv et23 hf
          refine lv_iinc (v := t23) (lv' := [(6, .int t23), (7, .int r6), (0, .ref h_this), (1, .int p0), (2, .int p1), (3, .int p2), (4, .int p3), (5, .int p4)]) hx hb dX9_goesPlans_84 hl (k := 7) rfl (by rw [et23]; rfl) (by decide) rfl (fun ls hl => ?_)
          refine lv_goto (tgt := 24) hx hb dX9_goesPlans_87 rfl ?_
          exact hK2 _ _ _ _ (ih t23 y11 y12 y13 y14 g15 g16 g17 g21 g19 hf) _ _ _ h (lv_sub hl [2, 3, 4, 5, 6, 7, 0] rfl)
        · replace hf := ifn c10 hf
          refine lv_iload hx hb dX9_goesPlans_65 (lv_at hl 5 rfl) ?_
          refine lv_iconst (v := (1 : Int32)) hx hb dX9_goesPlans_67 rfl ?_
          refine lv_iadd hx hb dX9_goesPlans_68 ?_
          refine lv_goto (tgt := 74) hx hb dX9_goesPlans_69 rfl ?_
          refine lv_iload hx hb dX9_goesPlans_74 (lv_at hl 6 rfl) ?_
          replace hf := bd9_inv hf
          obtain ⟨y24, y25, y26, y27, g28, g29, g30, g31, g32, hc33, hf⟩ := hf
          refine r_cvV (ws' := [(h_this, ob 9 [.ref h_this_s, .ref h_this_kept, .ref h_this_laid, .int x_this_isKept, .ref h_this_pile, .ref h_this_tape, .int x_this_taped, .ref h_this_letters, .int x_this_at, .int x_this_begun, .int x_this_token, .int x_this_value, .int x_this_opened, .int x_this_steps, .ref h_this_code0, .ref h_this_read, .ref h_this_saved, .ref h_this_plan, .ref h_this_bestPlan, .int y24, .int y25, .int y26, .int y27, .ref h_this_offThen, .ref h_this_paidThen, .int x_this_firstFit, .ref h_this_rows, .int x_this_rowMany, .ref h_this_sorts, .ref h_this_sizes, .ref h_this_number, .ref h_this_holds, .ref h_this_heldOne, .ref h_this_trace, .int x_this_traced, .int x_this_own, .int x_this_isParted]), (h_this_bestPlan, ia G 4 g28), (h_this_pile, ia G 200 g29), (h_this_plan, ia G 4 g30), (h_this_s, ia G 313 g31), (h_this_saved, ia G 325 g32)]) C h (hself hc33) mv_X9_281 rfl 0 rfl [0, 1, 2, 3, 4, 5] rfl rfl rfl rfl rfl hl.1 rfl (Nat.le_of_ble_eq_true rfl) (rok (by omega)) dX9_goesPlans_76 (fun H locs h => ?_)
          refine lv_aload_n hx hb dX9_goesPlans_79 rfl (lv_at hl 1 rfl) ?_
          refine lv_iload_n hx hb dX9_goesPlans_80 rfl (lv_at hl 2 rfl) ?_
          replace hf := bd1_inv hf
          obtain ⟨g34, hc35, hf⟩ := hf
          refine r_cvV (ws' := [(h_this, ob 9 [.ref h_this_s, .ref h_this_kept, .ref h_this_laid, .int x_this_isKept, .ref h_this_pile, .ref h_this_tape, .int x_this_taped, .ref h_this_letters, .int x_this_at, .int x_this_begun, .int x_this_token, .int x_this_value, .int x_this_opened, .int x_this_steps, .ref h_this_code0, .ref h_this_read, .ref h_this_saved, .ref h_this_plan, .ref h_this_bestPlan, .int y24, .int y25, .int y26, .int y27, .ref h_this_offThen, .ref h_this_paidThen, .int x_this_firstFit, .ref h_this_rows, .int x_this_rowMany, .ref h_this_sorts, .ref h_this_sizes, .ref h_this_number, .ref h_this_holds, .ref h_this_heldOne, .ref h_this_trace, .int x_this_traced, .int x_this_own, .int x_this_isParted]), (h_this_bestPlan, ia G 4 g28), (h_this_pile, ia G 200 g29), (h_this_plan, ia G 4 g30), (h_this_s, ia G 313 g34), (h_this_saved, ia G 325 g32)]) C h (c_X9_restores hc35) mv_X9_285 rfl 0 rfl [0, 4, 5] rfl rfl rfl rfl rfl hl.1 rfl (Nat.le_of_ble_eq_true rfl) (rok (by omega)) dX9_goesPlans_81 (fun H locs h => ?_)
          obtain ⟨t36, et36⟩ : ∃ y : Int32, y = v6 + (1 : Int32) := ⟨_, rfl⟩
          replace hf := lt1_inv et36 hf
          refine lv_iinc (v := t36) (lv' := [(6, .int t36), (7, .int r6), (0, .ref h_this), (1, .int p0), (2, .int p1), (3, .int p2), (4, .int p3), (5, .int p4)]) hx hb dX9_goesPlans_84 hl (k := 7) rfl (by rw [et36]; rfl) (by decide) rfl (fun ls hl => ?_)
          refine lv_goto (tgt := 24) hx hb dX9_goesPlans_87 rfl ?_
          exact hK2 _ _ _ _ (ih t36 y24 y25 y26 y27 g28 g29 g30 g34 g32 hf) _ _ _ h (lv_sub hl [2, 3, 4, 5, 6, 7, 0] rfl)
  refine lv_iload_n hx hb dX9_goesPlans_0 rfl (lv_at hl 1 rfl) ?_
  refine lv_iload_n hx hb dX9_goesPlans_1 rfl (lv_at hl 2 rfl) ?_
  refine lv_icmp_ne (tgt := 16) hx hb dX9_goesPlans_2 rfl (fun c1 => ?_) (fun c1 => ?_)
  · replace hf := ifn c1 hf
    refine lv_aload_n hx hb dX9_goesPlans_16 rfl (lv_at hl 0 rfl) ?_
    refine lv_iload_n hx hb dX9_goesPlans_17 rfl (lv_at hl 1 rfl) ?_
    replace hf := bd1_inv hf
    obtain ⟨g2, hc3, hf⟩ := hf
    refine r_cvV (ws' := [(h_this, ob 9 [.ref h_this_s, .ref h_this_kept, .ref h_this_laid, .int x_this_isKept, .ref h_this_pile, .ref h_this_tape, .int x_this_taped, .ref h_this_letters, .int x_this_at, .int x_this_begun, .int x_this_token, .int x_this_value, .int x_this_opened, .int x_this_steps, .ref h_this_code0, .ref h_this_read, .ref h_this_saved, .ref h_this_plan, .ref h_this_bestPlan, .int x_this_most, .int x_this_many, .int x_this_few, .int x_this_everHome, .ref h_this_offThen, .ref h_this_paidThen, .int x_this_firstFit, .ref h_this_rows, .int x_this_rowMany, .ref h_this_sorts, .ref h_this_sizes, .ref h_this_number, .ref h_this_holds, .ref h_this_heldOne, .ref h_this_trace, .int x_this_traced, .int x_this_own, .int x_this_isParted]), (h_this_bestPlan, ia G 4 f_this_bestPlan), (h_this_pile, ia G 200 f_this_pile), (h_this_plan, ia G 4 f_this_plan), (h_this_s, ia G 313 f_this_s), (h_this_saved, ia G 325 g2)]) C h (c_X9_saves hc3) mv_X9_278 rfl 0 rfl [0, 4, 5] rfl rfl rfl rfl rfl hl.1 rfl (Nat.le_of_ble_eq_true rfl) (rok (by omega)) dX9_goesPlans_18 (fun H locs h => ?_)
    refine lv_iconst (v := (0 : Int32)) hx hb dX9_goesPlans_21 rfl ?_
    refine lv_istore (lv' := [(6, .int (0 : Int32)), (0, .ref h_this), (1, .int p0), (2, .int p1), (3, .int p2), (4, .int p3), (5, .int p4)]) hx hb dX9_goesPlans_22 hl (by decide) rfl (fun ls hl => ?_)
    exact hK2 _ _ _ _ (L24 1000 (0 : Int32) x_this_most x_this_many x_this_few x_this_everHome f_this_bestPlan f_this_pile f_this_plan f_this_s g2 hf) _ _ _ h (lv_sub hl [1, 2, 3, 4, 5, 6, 0] rfl)
  · replace hf := ifp c1 hf
    refine lv_aload_n hx hb dX9_goesPlans_5 rfl (lv_at hl 0 rfl) ?_
    refine lv_iload_n hx hb dX9_goesPlans_6 rfl (lv_at hl 2 rfl) ?_
    refine lv_iload_n hx hb dX9_goesPlans_7 rfl (lv_at hl 3 rfl) ?_
    refine lv_iload hx hb dX9_goesPlans_8 (lv_at hl 4 rfl) ?_
    refine lv_iload hx hb dX9_goesPlans_10 (lv_at hl 5 rfl) ?_
    replace hf := bd5_inv hf
    obtain ⟨y37, y38, y39, y40, g41, hc42, hf⟩ := hf
    refine r_cvV (ws' := [(h_this, ob 9 [.ref h_this_s, .ref h_this_kept, .ref h_this_laid, .int x_this_isKept, .ref h_this_pile, .ref h_this_tape, .int x_this_taped, .ref h_this_letters, .int x_this_at, .int x_this_begun, .int x_this_token, .int x_this_value, .int x_this_opened, .int x_this_steps, .ref h_this_code0, .ref h_this_read, .ref h_this_saved, .ref h_this_plan, .ref h_this_bestPlan, .int y37, .int y38, .int y39, .int y40, .ref h_this_offThen, .ref h_this_paidThen, .int x_this_firstFit, .ref h_this_rows, .int x_this_rowMany, .ref h_this_sorts, .ref h_this_sizes, .ref h_this_number, .ref h_this_holds, .ref h_this_heldOne, .ref h_this_trace, .int x_this_traced, .int x_this_own, .int x_this_isParted]), (h_this_bestPlan, ia G 4 g41), (h_this_pile, ia G 200 f_this_pile), (h_this_plan, ia G 4 f_this_plan), (h_this_s, ia G 313 f_this_s), (h_this_saved, ia G 325 f_this_saved)]) C h (c_X9_endsPlan hc42) mv_X9_274 rfl 0 rfl [0, 1, 3, 4] rfl rfl rfl rfl rfl hl.1 rfl (Nat.le_of_ble_eq_true rfl) (rok (by omega)) dX9_goesPlans_12 (fun H locs h => ?_)
    cases hf
    exact r_vret C h hr hlk dX9_goesPlans_15
def F_X9_goesPlans : Nat → Int32 → Int32 → Int32 → Int32 → Int32 → Int32 → Int32 → Int32 → Int32 → (Nat → Int32) → (Nat → Int32) → (Nat → Int32) → (Nat → Int32) → (Nat → Int32) → Option (Int32 × Int32 × Int32 × Int32 × (Nat → Int32) × (Nat → Int32) × (Nat → Int32) × (Nat → Int32) × (Nat → Int32))
  | 0, _, _, _, _, _, _, _, _, _, _, _, _, _, _ => none
  | d + 1, p0, p1, p2, p3, p4, x_this_most, x_this_many, x_this_few, x_this_everHome, f_this_bestPlan, f_this_pile, f_this_plan, f_this_s, f_this_saved => f_X9_goesPlans (F_X9_goesPlans d) p0 p1 p2 p3 p4 x_this_most x_this_many x_this_few x_this_everHome f_this_bestPlan f_this_pile f_this_plan f_this_s f_this_saved
theorem C_X9_goesPlans {l : Launch} {G : Gt} (d : Nat) : ∀ {h_this h_this_s h_this_kept h_this_laid h_this_pile h_this_tape h_this_letters h_this_code0 h_this_read h_this_saved h_this_plan h_this_bestPlan h_this_offThen h_this_paidThen h_this_rows h_this_sorts h_this_sizes h_this_number h_this_holds h_this_heldOne h_this_trace : Nat} {p0 : Int32} {p1 : Int32} {p2 : Int32} {p3 : Int32} {p4 : Int32} {x_this_isKept : Int32} {x_this_taped : Int32} {x_this_at : Int32} {x_this_begun : Int32} {x_this_token : Int32} {x_this_value : Int32} {x_this_opened : Int32} {x_this_steps : Int32} {x_this_most : Int32} {x_this_many : Int32} {x_this_few : Int32} {x_this_everHome : Int32} {x_this_firstFit : Int32} {x_this_rowMany : Int32} {x_this_traced : Int32} {x_this_own : Int32} {x_this_isParted : Int32} {f_this_bestPlan : Nat → Int32} {f_this_pile : Nat → Int32} {f_this_plan : Nat → Int32} {f_this_s : Nat → Int32} {f_this_saved : Nat → Int32} {m_this_most : Int32} {m_this_many : Int32} {m_this_few : Int32} {m_this_everHome : Int32} {m_this_bestPlan : Nat → Int32} {m_this_pile : Nat → Int32} {m_this_plan : Nat → Int32} {m_this_s : Nat → Int32} {m_this_saved : Nat → Int32} , F_X9_goesPlans d p0 p1 p2 p3 p4 x_this_most x_this_many x_this_few x_this_everHome f_this_bestPlan f_this_pile f_this_plan f_this_s f_this_saved = some (m_this_most, m_this_many, m_this_few, m_this_everHome, m_this_bestPlan, m_this_pile, m_this_plan, m_this_s, m_this_saved) → mFv l G yX9_goesPlans cX9_goesPlans 8 (d * 7) [.ref h_this, .int p0, .int p1, .int p2, .int p3, .int p4] [(h_this, ob 9 [.ref h_this_s, .ref h_this_kept, .ref h_this_laid, .int x_this_isKept, .ref h_this_pile, .ref h_this_tape, .int x_this_taped, .ref h_this_letters, .int x_this_at, .int x_this_begun, .int x_this_token, .int x_this_value, .int x_this_opened, .int x_this_steps, .ref h_this_code0, .ref h_this_read, .ref h_this_saved, .ref h_this_plan, .ref h_this_bestPlan, .int x_this_most, .int x_this_many, .int x_this_few, .int x_this_everHome, .ref h_this_offThen, .ref h_this_paidThen, .int x_this_firstFit, .ref h_this_rows, .int x_this_rowMany, .ref h_this_sorts, .ref h_this_sizes, .ref h_this_number, .ref h_this_holds, .ref h_this_heldOne, .ref h_this_trace, .int x_this_traced, .int x_this_own, .int x_this_isParted]), (h_this_bestPlan, ia G 4 f_this_bestPlan), (h_this_pile, ia G 200 f_this_pile), (h_this_plan, ia G 4 f_this_plan), (h_this_s, ia G 313 f_this_s), (h_this_saved, ia G 325 f_this_saved)] [(h_this, ob 9 [.ref h_this_s, .ref h_this_kept, .ref h_this_laid, .int x_this_isKept, .ref h_this_pile, .ref h_this_tape, .int x_this_taped, .ref h_this_letters, .int x_this_at, .int x_this_begun, .int x_this_token, .int x_this_value, .int x_this_opened, .int x_this_steps, .ref h_this_code0, .ref h_this_read, .ref h_this_saved, .ref h_this_plan, .ref h_this_bestPlan, .int m_this_most, .int m_this_many, .int m_this_few, .int m_this_everHome, .ref h_this_offThen, .ref h_this_paidThen, .int x_this_firstFit, .ref h_this_rows, .int x_this_rowMany, .ref h_this_sorts, .ref h_this_sizes, .ref h_this_number, .ref h_this_holds, .ref h_this_heldOne, .ref h_this_trace, .int x_this_traced, .int x_this_own, .int x_this_isParted]), (h_this_bestPlan, ia G 4 m_this_bestPlan), (h_this_pile, ia G 200 m_this_pile), (h_this_plan, ia G 4 m_this_plan), (h_this_s, ia G 313 m_this_s), (h_this_saved, ia G 325 m_this_saved)] := by
  induction d with
  | zero =>
    intros
    rename_i hf
    replace hf : (none : Option _) = some _ := hf
    cases hf
  | succ d ih =>
    intros
    rename_i hf
    rw [Nat.succ_mul]
    exact c_X9_goesPlans (self := F_X9_goesPlans d) ih hf
def f_X9_triesAll (p0 : Int32) (p1 : Int32) (f_this_bestPlan : Nat → Int32) (f_this_pile : Nat → Int32) (f_this_plan : Nat → Int32) (f_this_s : Nat → Int32) (f_this_saved : Nat → Int32) : Option (Int32 × Int32 × Int32 × Int32 × (Nat → Int32) × (Nat → Int32) × (Nat → Int32) × (Nat → Int32) × (Nat → Int32)) := bd1 (f_X9_daysOf p0 f_this_s) (fun r1 => bd9 (F_X9_goesPlans 6 (0 : Int32) r1 (0 : Int32) (0 : Int32) p1 (-1 : Int32) (0 : Int32) (5 : Int32) (0 : Int32) f_this_bestPlan f_this_pile f_this_plan f_this_s f_this_saved) (fun y3 y4 y5 y6 g7 g8 g9 g10 g11 => some (y3, y4, y5, y6, g7, g8, g9, g10, g11)))
set_option maxRecDepth 100000 in
set_option maxHeartbeats 4000000 in
theorem c_X9_triesAll {l : Launch} {G : Gt} {h_this h_this_s h_this_kept h_this_laid h_this_pile h_this_tape h_this_letters h_this_code0 h_this_read h_this_saved h_this_plan h_this_bestPlan h_this_offThen h_this_paidThen h_this_rows h_this_sorts h_this_sizes h_this_number h_this_holds h_this_heldOne h_this_trace : Nat} {p0 : Int32} {p1 : Int32} {x_this_isKept : Int32} {x_this_taped : Int32} {x_this_at : Int32} {x_this_begun : Int32} {x_this_token : Int32} {x_this_value : Int32} {x_this_opened : Int32} {x_this_steps : Int32} {x_this_most : Int32} {x_this_many : Int32} {x_this_few : Int32} {x_this_everHome : Int32} {x_this_firstFit : Int32} {x_this_rowMany : Int32} {x_this_traced : Int32} {x_this_own : Int32} {x_this_isParted : Int32} {f_this_bestPlan : Nat → Int32} {f_this_pile : Nat → Int32} {f_this_plan : Nat → Int32} {f_this_s : Nat → Int32} {f_this_saved : Nat → Int32} {m_this_most : Int32} {m_this_many : Int32} {m_this_few : Int32} {m_this_everHome : Int32} {m_this_bestPlan : Nat → Int32} {m_this_pile : Nat → Int32} {m_this_plan : Nat → Int32} {m_this_s : Nat → Int32} {m_this_saved : Nat → Int32} (hf : f_X9_triesAll p0 p1 f_this_bestPlan f_this_pile f_this_plan f_this_s f_this_saved = some (m_this_most, m_this_many, m_this_few, m_this_everHome, m_this_bestPlan, m_this_pile, m_this_plan, m_this_s, m_this_saved)) : mFv l G yX9_triesAll cX9_triesAll 3 43 [.ref h_this, .int p0, .int p1] [(h_this, ob 9 [.ref h_this_s, .ref h_this_kept, .ref h_this_laid, .int x_this_isKept, .ref h_this_pile, .ref h_this_tape, .int x_this_taped, .ref h_this_letters, .int x_this_at, .int x_this_begun, .int x_this_token, .int x_this_value, .int x_this_opened, .int x_this_steps, .ref h_this_code0, .ref h_this_read, .ref h_this_saved, .ref h_this_plan, .ref h_this_bestPlan, .int x_this_most, .int x_this_many, .int x_this_few, .int x_this_everHome, .ref h_this_offThen, .ref h_this_paidThen, .int x_this_firstFit, .ref h_this_rows, .int x_this_rowMany, .ref h_this_sorts, .ref h_this_sizes, .ref h_this_number, .ref h_this_holds, .ref h_this_heldOne, .ref h_this_trace, .int x_this_traced, .int x_this_own, .int x_this_isParted]), (h_this_bestPlan, ia G 4 f_this_bestPlan), (h_this_pile, ia G 200 f_this_pile), (h_this_plan, ia G 4 f_this_plan), (h_this_s, ia G 313 f_this_s), (h_this_saved, ia G 325 f_this_saved)] [(h_this, ob 9 [.ref h_this_s, .ref h_this_kept, .ref h_this_laid, .int x_this_isKept, .ref h_this_pile, .ref h_this_tape, .int x_this_taped, .ref h_this_letters, .int x_this_at, .int x_this_begun, .int x_this_token, .int x_this_value, .int x_this_opened, .int x_this_steps, .ref h_this_code0, .ref h_this_read, .ref h_this_saved, .ref h_this_plan, .ref h_this_bestPlan, .int m_this_most, .int m_this_many, .int m_this_few, .int m_this_everHome, .ref h_this_offThen, .ref h_this_paidThen, .int x_this_firstFit, .ref h_this_rows, .int x_this_rowMany, .ref h_this_sorts, .ref h_this_sizes, .ref h_this_number, .ref h_this_holds, .ref h_this_heldOne, .ref h_this_trace, .int x_this_traced, .int x_this_own, .int x_this_isParted]), (h_this_bestPlan, ia G 4 m_this_bestPlan), (h_this_pile, ia G 200 m_this_pile), (h_this_plan, ia G 4 m_this_plan), (h_this_s, ia G 313 m_this_s), (h_this_saved, ia G 325 m_this_saved)] := by
  refine mFv.of (by decide +kernel) (Nat.le_of_ble_eq_true rfl) ?_
  intro p e s m below meth c A C hr hlk h ls hl
  obtain ⟨hx, hb, hml, hown, hts⟩ := id C
  replace hl : lv_has ls 3 [(0, .ref h_this), (1, .int p0), (2, .int p1)] := hl
  unfold f_X9_triesAll at hf
  refine lv_aload_n hx hb dX9_triesAll_0 rfl (lv_at hl 0 rfl) ?_
  refine lv_iconst (v := (-1 : Int32)) hx hb dX9_triesAll_1 rfl ?_
  refine r_put (ws' := [(h_this, ob 9 [.ref h_this_s, .ref h_this_kept, .ref h_this_laid, .int x_this_isKept, .ref h_this_pile, .ref h_this_tape, .int x_this_taped, .ref h_this_letters, .int x_this_at, .int x_this_begun, .int x_this_token, .int x_this_value, .int x_this_opened, .int x_this_steps, .ref h_this_code0, .ref h_this_read, .ref h_this_saved, .ref h_this_plan, .ref h_this_bestPlan, .int (-1 : Int32), .int x_this_many, .int x_this_few, .int x_this_everHome, .ref h_this_offThen, .ref h_this_paidThen, .int x_this_firstFit, .ref h_this_rows, .int x_this_rowMany, .ref h_this_sorts, .ref h_this_sizes, .ref h_this_number, .ref h_this_holds, .ref h_this_heldOne, .ref h_this_trace, .int x_this_traced, .int x_this_own, .int x_this_isParted]), (h_this_bestPlan, ia G 4 f_this_bestPlan), (h_this_pile, ia G 200 f_this_pile), (h_this_plan, ia G 4 f_this_plan), (h_this_s, ia G 313 f_this_s), (h_this_saved, ia G 325 f_this_saved)]) C h fw_X9_262 0 rfl rfl rfl (Nat.le_of_ble_eq_true rfl) dX9_triesAll_2 rfl (fun H locs h => ?_)
  refine lv_aload_n hx hb dX9_triesAll_5 rfl (lv_at hl 0 rfl) ?_
  refine lv_iconst (v := (0 : Int32)) hx hb dX9_triesAll_6 rfl ?_
  refine r_put (ws' := [(h_this, ob 9 [.ref h_this_s, .ref h_this_kept, .ref h_this_laid, .int x_this_isKept, .ref h_this_pile, .ref h_this_tape, .int x_this_taped, .ref h_this_letters, .int x_this_at, .int x_this_begun, .int x_this_token, .int x_this_value, .int x_this_opened, .int x_this_steps, .ref h_this_code0, .ref h_this_read, .ref h_this_saved, .ref h_this_plan, .ref h_this_bestPlan, .int (-1 : Int32), .int (0 : Int32), .int x_this_few, .int x_this_everHome, .ref h_this_offThen, .ref h_this_paidThen, .int x_this_firstFit, .ref h_this_rows, .int x_this_rowMany, .ref h_this_sorts, .ref h_this_sizes, .ref h_this_number, .ref h_this_holds, .ref h_this_heldOne, .ref h_this_trace, .int x_this_traced, .int x_this_own, .int x_this_isParted]), (h_this_bestPlan, ia G 4 f_this_bestPlan), (h_this_pile, ia G 200 f_this_pile), (h_this_plan, ia G 4 f_this_plan), (h_this_s, ia G 313 f_this_s), (h_this_saved, ia G 325 f_this_saved)]) C h fw_X9_265 0 rfl rfl rfl (Nat.le_of_ble_eq_true rfl) dX9_triesAll_7 rfl (fun H locs h => ?_)
  refine lv_aload_n hx hb dX9_triesAll_10 rfl (lv_at hl 0 rfl) ?_
  refine lv_iconst (v := (5 : Int32)) hx hb dX9_triesAll_11 rfl ?_
  refine r_put (ws' := [(h_this, ob 9 [.ref h_this_s, .ref h_this_kept, .ref h_this_laid, .int x_this_isKept, .ref h_this_pile, .ref h_this_tape, .int x_this_taped, .ref h_this_letters, .int x_this_at, .int x_this_begun, .int x_this_token, .int x_this_value, .int x_this_opened, .int x_this_steps, .ref h_this_code0, .ref h_this_read, .ref h_this_saved, .ref h_this_plan, .ref h_this_bestPlan, .int (-1 : Int32), .int (0 : Int32), .int (5 : Int32), .int x_this_everHome, .ref h_this_offThen, .ref h_this_paidThen, .int x_this_firstFit, .ref h_this_rows, .int x_this_rowMany, .ref h_this_sorts, .ref h_this_sizes, .ref h_this_number, .ref h_this_holds, .ref h_this_heldOne, .ref h_this_trace, .int x_this_traced, .int x_this_own, .int x_this_isParted]), (h_this_bestPlan, ia G 4 f_this_bestPlan), (h_this_pile, ia G 200 f_this_pile), (h_this_plan, ia G 4 f_this_plan), (h_this_s, ia G 313 f_this_s), (h_this_saved, ia G 325 f_this_saved)]) C h fw_X9_268 0 rfl rfl rfl (Nat.le_of_ble_eq_true rfl) dX9_triesAll_12 rfl (fun H locs h => ?_)
  refine lv_aload_n hx hb dX9_triesAll_15 rfl (lv_at hl 0 rfl) ?_
  refine lv_iconst (v := (0 : Int32)) hx hb dX9_triesAll_16 rfl ?_
  refine r_put (ws' := [(h_this, ob 9 [.ref h_this_s, .ref h_this_kept, .ref h_this_laid, .int x_this_isKept, .ref h_this_pile, .ref h_this_tape, .int x_this_taped, .ref h_this_letters, .int x_this_at, .int x_this_begun, .int x_this_token, .int x_this_value, .int x_this_opened, .int x_this_steps, .ref h_this_code0, .ref h_this_read, .ref h_this_saved, .ref h_this_plan, .ref h_this_bestPlan, .int (-1 : Int32), .int (0 : Int32), .int (5 : Int32), .int (0 : Int32), .ref h_this_offThen, .ref h_this_paidThen, .int x_this_firstFit, .ref h_this_rows, .int x_this_rowMany, .ref h_this_sorts, .ref h_this_sizes, .ref h_this_number, .ref h_this_holds, .ref h_this_heldOne, .ref h_this_trace, .int x_this_traced, .int x_this_own, .int x_this_isParted]), (h_this_bestPlan, ia G 4 f_this_bestPlan), (h_this_pile, ia G 200 f_this_pile), (h_this_plan, ia G 4 f_this_plan), (h_this_s, ia G 313 f_this_s), (h_this_saved, ia G 325 f_this_saved)]) C h fw_X9_271 0 rfl rfl rfl (Nat.le_of_ble_eq_true rfl) dX9_triesAll_17 rfl (fun H locs h => ?_)
  refine lv_aload_n hx hb dX9_triesAll_20 rfl (lv_at hl 0 rfl) ?_
  refine lv_iconst (v := (0 : Int32)) hx hb dX9_triesAll_21 rfl ?_
  refine lv_aload_n hx hb dX9_triesAll_22 rfl (lv_at hl 0 rfl) ?_
  refine lv_iload_n hx hb dX9_triesAll_23 rfl (lv_at hl 1 rfl) ?_
  replace hf := bd1_inv hf
  obtain ⟨r1, hc2, hf⟩ := hf
  refine r_ciV0 C h (c_X9_daysOf hc2) mv_X9_288 rfl 0 rfl [0, 4] rfl rfl hl.1 rfl (Nat.le_of_ble_eq_true rfl) (rok (by decide)) dX9_triesAll_24 (fun H locs h => ?_)
  refine lv_iconst (v := (0 : Int32)) hx hb dX9_triesAll_27 rfl ?_
  refine lv_iconst (v := (0 : Int32)) hx hb dX9_triesAll_28 rfl ?_
  refine lv_iload_n hx hb dX9_triesAll_29 rfl (lv_at hl 2 rfl) ?_
  replace hf := bd9_inv hf
  obtain ⟨y3, y4, y5, y6, g7, g8, g9, g10, g11, hc12, hf⟩ := hf
  refine r_cvV (ws' := [(h_this, ob 9 [.ref h_this_s, .ref h_this_kept, .ref h_this_laid, .int x_this_isKept, .ref h_this_pile, .ref h_this_tape, .int x_this_taped, .ref h_this_letters, .int x_this_at, .int x_this_begun, .int x_this_token, .int x_this_value, .int x_this_opened, .int x_this_steps, .ref h_this_code0, .ref h_this_read, .ref h_this_saved, .ref h_this_plan, .ref h_this_bestPlan, .int y3, .int y4, .int y5, .int y6, .ref h_this_offThen, .ref h_this_paidThen, .int x_this_firstFit, .ref h_this_rows, .int x_this_rowMany, .ref h_this_sorts, .ref h_this_sizes, .ref h_this_number, .ref h_this_holds, .ref h_this_heldOne, .ref h_this_trace, .int x_this_traced, .int x_this_own, .int x_this_isParted]), (h_this_bestPlan, ia G 4 g7), (h_this_pile, ia G 200 g8), (h_this_plan, ia G 4 g9), (h_this_s, ia G 313 g10), (h_this_saved, ia G 325 g11)]) C h (C_X9_goesPlans 6 hc12) mv_X9_281 rfl 0 rfl [0, 1, 2, 3, 4, 5] rfl rfl rfl rfl rfl hl.1 rfl (Nat.le_of_ble_eq_true rfl) (rok (by decide)) dX9_triesAll_30 (fun H locs h => ?_)
  cases hf
  exact r_vret C h hr hlk dX9_triesAll_33
def f_X9_best (p0 : Int32) (x_this_most : Int32) (x_this_many : Int32) (x_this_few : Int32) (x_this_everHome : Int32) (f_this_bestPlan : Nat → Int32) (f_this_pile : Nat → Int32) (f_this_plan : Nat → Int32) (f_this_s : Nat → Int32) (f_this_saved : Nat → Int32) : Option (Int32 × Int32 × Int32 × Int32 × Int32 × (Nat → Int32) × (Nat → Int32) × (Nat → Int32) × (Nat → Int32) × (Nat → Int32)) := bd1 (f_X9_isPlan p0) (fun r1 => (if r1 = 0 then some ((-1 : Int32), x_this_most, x_this_many, x_this_few, x_this_everHome, f_this_bestPlan, f_this_pile, f_this_plan, f_this_s, f_this_saved) else bd9 (f_X9_triesAll p0 (0 : Int32) f_this_bestPlan f_this_pile f_this_plan f_this_s f_this_saved) (fun y4 y5 y6 y7 g8 g9 g10 g11 g12 => some (y4, y4, y5, y6, y7, g8, g9, g10, g11, g12))))
set_option maxRecDepth 100000 in
set_option maxHeartbeats 4000000 in
theorem c_X9_best {l : Launch} {G : Gt} {h_this h_this_s h_this_kept h_this_laid h_this_pile h_this_tape h_this_letters h_this_code0 h_this_read h_this_saved h_this_plan h_this_bestPlan h_this_offThen h_this_paidThen h_this_rows h_this_sorts h_this_sizes h_this_number h_this_holds h_this_heldOne h_this_trace : Nat} {p0 : Int32} {x_this_isKept : Int32} {x_this_taped : Int32} {x_this_at : Int32} {x_this_begun : Int32} {x_this_token : Int32} {x_this_value : Int32} {x_this_opened : Int32} {x_this_steps : Int32} {x_this_most : Int32} {x_this_many : Int32} {x_this_few : Int32} {x_this_everHome : Int32} {x_this_firstFit : Int32} {x_this_rowMany : Int32} {x_this_traced : Int32} {x_this_own : Int32} {x_this_isParted : Int32} {f_this_bestPlan : Nat → Int32} {f_this_pile : Nat → Int32} {f_this_plan : Nat → Int32} {f_this_s : Nat → Int32} {f_this_saved : Nat → Int32} {r : Int32} {m_this_most : Int32} {m_this_many : Int32} {m_this_few : Int32} {m_this_everHome : Int32} {m_this_bestPlan : Nat → Int32} {m_this_pile : Nat → Int32} {m_this_plan : Nat → Int32} {m_this_s : Nat → Int32} {m_this_saved : Nat → Int32} (hf : f_X9_best p0 x_this_most x_this_many x_this_few x_this_everHome f_this_bestPlan f_this_pile f_this_plan f_this_s f_this_saved = some (r, m_this_most, m_this_many, m_this_few, m_this_everHome, m_this_bestPlan, m_this_pile, m_this_plan, m_this_s, m_this_saved)) : mFi l G yX9_best cX9_best 2 .int 44 [.ref h_this, .int p0] [(h_this, ob 9 [.ref h_this_s, .ref h_this_kept, .ref h_this_laid, .int x_this_isKept, .ref h_this_pile, .ref h_this_tape, .int x_this_taped, .ref h_this_letters, .int x_this_at, .int x_this_begun, .int x_this_token, .int x_this_value, .int x_this_opened, .int x_this_steps, .ref h_this_code0, .ref h_this_read, .ref h_this_saved, .ref h_this_plan, .ref h_this_bestPlan, .int x_this_most, .int x_this_many, .int x_this_few, .int x_this_everHome, .ref h_this_offThen, .ref h_this_paidThen, .int x_this_firstFit, .ref h_this_rows, .int x_this_rowMany, .ref h_this_sorts, .ref h_this_sizes, .ref h_this_number, .ref h_this_holds, .ref h_this_heldOne, .ref h_this_trace, .int x_this_traced, .int x_this_own, .int x_this_isParted]), (h_this_bestPlan, ia G 4 f_this_bestPlan), (h_this_pile, ia G 200 f_this_pile), (h_this_plan, ia G 4 f_this_plan), (h_this_s, ia G 313 f_this_s), (h_this_saved, ia G 325 f_this_saved)] r [(h_this, ob 9 [.ref h_this_s, .ref h_this_kept, .ref h_this_laid, .int x_this_isKept, .ref h_this_pile, .ref h_this_tape, .int x_this_taped, .ref h_this_letters, .int x_this_at, .int x_this_begun, .int x_this_token, .int x_this_value, .int x_this_opened, .int x_this_steps, .ref h_this_code0, .ref h_this_read, .ref h_this_saved, .ref h_this_plan, .ref h_this_bestPlan, .int m_this_most, .int m_this_many, .int m_this_few, .int m_this_everHome, .ref h_this_offThen, .ref h_this_paidThen, .int x_this_firstFit, .ref h_this_rows, .int x_this_rowMany, .ref h_this_sorts, .ref h_this_sizes, .ref h_this_number, .ref h_this_holds, .ref h_this_heldOne, .ref h_this_trace, .int x_this_traced, .int x_this_own, .int x_this_isParted]), (h_this_bestPlan, ia G 4 m_this_bestPlan), (h_this_pile, ia G 200 m_this_pile), (h_this_plan, ia G 4 m_this_plan), (h_this_s, ia G 313 m_this_s), (h_this_saved, ia G 325 m_this_saved)] := by
  refine mFi.of (by decide +kernel) (Nat.le_of_ble_eq_true rfl) ?_
  intro p e s m below meth c A C hr hlk h ls hl
  obtain ⟨hx, hb, hml, hown, hts⟩ := id C
  replace hl : lv_has ls 2 [(0, .ref h_this), (1, .int p0)] := hl
  unfold f_X9_best at hf
  refine lv_iload_n hx hb dX9_best_0 rfl (lv_at hl 1 rfl) ?_
  replace hf := bd1_inv hf
  obtain ⟨r1, hc2, hf⟩ := hf
  refine r_ciS0 C h (c_X9_isPlan hc2) ms_X9_291 rfl [] rfl rfl hl.1 rfl (Nat.le_of_ble_eq_true rfl) (rok (by decide)) dX9_best_1 (fun H locs h => ?_)
  refine lv_if_ne (tgt := 9) hx hb dX9_best_4 rfl (fun c3 => ?_) (fun c3 => ?_)
  · replace hf := ifn c3 hf
    refine lv_aload_n hx hb dX9_best_9 rfl (lv_at hl 0 rfl) ?_
    refine lv_iload_n hx hb dX9_best_10 rfl (lv_at hl 1 rfl) ?_
    refine lv_iconst (v := (0 : Int32)) hx hb dX9_best_11 rfl ?_
    replace hf := bd9_inv hf
    obtain ⟨y4, y5, y6, y7, g8, g9, g10, g11, g12, hc13, hf⟩ := hf
    refine r_cvV (ws' := [(h_this, ob 9 [.ref h_this_s, .ref h_this_kept, .ref h_this_laid, .int x_this_isKept, .ref h_this_pile, .ref h_this_tape, .int x_this_taped, .ref h_this_letters, .int x_this_at, .int x_this_begun, .int x_this_token, .int x_this_value, .int x_this_opened, .int x_this_steps, .ref h_this_code0, .ref h_this_read, .ref h_this_saved, .ref h_this_plan, .ref h_this_bestPlan, .int y4, .int y5, .int y6, .int y7, .ref h_this_offThen, .ref h_this_paidThen, .int x_this_firstFit, .ref h_this_rows, .int x_this_rowMany, .ref h_this_sorts, .ref h_this_sizes, .ref h_this_number, .ref h_this_holds, .ref h_this_heldOne, .ref h_this_trace, .int x_this_traced, .int x_this_own, .int x_this_isParted]), (h_this_bestPlan, ia G 4 g8), (h_this_pile, ia G 200 g9), (h_this_plan, ia G 4 g10), (h_this_s, ia G 313 g11), (h_this_saved, ia G 325 g12)]) C h (c_X9_triesAll hc13) mv_X9_294 rfl 0 rfl [0, 1, 2, 3, 4, 5] rfl rfl rfl rfl rfl hl.1 rfl (Nat.le_of_ble_eq_true rfl) (rok (by decide)) dX9_best_12 (fun H locs h => ?_)
    refine lv_aload_n hx hb dX9_best_15 rfl (lv_at hl 0 rfl) ?_
    refine r_get C h fk_X9_262 0 rfl rfl dX9_best_16 ?_
    cases hf
    exact r_iret C h hr hlk rfl dX9_best_19
  · replace hf := ifp c3 hf
    refine lv_iconst (v := (-1 : Int32)) hx hb dX9_best_7 rfl ?_
    cases hf
    exact r_iret C h hr hlk rfl dX9_best_8
def f_X9_ith (p0 : Int32) (p1 : Int32) (x_this_most : Int32) (x_this_many : Int32) (x_this_few : Int32) (x_this_everHome : Int32) (f_this_bestPlan : Nat → Int32) (f_this_pile : Nat → Int32) (f_this_plan : Nat → Int32) (f_this_s : Nat → Int32) (f_this_saved : Nat → Int32) : Option (Int32 × Int32 × Int32 × Int32 × Int32 × (Nat → Int32) × (Nat → Int32) × (Nat → Int32) × (Nat → Int32) × (Nat → Int32)) := bd1 (f_X9_isPlan p0) (fun r1 => (if r1 = 0 then some ((-1 : Int32), x_this_most, x_this_many, x_this_few, x_this_everHome, f_this_bestPlan, f_this_pile, f_this_plan, f_this_s, f_this_saved) else bd1 (f_X9_in1 p1 (0 : Int32) (3 : Int32)) (fun r4 => (if r4 = 0 then some ((-1 : Int32), x_this_most, x_this_many, x_this_few, x_this_everHome, f_this_bestPlan, f_this_pile, f_this_plan, f_this_s, f_this_saved) else bd9 (f_X9_triesAll p0 (0 : Int32) f_this_bestPlan f_this_pile f_this_plan f_this_s f_this_saved) (fun y7 y8 y9 y10 g11 g12 g13 g14 g15 => bd1 (f_X9_daysOf p0 g14) (fun r17 => (if r17 ≤ p1 then some ((-3 : Int32), y7, y8, y9, y10, g11, g12, g13, g14, g15) else chkI p1 4 (some (g11 p1.toNatClampNeg, y7, y8, y9, y10, g11, g12, g13, g14, g15)))))))))
set_option maxRecDepth 100000 in
set_option maxHeartbeats 4000000 in
theorem c_X9_ith {l : Launch} {G : Gt} {h_this h_this_s h_this_kept h_this_laid h_this_pile h_this_tape h_this_letters h_this_code0 h_this_read h_this_saved h_this_plan h_this_bestPlan h_this_offThen h_this_paidThen h_this_rows h_this_sorts h_this_sizes h_this_number h_this_holds h_this_heldOne h_this_trace : Nat} {p0 : Int32} {p1 : Int32} {x_this_isKept : Int32} {x_this_taped : Int32} {x_this_at : Int32} {x_this_begun : Int32} {x_this_token : Int32} {x_this_value : Int32} {x_this_opened : Int32} {x_this_steps : Int32} {x_this_most : Int32} {x_this_many : Int32} {x_this_few : Int32} {x_this_everHome : Int32} {x_this_firstFit : Int32} {x_this_rowMany : Int32} {x_this_traced : Int32} {x_this_own : Int32} {x_this_isParted : Int32} {f_this_bestPlan : Nat → Int32} {f_this_pile : Nat → Int32} {f_this_plan : Nat → Int32} {f_this_s : Nat → Int32} {f_this_saved : Nat → Int32} {r : Int32} {m_this_most : Int32} {m_this_many : Int32} {m_this_few : Int32} {m_this_everHome : Int32} {m_this_bestPlan : Nat → Int32} {m_this_pile : Nat → Int32} {m_this_plan : Nat → Int32} {m_this_s : Nat → Int32} {m_this_saved : Nat → Int32} (hf : f_X9_ith p0 p1 x_this_most x_this_many x_this_few x_this_everHome f_this_bestPlan f_this_pile f_this_plan f_this_s f_this_saved = some (r, m_this_most, m_this_many, m_this_few, m_this_everHome, m_this_bestPlan, m_this_pile, m_this_plan, m_this_s, m_this_saved)) : mFi l G yX9_ith cX9_ith 3 .int 44 [.ref h_this, .int p0, .int p1] [(h_this, ob 9 [.ref h_this_s, .ref h_this_kept, .ref h_this_laid, .int x_this_isKept, .ref h_this_pile, .ref h_this_tape, .int x_this_taped, .ref h_this_letters, .int x_this_at, .int x_this_begun, .int x_this_token, .int x_this_value, .int x_this_opened, .int x_this_steps, .ref h_this_code0, .ref h_this_read, .ref h_this_saved, .ref h_this_plan, .ref h_this_bestPlan, .int x_this_most, .int x_this_many, .int x_this_few, .int x_this_everHome, .ref h_this_offThen, .ref h_this_paidThen, .int x_this_firstFit, .ref h_this_rows, .int x_this_rowMany, .ref h_this_sorts, .ref h_this_sizes, .ref h_this_number, .ref h_this_holds, .ref h_this_heldOne, .ref h_this_trace, .int x_this_traced, .int x_this_own, .int x_this_isParted]), (h_this_bestPlan, ia G 4 f_this_bestPlan), (h_this_pile, ia G 200 f_this_pile), (h_this_plan, ia G 4 f_this_plan), (h_this_s, ia G 313 f_this_s), (h_this_saved, ia G 325 f_this_saved)] r [(h_this, ob 9 [.ref h_this_s, .ref h_this_kept, .ref h_this_laid, .int x_this_isKept, .ref h_this_pile, .ref h_this_tape, .int x_this_taped, .ref h_this_letters, .int x_this_at, .int x_this_begun, .int x_this_token, .int x_this_value, .int x_this_opened, .int x_this_steps, .ref h_this_code0, .ref h_this_read, .ref h_this_saved, .ref h_this_plan, .ref h_this_bestPlan, .int m_this_most, .int m_this_many, .int m_this_few, .int m_this_everHome, .ref h_this_offThen, .ref h_this_paidThen, .int x_this_firstFit, .ref h_this_rows, .int x_this_rowMany, .ref h_this_sorts, .ref h_this_sizes, .ref h_this_number, .ref h_this_holds, .ref h_this_heldOne, .ref h_this_trace, .int x_this_traced, .int x_this_own, .int x_this_isParted]), (h_this_bestPlan, ia G 4 m_this_bestPlan), (h_this_pile, ia G 200 m_this_pile), (h_this_plan, ia G 4 m_this_plan), (h_this_s, ia G 313 m_this_s), (h_this_saved, ia G 325 m_this_saved)] := by
  refine mFi.of (by decide +kernel) (Nat.le_of_ble_eq_true rfl) ?_
  intro p e s m below meth c A C hr hlk h ls hl
  obtain ⟨hx, hb, hml, hown, hts⟩ := id C
  replace hl : lv_has ls 3 [(0, .ref h_this), (1, .int p0), (2, .int p1)] := hl
  unfold f_X9_ith at hf
  refine lv_iload_n hx hb dX9_ith_0 rfl (lv_at hl 1 rfl) ?_
  replace hf := bd1_inv hf
  obtain ⟨r1, hc2, hf⟩ := hf
  refine r_ciS0 C h (c_X9_isPlan hc2) ms_X9_291 rfl [] rfl rfl hl.1 rfl (Nat.le_of_ble_eq_true rfl) (rok (by decide)) dX9_ith_1 (fun H locs h => ?_)
  refine lv_if_eq (tgt := 16) hx hb dX9_ith_4 rfl (fun c3 => ?_) (fun c3 => ?_)
  · replace hf := ifp c3 hf
    refine lv_iconst (v := (-1 : Int32)) hx hb dX9_ith_16 rfl ?_
    cases hf
    exact r_iret C h hr hlk rfl dX9_ith_17
  · replace hf := ifn c3 hf
    refine lv_iload_n hx hb dX9_ith_7 rfl (lv_at hl 2 rfl) ?_
    refine lv_iconst (v := (0 : Int32)) hx hb dX9_ith_8 rfl ?_
    refine lv_iconst (v := (3 : Int32)) hx hb dX9_ith_9 rfl ?_
    replace hf := bd1_inv hf
    obtain ⟨r4, hc5, hf⟩ := hf
    refine r_ciS0 C h (c_X9_in1 hc5) ms_X9_71 rfl [] rfl rfl hl.1 rfl (Nat.le_of_ble_eq_true rfl) (rok (by decide)) dX9_ith_10 (fun H locs h => ?_)
    refine lv_if_ne (tgt := 18) hx hb dX9_ith_13 rfl (fun c6 => ?_) (fun c6 => ?_)
    · replace hf := ifn c6 hf
      refine lv_aload_n hx hb dX9_ith_18 rfl (lv_at hl 0 rfl) ?_
      refine lv_iload_n hx hb dX9_ith_19 rfl (lv_at hl 1 rfl) ?_
      refine lv_iconst (v := (0 : Int32)) hx hb dX9_ith_20 rfl ?_
      replace hf := bd9_inv hf
      obtain ⟨y7, y8, y9, y10, g11, g12, g13, g14, g15, hc16, hf⟩ := hf
      refine r_cvV (ws' := [(h_this, ob 9 [.ref h_this_s, .ref h_this_kept, .ref h_this_laid, .int x_this_isKept, .ref h_this_pile, .ref h_this_tape, .int x_this_taped, .ref h_this_letters, .int x_this_at, .int x_this_begun, .int x_this_token, .int x_this_value, .int x_this_opened, .int x_this_steps, .ref h_this_code0, .ref h_this_read, .ref h_this_saved, .ref h_this_plan, .ref h_this_bestPlan, .int y7, .int y8, .int y9, .int y10, .ref h_this_offThen, .ref h_this_paidThen, .int x_this_firstFit, .ref h_this_rows, .int x_this_rowMany, .ref h_this_sorts, .ref h_this_sizes, .ref h_this_number, .ref h_this_holds, .ref h_this_heldOne, .ref h_this_trace, .int x_this_traced, .int x_this_own, .int x_this_isParted]), (h_this_bestPlan, ia G 4 g11), (h_this_pile, ia G 200 g12), (h_this_plan, ia G 4 g13), (h_this_s, ia G 313 g14), (h_this_saved, ia G 325 g15)]) C h (c_X9_triesAll hc16) mv_X9_294 rfl 0 rfl [0, 1, 2, 3, 4, 5] rfl rfl rfl rfl rfl hl.1 rfl (Nat.le_of_ble_eq_true rfl) (rok (by decide)) dX9_ith_21 (fun H locs h => ?_)
      refine lv_iload_n hx hb dX9_ith_24 rfl (lv_at hl 2 rfl) ?_
      refine lv_aload_n hx hb dX9_ith_25 rfl (lv_at hl 0 rfl) ?_
      refine lv_iload_n hx hb dX9_ith_26 rfl (lv_at hl 1 rfl) ?_
      replace hf := bd1_inv hf
      obtain ⟨r17, hc18, hf⟩ := hf
      refine r_ciV0 C h (c_X9_daysOf hc18) mv_X9_288 rfl 0 rfl [0, 4] rfl rfl hl.1 rfl (Nat.le_of_ble_eq_true rfl) (rok (by decide)) dX9_ith_27 (fun H locs h => ?_)
      refine lv_icmp_ge (tgt := 42) hx hb dX9_ith_30 rfl (fun c19 => ?_) (fun c19 => ?_)
      · replace hf := ifp c19 hf
        refine lv_bipush (v := (-3 : Int32)) hx hb dX9_ith_42 rfl ?_
        cases hf
        exact r_iret C h hr hlk rfl dX9_ith_44
      · replace hf := ifn c19 hf
        refine lv_aload_n hx hb dX9_ith_33 rfl (lv_at hl 0 rfl) ?_
        refine r_get C h fk_X9_41 0 rfl rfl dX9_ith_34 ?_
        refine lv_iload_n hx hb dX9_ith_37 rfl (lv_at hl 2 rfl) ?_
        replace hf := chkI_inv hf
        obtain ⟨hi20, hf⟩ := hf
        refine r_iald C h 1 rfl hi20 dX9_ith_38 ?_
        refine lv_goto (tgt := 44) hx hb dX9_ith_39 rfl ?_
        cases hf
        exact r_iret C h hr hlk rfl dX9_ith_44
    · replace hf := ifp c6 hf
      refine lv_iconst (v := (-1 : Int32)) hx hb dX9_ith_16 rfl ?_
      cases hf
      exact r_iret C h hr hlk rfl dX9_ith_17
def f_X9_ways (p0 : Int32) (x_this_most : Int32) (x_this_many : Int32) (x_this_few : Int32) (x_this_everHome : Int32) (f_this_bestPlan : Nat → Int32) (f_this_pile : Nat → Int32) (f_this_plan : Nat → Int32) (f_this_s : Nat → Int32) (f_this_saved : Nat → Int32) : Option (Int32 × Int32 × Int32 × Int32 × Int32 × (Nat → Int32) × (Nat → Int32) × (Nat → Int32) × (Nat → Int32) × (Nat → Int32)) := bd1 (f_X9_isPlan p0) (fun r1 => (if r1 = 0 then some ((-1 : Int32), x_this_most, x_this_many, x_this_few, x_this_everHome, f_this_bestPlan, f_this_pile, f_this_plan, f_this_s, f_this_saved) else bd9 (f_X9_triesAll p0 (0 : Int32) f_this_bestPlan f_this_pile f_this_plan f_this_s f_this_saved) (fun y4 y5 y6 y7 g8 g9 g10 g11 g12 => some (y5, y4, y5, y6, y7, g8, g9, g10, g11, g12))))
set_option maxRecDepth 100000 in
set_option maxHeartbeats 4000000 in
theorem c_X9_ways {l : Launch} {G : Gt} {h_this h_this_s h_this_kept h_this_laid h_this_pile h_this_tape h_this_letters h_this_code0 h_this_read h_this_saved h_this_plan h_this_bestPlan h_this_offThen h_this_paidThen h_this_rows h_this_sorts h_this_sizes h_this_number h_this_holds h_this_heldOne h_this_trace : Nat} {p0 : Int32} {x_this_isKept : Int32} {x_this_taped : Int32} {x_this_at : Int32} {x_this_begun : Int32} {x_this_token : Int32} {x_this_value : Int32} {x_this_opened : Int32} {x_this_steps : Int32} {x_this_most : Int32} {x_this_many : Int32} {x_this_few : Int32} {x_this_everHome : Int32} {x_this_firstFit : Int32} {x_this_rowMany : Int32} {x_this_traced : Int32} {x_this_own : Int32} {x_this_isParted : Int32} {f_this_bestPlan : Nat → Int32} {f_this_pile : Nat → Int32} {f_this_plan : Nat → Int32} {f_this_s : Nat → Int32} {f_this_saved : Nat → Int32} {r : Int32} {m_this_most : Int32} {m_this_many : Int32} {m_this_few : Int32} {m_this_everHome : Int32} {m_this_bestPlan : Nat → Int32} {m_this_pile : Nat → Int32} {m_this_plan : Nat → Int32} {m_this_s : Nat → Int32} {m_this_saved : Nat → Int32} (hf : f_X9_ways p0 x_this_most x_this_many x_this_few x_this_everHome f_this_bestPlan f_this_pile f_this_plan f_this_s f_this_saved = some (r, m_this_most, m_this_many, m_this_few, m_this_everHome, m_this_bestPlan, m_this_pile, m_this_plan, m_this_s, m_this_saved)) : mFi l G yX9_ways cX9_ways 2 .int 44 [.ref h_this, .int p0] [(h_this, ob 9 [.ref h_this_s, .ref h_this_kept, .ref h_this_laid, .int x_this_isKept, .ref h_this_pile, .ref h_this_tape, .int x_this_taped, .ref h_this_letters, .int x_this_at, .int x_this_begun, .int x_this_token, .int x_this_value, .int x_this_opened, .int x_this_steps, .ref h_this_code0, .ref h_this_read, .ref h_this_saved, .ref h_this_plan, .ref h_this_bestPlan, .int x_this_most, .int x_this_many, .int x_this_few, .int x_this_everHome, .ref h_this_offThen, .ref h_this_paidThen, .int x_this_firstFit, .ref h_this_rows, .int x_this_rowMany, .ref h_this_sorts, .ref h_this_sizes, .ref h_this_number, .ref h_this_holds, .ref h_this_heldOne, .ref h_this_trace, .int x_this_traced, .int x_this_own, .int x_this_isParted]), (h_this_bestPlan, ia G 4 f_this_bestPlan), (h_this_pile, ia G 200 f_this_pile), (h_this_plan, ia G 4 f_this_plan), (h_this_s, ia G 313 f_this_s), (h_this_saved, ia G 325 f_this_saved)] r [(h_this, ob 9 [.ref h_this_s, .ref h_this_kept, .ref h_this_laid, .int x_this_isKept, .ref h_this_pile, .ref h_this_tape, .int x_this_taped, .ref h_this_letters, .int x_this_at, .int x_this_begun, .int x_this_token, .int x_this_value, .int x_this_opened, .int x_this_steps, .ref h_this_code0, .ref h_this_read, .ref h_this_saved, .ref h_this_plan, .ref h_this_bestPlan, .int m_this_most, .int m_this_many, .int m_this_few, .int m_this_everHome, .ref h_this_offThen, .ref h_this_paidThen, .int x_this_firstFit, .ref h_this_rows, .int x_this_rowMany, .ref h_this_sorts, .ref h_this_sizes, .ref h_this_number, .ref h_this_holds, .ref h_this_heldOne, .ref h_this_trace, .int x_this_traced, .int x_this_own, .int x_this_isParted]), (h_this_bestPlan, ia G 4 m_this_bestPlan), (h_this_pile, ia G 200 m_this_pile), (h_this_plan, ia G 4 m_this_plan), (h_this_s, ia G 313 m_this_s), (h_this_saved, ia G 325 m_this_saved)] := by
  refine mFi.of (by decide +kernel) (Nat.le_of_ble_eq_true rfl) ?_
  intro p e s m below meth c A C hr hlk h ls hl
  obtain ⟨hx, hb, hml, hown, hts⟩ := id C
  replace hl : lv_has ls 2 [(0, .ref h_this), (1, .int p0)] := hl
  unfold f_X9_ways at hf
  refine lv_iload_n hx hb dX9_ways_0 rfl (lv_at hl 1 rfl) ?_
  replace hf := bd1_inv hf
  obtain ⟨r1, hc2, hf⟩ := hf
  refine r_ciS0 C h (c_X9_isPlan hc2) ms_X9_291 rfl [] rfl rfl hl.1 rfl (Nat.le_of_ble_eq_true rfl) (rok (by decide)) dX9_ways_1 (fun H locs h => ?_)
  refine lv_if_ne (tgt := 9) hx hb dX9_ways_4 rfl (fun c3 => ?_) (fun c3 => ?_)
  · replace hf := ifn c3 hf
    refine lv_aload_n hx hb dX9_ways_9 rfl (lv_at hl 0 rfl) ?_
    refine lv_iload_n hx hb dX9_ways_10 rfl (lv_at hl 1 rfl) ?_
    refine lv_iconst (v := (0 : Int32)) hx hb dX9_ways_11 rfl ?_
    replace hf := bd9_inv hf
    obtain ⟨y4, y5, y6, y7, g8, g9, g10, g11, g12, hc13, hf⟩ := hf
    refine r_cvV (ws' := [(h_this, ob 9 [.ref h_this_s, .ref h_this_kept, .ref h_this_laid, .int x_this_isKept, .ref h_this_pile, .ref h_this_tape, .int x_this_taped, .ref h_this_letters, .int x_this_at, .int x_this_begun, .int x_this_token, .int x_this_value, .int x_this_opened, .int x_this_steps, .ref h_this_code0, .ref h_this_read, .ref h_this_saved, .ref h_this_plan, .ref h_this_bestPlan, .int y4, .int y5, .int y6, .int y7, .ref h_this_offThen, .ref h_this_paidThen, .int x_this_firstFit, .ref h_this_rows, .int x_this_rowMany, .ref h_this_sorts, .ref h_this_sizes, .ref h_this_number, .ref h_this_holds, .ref h_this_heldOne, .ref h_this_trace, .int x_this_traced, .int x_this_own, .int x_this_isParted]), (h_this_bestPlan, ia G 4 g8), (h_this_pile, ia G 200 g9), (h_this_plan, ia G 4 g10), (h_this_s, ia G 313 g11), (h_this_saved, ia G 325 g12)]) C h (c_X9_triesAll hc13) mv_X9_294 rfl 0 rfl [0, 1, 2, 3, 4, 5] rfl rfl rfl rfl rfl hl.1 rfl (Nat.le_of_ble_eq_true rfl) (rok (by decide)) dX9_ways_12 (fun H locs h => ?_)
    refine lv_aload_n hx hb dX9_ways_15 rfl (lv_at hl 0 rfl) ?_
    refine r_get C h fk_X9_265 0 rfl rfl dX9_ways_16 ?_
    cases hf
    exact r_iret C h hr hlk rfl dX9_ways_19
  · replace hf := ifp c3 hf
    refine lv_iconst (v := (-1 : Int32)) hx hb dX9_ways_7 rfl ?_
    cases hf
    exact r_iret C h hr hlk rfl dX9_ways_8
def f_X9_isSet (p0 : Int32) (f_this_s : Nat → Int32) : Option (Int32) := bd1 (f_X9_in1 p0 (0 : Int32) (((1 : Int32) <<< ((f_this_s 4) &&& 31)) - (1 : Int32))) (fun r1 => chkB r1 (some r1))
set_option maxRecDepth 100000 in
set_option maxHeartbeats 4000000 in
theorem c_X9_isSet {l : Launch} {G : Gt} {h_this h_this_s h_this_kept h_this_laid h_this_pile h_this_tape h_this_letters h_this_code0 h_this_read h_this_saved h_this_plan h_this_bestPlan h_this_offThen h_this_paidThen h_this_rows h_this_sorts h_this_sizes h_this_number h_this_holds h_this_heldOne h_this_trace : Nat} {p0 : Int32} {x_this_isKept : Int32} {x_this_taped : Int32} {x_this_at : Int32} {x_this_begun : Int32} {x_this_token : Int32} {x_this_value : Int32} {x_this_opened : Int32} {x_this_steps : Int32} {x_this_most : Int32} {x_this_many : Int32} {x_this_few : Int32} {x_this_everHome : Int32} {x_this_firstFit : Int32} {x_this_rowMany : Int32} {x_this_traced : Int32} {x_this_own : Int32} {x_this_isParted : Int32} {f_this_s : Nat → Int32} {r : Int32} (hf : f_X9_isSet p0 f_this_s = some r) : mFi l G yX9_isSet cX9_isSet 2 .boolean 1 [.ref h_this, .int p0] [(h_this, ob 9 [.ref h_this_s, .ref h_this_kept, .ref h_this_laid, .int x_this_isKept, .ref h_this_pile, .ref h_this_tape, .int x_this_taped, .ref h_this_letters, .int x_this_at, .int x_this_begun, .int x_this_token, .int x_this_value, .int x_this_opened, .int x_this_steps, .ref h_this_code0, .ref h_this_read, .ref h_this_saved, .ref h_this_plan, .ref h_this_bestPlan, .int x_this_most, .int x_this_many, .int x_this_few, .int x_this_everHome, .ref h_this_offThen, .ref h_this_paidThen, .int x_this_firstFit, .ref h_this_rows, .int x_this_rowMany, .ref h_this_sorts, .ref h_this_sizes, .ref h_this_number, .ref h_this_holds, .ref h_this_heldOne, .ref h_this_trace, .int x_this_traced, .int x_this_own, .int x_this_isParted]), (h_this_s, ia G 313 f_this_s)] r [(h_this, ob 9 [.ref h_this_s, .ref h_this_kept, .ref h_this_laid, .int x_this_isKept, .ref h_this_pile, .ref h_this_tape, .int x_this_taped, .ref h_this_letters, .int x_this_at, .int x_this_begun, .int x_this_token, .int x_this_value, .int x_this_opened, .int x_this_steps, .ref h_this_code0, .ref h_this_read, .ref h_this_saved, .ref h_this_plan, .ref h_this_bestPlan, .int x_this_most, .int x_this_many, .int x_this_few, .int x_this_everHome, .ref h_this_offThen, .ref h_this_paidThen, .int x_this_firstFit, .ref h_this_rows, .int x_this_rowMany, .ref h_this_sorts, .ref h_this_sizes, .ref h_this_number, .ref h_this_holds, .ref h_this_heldOne, .ref h_this_trace, .int x_this_traced, .int x_this_own, .int x_this_isParted]), (h_this_s, ia G 313 f_this_s)] := by
  refine mFi.of (by decide +kernel) (Nat.le_of_ble_eq_true rfl) ?_
  intro p e s m below meth c A C hr hlk h ls hl
  obtain ⟨hx, hb, hml, hown, hts⟩ := id C
  replace hl : lv_has ls 2 [(0, .ref h_this), (1, .int p0)] := hl
  unfold f_X9_isSet at hf
  refine lv_iload_n hx hb dX9_isSet_0 rfl (lv_at hl 1 rfl) ?_
  refine lv_iconst (v := (0 : Int32)) hx hb dX9_isSet_1 rfl ?_
  refine lv_iconst (v := (1 : Int32)) hx hb dX9_isSet_2 rfl ?_
  refine lv_aload_n hx hb dX9_isSet_3 rfl (lv_at hl 0 rfl) ?_
  refine r_get C h fk_X9_9 0 rfl rfl dX9_isSet_4 ?_
  refine lv_iconst (v := (4 : Int32)) hx hb dX9_isSet_7 rfl ?_
  refine r_ialdL C h 1 rfl (vlit rfl) 4 rfl dX9_isSet_8 ?_
  refine lv_ishl hx hb dX9_isSet_9 ?_
  refine lv_iconst (v := (1 : Int32)) hx hb dX9_isSet_10 rfl ?_
  refine lv_isub hx hb dX9_isSet_11 ?_
  replace hf := bd1_inv hf
  obtain ⟨r1, hc2, hf⟩ := hf
  refine r_ciS0 C h (c_X9_in1 hc2) ms_X9_71 rfl [] rfl rfl hl.1 rfl (Nat.le_of_ble_eq_true rfl) (rok (by decide)) dX9_isSet_12 (fun H locs h => ?_)
  replace hf := chkB_inv hf
  obtain ⟨hb3, hf⟩ := hf
  cases hf
  exact r_iret C h hr hlk hb3 dX9_isSet_15
def f_X9_log (p0 : Int32) (p1 : Int32) (x_this_most : Int32) (x_this_many : Int32) (x_this_few : Int32) (x_this_everHome : Int32) (f_this_bestPlan : Nat → Int32) (f_this_pile : Nat → Int32) (f_this_plan : Nat → Int32) (f_this_s : Nat → Int32) (f_this_saved : Nat → Int32) : Option (Int32 × Int32 × Int32 × Int32 × Int32 × (Nat → Int32) × (Nat → Int32) × (Nat → Int32) × (Nat → Int32) × (Nat → Int32)) := bd1 (f_X9_isPlan p0) (fun r1 => (if r1 = 0 then some ((-1 : Int32), x_this_most, x_this_many, x_this_few, x_this_everHome, f_this_bestPlan, f_this_pile, f_this_plan, f_this_s, f_this_saved) else bd1 (f_X9_isSet p1 f_this_s) (fun r4 => (if r4 = 0 then some ((-1 : Int32), x_this_most, x_this_many, x_this_few, x_this_everHome, f_this_bestPlan, f_this_pile, f_this_plan, f_this_s, f_this_saved) else bd9 (f_X9_triesAll p0 p1 f_this_bestPlan f_this_pile f_this_plan f_this_s f_this_saved) (fun y7 y8 y9 y10 g11 g12 g13 g14 g15 => (if y9 ≤ (4 : Int32) then some (y9, y7, y8, y9, y10, g11, g12, g13, g14, g15) else some ((-3 : Int32), y7, y8, y9, y10, g11, g12, g13, g14, g15)))))))
set_option maxRecDepth 100000 in
set_option maxHeartbeats 4000000 in
theorem c_X9_log {l : Launch} {G : Gt} {h_this h_this_s h_this_kept h_this_laid h_this_pile h_this_tape h_this_letters h_this_code0 h_this_read h_this_saved h_this_plan h_this_bestPlan h_this_offThen h_this_paidThen h_this_rows h_this_sorts h_this_sizes h_this_number h_this_holds h_this_heldOne h_this_trace : Nat} {p0 : Int32} {p1 : Int32} {x_this_isKept : Int32} {x_this_taped : Int32} {x_this_at : Int32} {x_this_begun : Int32} {x_this_token : Int32} {x_this_value : Int32} {x_this_opened : Int32} {x_this_steps : Int32} {x_this_most : Int32} {x_this_many : Int32} {x_this_few : Int32} {x_this_everHome : Int32} {x_this_firstFit : Int32} {x_this_rowMany : Int32} {x_this_traced : Int32} {x_this_own : Int32} {x_this_isParted : Int32} {f_this_bestPlan : Nat → Int32} {f_this_pile : Nat → Int32} {f_this_plan : Nat → Int32} {f_this_s : Nat → Int32} {f_this_saved : Nat → Int32} {r : Int32} {m_this_most : Int32} {m_this_many : Int32} {m_this_few : Int32} {m_this_everHome : Int32} {m_this_bestPlan : Nat → Int32} {m_this_pile : Nat → Int32} {m_this_plan : Nat → Int32} {m_this_s : Nat → Int32} {m_this_saved : Nat → Int32} (hf : f_X9_log p0 p1 x_this_most x_this_many x_this_few x_this_everHome f_this_bestPlan f_this_pile f_this_plan f_this_s f_this_saved = some (r, m_this_most, m_this_many, m_this_few, m_this_everHome, m_this_bestPlan, m_this_pile, m_this_plan, m_this_s, m_this_saved)) : mFi l G yX9_log cX9_log 3 .int 44 [.ref h_this, .int p0, .int p1] [(h_this, ob 9 [.ref h_this_s, .ref h_this_kept, .ref h_this_laid, .int x_this_isKept, .ref h_this_pile, .ref h_this_tape, .int x_this_taped, .ref h_this_letters, .int x_this_at, .int x_this_begun, .int x_this_token, .int x_this_value, .int x_this_opened, .int x_this_steps, .ref h_this_code0, .ref h_this_read, .ref h_this_saved, .ref h_this_plan, .ref h_this_bestPlan, .int x_this_most, .int x_this_many, .int x_this_few, .int x_this_everHome, .ref h_this_offThen, .ref h_this_paidThen, .int x_this_firstFit, .ref h_this_rows, .int x_this_rowMany, .ref h_this_sorts, .ref h_this_sizes, .ref h_this_number, .ref h_this_holds, .ref h_this_heldOne, .ref h_this_trace, .int x_this_traced, .int x_this_own, .int x_this_isParted]), (h_this_bestPlan, ia G 4 f_this_bestPlan), (h_this_pile, ia G 200 f_this_pile), (h_this_plan, ia G 4 f_this_plan), (h_this_s, ia G 313 f_this_s), (h_this_saved, ia G 325 f_this_saved)] r [(h_this, ob 9 [.ref h_this_s, .ref h_this_kept, .ref h_this_laid, .int x_this_isKept, .ref h_this_pile, .ref h_this_tape, .int x_this_taped, .ref h_this_letters, .int x_this_at, .int x_this_begun, .int x_this_token, .int x_this_value, .int x_this_opened, .int x_this_steps, .ref h_this_code0, .ref h_this_read, .ref h_this_saved, .ref h_this_plan, .ref h_this_bestPlan, .int m_this_most, .int m_this_many, .int m_this_few, .int m_this_everHome, .ref h_this_offThen, .ref h_this_paidThen, .int x_this_firstFit, .ref h_this_rows, .int x_this_rowMany, .ref h_this_sorts, .ref h_this_sizes, .ref h_this_number, .ref h_this_holds, .ref h_this_heldOne, .ref h_this_trace, .int x_this_traced, .int x_this_own, .int x_this_isParted]), (h_this_bestPlan, ia G 4 m_this_bestPlan), (h_this_pile, ia G 200 m_this_pile), (h_this_plan, ia G 4 m_this_plan), (h_this_s, ia G 313 m_this_s), (h_this_saved, ia G 325 m_this_saved)] := by
  refine mFi.of (by decide +kernel) (Nat.le_of_ble_eq_true rfl) ?_
  intro p e s m below meth c A C hr hlk h ls hl
  obtain ⟨hx, hb, hml, hown, hts⟩ := id C
  replace hl : lv_has ls 3 [(0, .ref h_this), (1, .int p0), (2, .int p1)] := hl
  unfold f_X9_log at hf
  refine lv_iload_n hx hb dX9_log_0 rfl (lv_at hl 1 rfl) ?_
  replace hf := bd1_inv hf
  obtain ⟨r1, hc2, hf⟩ := hf
  refine r_ciS0 C h (c_X9_isPlan hc2) ms_X9_291 rfl [] rfl rfl hl.1 rfl (Nat.le_of_ble_eq_true rfl) (rok (by decide)) dX9_log_1 (fun H locs h => ?_)
  refine lv_if_eq (tgt := 15) hx hb dX9_log_4 rfl (fun c3 => ?_) (fun c3 => ?_)
  · replace hf := ifp c3 hf
    refine lv_iconst (v := (-1 : Int32)) hx hb dX9_log_15 rfl ?_
    cases hf
    exact r_iret C h hr hlk rfl dX9_log_16
  · replace hf := ifn c3 hf
    refine lv_aload_n hx hb dX9_log_7 rfl (lv_at hl 0 rfl) ?_
    refine lv_iload_n hx hb dX9_log_8 rfl (lv_at hl 2 rfl) ?_
    replace hf := bd1_inv hf
    obtain ⟨r4, hc5, hf⟩ := hf
    refine r_ciV0 C h (c_X9_isSet hc5) mv_X9_298 rfl 0 rfl [0, 4] rfl rfl hl.1 rfl (Nat.le_of_ble_eq_true rfl) (rok (by decide)) dX9_log_9 (fun H locs h => ?_)
    refine lv_if_ne (tgt := 17) hx hb dX9_log_12 rfl (fun c6 => ?_) (fun c6 => ?_)
    · replace hf := ifn c6 hf
      refine lv_aload_n hx hb dX9_log_17 rfl (lv_at hl 0 rfl) ?_
      refine lv_iload_n hx hb dX9_log_18 rfl (lv_at hl 1 rfl) ?_
      refine lv_iload_n hx hb dX9_log_19 rfl (lv_at hl 2 rfl) ?_
      replace hf := bd9_inv hf
      obtain ⟨y7, y8, y9, y10, g11, g12, g13, g14, g15, hc16, hf⟩ := hf
      refine r_cvV (ws' := [(h_this, ob 9 [.ref h_this_s, .ref h_this_kept, .ref h_this_laid, .int x_this_isKept, .ref h_this_pile, .ref h_this_tape, .int x_this_taped, .ref h_this_letters, .int x_this_at, .int x_this_begun, .int x_this_token, .int x_this_value, .int x_this_opened, .int x_this_steps, .ref h_this_code0, .ref h_this_read, .ref h_this_saved, .ref h_this_plan, .ref h_this_bestPlan, .int y7, .int y8, .int y9, .int y10, .ref h_this_offThen, .ref h_this_paidThen, .int x_this_firstFit, .ref h_this_rows, .int x_this_rowMany, .ref h_this_sorts, .ref h_this_sizes, .ref h_this_number, .ref h_this_holds, .ref h_this_heldOne, .ref h_this_trace, .int x_this_traced, .int x_this_own, .int x_this_isParted]), (h_this_bestPlan, ia G 4 g11), (h_this_pile, ia G 200 g12), (h_this_plan, ia G 4 g13), (h_this_s, ia G 313 g14), (h_this_saved, ia G 325 g15)]) C h (c_X9_triesAll hc16) mv_X9_294 rfl 0 rfl [0, 1, 2, 3, 4, 5] rfl rfl rfl rfl rfl hl.1 rfl (Nat.le_of_ble_eq_true rfl) (rok (by decide)) dX9_log_20 (fun H locs h => ?_)
      refine lv_aload_n hx hb dX9_log_23 rfl (lv_at hl 0 rfl) ?_
      refine r_get C h fk_X9_268 0 rfl rfl dX9_log_24 ?_
      refine lv_iconst (v := (4 : Int32)) hx hb dX9_log_27 rfl ?_
      refine lv_icmp_le (tgt := 36) hx hb dX9_log_28 rfl (fun c17 => ?_) (fun c17 => ?_)
      · replace hf := ifp c17 hf
        refine lv_aload_n hx hb dX9_log_36 rfl (lv_at hl 0 rfl) ?_
        refine r_get C h fk_X9_268 0 rfl rfl dX9_log_37 ?_
        cases hf
        exact r_iret C h hr hlk rfl dX9_log_40
      · replace hf := ifn c17 hf
        refine lv_bipush (v := (-3 : Int32)) hx hb dX9_log_31 rfl ?_
        refine lv_goto (tgt := 40) hx hb dX9_log_33 rfl ?_
        cases hf
        exact r_iret C h hr hlk rfl dX9_log_40
    · replace hf := ifp c6 hf
      refine lv_iconst (v := (-1 : Int32)) hx hb dX9_log_15 rfl ?_
      cases hf
      exact r_iret C h hr hlk rfl dX9_log_16
def f_X9_bars_b61 (v4 : Int32) (y_this_most : Int32) (y_this_many : Int32) (y_this_few : Int32) (y_this_everHome : Int32) (g_this_bestPlan : Nat → Int32) (g_this_pile : Nat → Int32) (g_this_plan : Nat → Int32) (g_this_s : Nat → Int32) (g_this_saved : Nat → Int32) : Option (Int32 × Int32 × Int32 × Int32 × Int32 × (Nat → Int32) × (Nat → Int32) × (Nat → Int32) × (Nat → Int32) × (Nat → Int32)) := (if (g_this_s 4) ≤ v4 then some ((-3 : Int32), y_this_most, y_this_many, y_this_few, y_this_everHome, g_this_bestPlan, g_this_pile, g_this_plan, g_this_s, g_this_saved) else some (v4, y_this_most, y_this_many, y_this_few, y_this_everHome, g_this_bestPlan, g_this_pile, g_this_plan, g_this_s, g_this_saved))
def f_X9_bars_L35 : Nat → Int32 → Int32 → Int32 → Int32 → Int32 → Int32 → (Nat → Int32) → (Nat → Int32) → (Nat → Int32) → (Nat → Int32) → (Nat → Int32) → Option (Int32 × Int32 × Int32 × Int32 × Int32 × (Nat → Int32) × (Nat → Int32) × (Nat → Int32) × (Nat → Int32) × (Nat → Int32))
  | 0, _, _, _, _, _, _, _, _, _, _, _ => none
  | n + 1, v3, v4, y_this_most, y_this_many, y_this_few, y_this_everHome, g_this_bestPlan, g_this_pile, g_this_plan, g_this_s, g_this_saved => (if (g_this_s 4) ≤ v4 then f_X9_bars_b61 v4 y_this_most y_this_many y_this_few y_this_everHome g_this_bestPlan g_this_pile g_this_plan g_this_s g_this_saved else (if ((v3 >>> (v4 &&& 31)) &&& (1 : Int32)) = 0 then lt1 (v4 + (1 : Int32)) (fun (t21 : Int32) => (f_X9_bars_L35 n) v3 t21 y_this_most y_this_many y_this_few y_this_everHome g_this_bestPlan g_this_pile g_this_plan g_this_s g_this_saved) else f_X9_bars_b61 v4 y_this_most y_this_many y_this_few y_this_everHome g_this_bestPlan g_this_pile g_this_plan g_this_s g_this_saved))
def f_X9_bars (p0 : Int32) (p1 : Int32) (x_this_most : Int32) (x_this_many : Int32) (x_this_few : Int32) (x_this_everHome : Int32) (f_this_bestPlan : Nat → Int32) (f_this_pile : Nat → Int32) (f_this_plan : Nat → Int32) (f_this_s : Nat → Int32) (f_this_saved : Nat → Int32) : Option (Int32 × Int32 × Int32 × Int32 × Int32 × (Nat → Int32) × (Nat → Int32) × (Nat → Int32) × (Nat → Int32) × (Nat → Int32)) := bd1 (f_X9_isPlan p0) (fun r1 => (if r1 = 0 then some ((-1 : Int32), x_this_most, x_this_many, x_this_few, x_this_everHome, f_this_bestPlan, f_this_pile, f_this_plan, f_this_s, f_this_saved) else bd1 (f_X9_isSet p1 f_this_s) (fun r4 => (if r4 = 0 then some ((-1 : Int32), x_this_most, x_this_many, x_this_few, x_this_everHome, f_this_bestPlan, f_this_pile, f_this_plan, f_this_s, f_this_saved) else bd9 (f_X9_triesAll p0 p1 f_this_bestPlan f_this_pile f_this_plan f_this_s f_this_saved) (fun y7 y8 y9 y10 g11 g12 g13 g14 g15 => lt1 (p1 &&& (y10 ^^^ (-1 : Int32))) (fun (t17 : Int32) => f_X9_bars_L35 1000 t17 (0 : Int32) y7 y8 y9 y10 g11 g12 g13 g14 g15))))))
set_option maxRecDepth 100000 in
set_option maxHeartbeats 4000000 in
theorem c_X9_bars {l : Launch} {G : Gt} {h_this h_this_s h_this_kept h_this_laid h_this_pile h_this_tape h_this_letters h_this_code0 h_this_read h_this_saved h_this_plan h_this_bestPlan h_this_offThen h_this_paidThen h_this_rows h_this_sorts h_this_sizes h_this_number h_this_holds h_this_heldOne h_this_trace : Nat} {p0 : Int32} {p1 : Int32} {x_this_isKept : Int32} {x_this_taped : Int32} {x_this_at : Int32} {x_this_begun : Int32} {x_this_token : Int32} {x_this_value : Int32} {x_this_opened : Int32} {x_this_steps : Int32} {x_this_most : Int32} {x_this_many : Int32} {x_this_few : Int32} {x_this_everHome : Int32} {x_this_firstFit : Int32} {x_this_rowMany : Int32} {x_this_traced : Int32} {x_this_own : Int32} {x_this_isParted : Int32} {f_this_bestPlan : Nat → Int32} {f_this_pile : Nat → Int32} {f_this_plan : Nat → Int32} {f_this_s : Nat → Int32} {f_this_saved : Nat → Int32} {r : Int32} {m_this_most : Int32} {m_this_many : Int32} {m_this_few : Int32} {m_this_everHome : Int32} {m_this_bestPlan : Nat → Int32} {m_this_pile : Nat → Int32} {m_this_plan : Nat → Int32} {m_this_s : Nat → Int32} {m_this_saved : Nat → Int32} (hf : f_X9_bars p0 p1 x_this_most x_this_many x_this_few x_this_everHome f_this_bestPlan f_this_pile f_this_plan f_this_s f_this_saved = some (r, m_this_most, m_this_many, m_this_few, m_this_everHome, m_this_bestPlan, m_this_pile, m_this_plan, m_this_s, m_this_saved)) : mFi l G yX9_bars cX9_bars 5 .int 44 [.ref h_this, .int p0, .int p1] [(h_this, ob 9 [.ref h_this_s, .ref h_this_kept, .ref h_this_laid, .int x_this_isKept, .ref h_this_pile, .ref h_this_tape, .int x_this_taped, .ref h_this_letters, .int x_this_at, .int x_this_begun, .int x_this_token, .int x_this_value, .int x_this_opened, .int x_this_steps, .ref h_this_code0, .ref h_this_read, .ref h_this_saved, .ref h_this_plan, .ref h_this_bestPlan, .int x_this_most, .int x_this_many, .int x_this_few, .int x_this_everHome, .ref h_this_offThen, .ref h_this_paidThen, .int x_this_firstFit, .ref h_this_rows, .int x_this_rowMany, .ref h_this_sorts, .ref h_this_sizes, .ref h_this_number, .ref h_this_holds, .ref h_this_heldOne, .ref h_this_trace, .int x_this_traced, .int x_this_own, .int x_this_isParted]), (h_this_bestPlan, ia G 4 f_this_bestPlan), (h_this_pile, ia G 200 f_this_pile), (h_this_plan, ia G 4 f_this_plan), (h_this_s, ia G 313 f_this_s), (h_this_saved, ia G 325 f_this_saved)] r [(h_this, ob 9 [.ref h_this_s, .ref h_this_kept, .ref h_this_laid, .int x_this_isKept, .ref h_this_pile, .ref h_this_tape, .int x_this_taped, .ref h_this_letters, .int x_this_at, .int x_this_begun, .int x_this_token, .int x_this_value, .int x_this_opened, .int x_this_steps, .ref h_this_code0, .ref h_this_read, .ref h_this_saved, .ref h_this_plan, .ref h_this_bestPlan, .int m_this_most, .int m_this_many, .int m_this_few, .int m_this_everHome, .ref h_this_offThen, .ref h_this_paidThen, .int x_this_firstFit, .ref h_this_rows, .int x_this_rowMany, .ref h_this_sorts, .ref h_this_sizes, .ref h_this_number, .ref h_this_holds, .ref h_this_heldOne, .ref h_this_trace, .int x_this_traced, .int x_this_own, .int x_this_isParted]), (h_this_bestPlan, ia G 4 m_this_bestPlan), (h_this_pile, ia G 200 m_this_pile), (h_this_plan, ia G 4 m_this_plan), (h_this_s, ia G 313 m_this_s), (h_this_saved, ia G 325 m_this_saved)] := by
  refine mFi.of (by decide +kernel) (Nat.le_of_ble_eq_true rfl) ?_
  intro p e s m below meth c A C hr hlk h ls hl
  obtain ⟨hx, hb, hml, hown, hts⟩ := id C
  replace hl : lv_has ls 5 [(0, .ref h_this), (1, .int p0), (2, .int p1)] := hl
  unfold f_X9_bars at hf
  refine with_K G A 5 (fun K hK1 hK2 => ?_)
  have B61 : ∀ (v4 : Int32) (y_this_most : Int32) (y_this_many : Int32) (y_this_few : Int32) (y_this_everHome : Int32) (g_this_bestPlan : Nat → Int32) (g_this_pile : Nat → Int32) (g_this_plan : Nat → Int32) (g_this_s : Nat → Int32) (g_this_saved : Nat → Int32), f_X9_bars_b61 v4 y_this_most y_this_many y_this_few y_this_everHome g_this_bestPlan g_this_pile g_this_plan g_this_s g_this_saved = some (r, m_this_most, m_this_many, m_this_few, m_this_everHome, m_this_bestPlan, m_this_pile, m_this_plan, m_this_s, m_this_saved) → K 61 ([] : List Value) [(h_this, ob 9 [.ref h_this_s, .ref h_this_kept, .ref h_this_laid, .int x_this_isKept, .ref h_this_pile, .ref h_this_tape, .int x_this_taped, .ref h_this_letters, .int x_this_at, .int x_this_begun, .int x_this_token, .int x_this_value, .int x_this_opened, .int x_this_steps, .ref h_this_code0, .ref h_this_read, .ref h_this_saved, .ref h_this_plan, .ref h_this_bestPlan, .int y_this_most, .int y_this_many, .int y_this_few, .int y_this_everHome, .ref h_this_offThen, .ref h_this_paidThen, .int x_this_firstFit, .ref h_this_rows, .int x_this_rowMany, .ref h_this_sorts, .ref h_this_sizes, .ref h_this_number, .ref h_this_holds, .ref h_this_heldOne, .ref h_this_trace, .int x_this_traced, .int x_this_own, .int x_this_isParted]), (h_this_bestPlan, ia G 4 g_this_bestPlan), (h_this_pile, ia G 200 g_this_pile), (h_this_plan, ia G 4 g_this_plan), (h_this_s, ia G 313 g_this_s), (h_this_saved, ia G 325 g_this_saved)] [(0, .ref h_this), (4, .int v4)] := by
    intro v4 y_this_most y_this_many y_this_few y_this_everHome g_this_bestPlan g_this_pile g_this_plan g_this_s g_this_saved hf
    unfold f_X9_bars_b61 at hf
    refine hK1 _ _ _ _ (fun H locs ls h hl => ?_)
    refine lv_iload hx hb dX9_bars_61 (lv_at hl 1 rfl) ?_
    refine lv_aload_n hx hb dX9_bars_63 rfl (lv_at hl 0 rfl) ?_
    refine r_get C h fk_X9_9 0 rfl rfl dX9_bars_64 ?_
    refine lv_iconst (v := (4 : Int32)) hx hb dX9_bars_67 rfl ?_
    refine r_ialdL C h 4 rfl (vlit rfl) 4 rfl dX9_bars_68 ?_
    refine lv_icmp_ge (tgt := 77) hx hb dX9_bars_69 rfl (fun c19 => ?_) (fun c19 => ?_)
    · replace hf := ifp c19 hf
      refine lv_bipush (v := (-3 : Int32)) hx hb dX9_bars_77 rfl ?_
      cases hf
      exact r_iret C h hr hlk rfl dX9_bars_79
    · replace hf := ifn c19 hf
      refine lv_iload hx hb dX9_bars_72 (lv_at hl 1 rfl) ?_
      refine lv_goto (tgt := 79) hx hb dX9_bars_74 rfl ?_
      cases hf
      exact r_iret C h hr hlk rfl dX9_bars_79
  have L35 : ∀ (n : Nat) (v3 : Int32) (v4 : Int32) (y_this_most : Int32) (y_this_many : Int32) (y_this_few : Int32) (y_this_everHome : Int32) (g_this_bestPlan : Nat → Int32) (g_this_pile : Nat → Int32) (g_this_plan : Nat → Int32) (g_this_s : Nat → Int32) (g_this_saved : Nat → Int32), f_X9_bars_L35 n v3 v4 y_this_most y_this_many y_this_few y_this_everHome g_this_bestPlan g_this_pile g_this_plan g_this_s g_this_saved = some (r, m_this_most, m_this_many, m_this_few, m_this_everHome, m_this_bestPlan, m_this_pile, m_this_plan, m_this_s, m_this_saved) → K 35 ([] : List Value) [(h_this, ob 9 [.ref h_this_s, .ref h_this_kept, .ref h_this_laid, .int x_this_isKept, .ref h_this_pile, .ref h_this_tape, .int x_this_taped, .ref h_this_letters, .int x_this_at, .int x_this_begun, .int x_this_token, .int x_this_value, .int x_this_opened, .int x_this_steps, .ref h_this_code0, .ref h_this_read, .ref h_this_saved, .ref h_this_plan, .ref h_this_bestPlan, .int y_this_most, .int y_this_many, .int y_this_few, .int y_this_everHome, .ref h_this_offThen, .ref h_this_paidThen, .int x_this_firstFit, .ref h_this_rows, .int x_this_rowMany, .ref h_this_sorts, .ref h_this_sizes, .ref h_this_number, .ref h_this_holds, .ref h_this_heldOne, .ref h_this_trace, .int x_this_traced, .int x_this_own, .int x_this_isParted]), (h_this_bestPlan, ia G 4 g_this_bestPlan), (h_this_pile, ia G 200 g_this_pile), (h_this_plan, ia G 4 g_this_plan), (h_this_s, ia G 313 g_this_s), (h_this_saved, ia G 325 g_this_saved)] [(0, .ref h_this), (3, .int v3), (4, .int v4)] := by
    intro n
    induction n with
    | zero =>
      intro v3 v4 y_this_most y_this_many y_this_few y_this_everHome g_this_bestPlan g_this_pile g_this_plan g_this_s g_this_saved hf
      replace hf : (none : Option _) = some _ := hf
      cases hf
    | succ n ih =>
      intro v3 v4 y_this_most y_this_many y_this_few y_this_everHome g_this_bestPlan g_this_pile g_this_plan g_this_s g_this_saved hf
      rw [f_X9_bars_L35] at hf
      refine hK1 _ _ _ _ (fun H locs ls h hl => ?_)
      refine lv_iload hx hb dX9_bars_35 (lv_at hl 2 rfl) ?_
      refine lv_aload_n hx hb dX9_bars_37 rfl (lv_at hl 0 rfl) ?_
      refine r_get C h fk_X9_9 0 rfl rfl dX9_bars_38 ?_
      refine lv_iconst (v := (4 : Int32)) hx hb dX9_bars_41 rfl ?_
      refine r_ialdL C h 4 rfl (vlit rfl) 4 rfl dX9_bars_42 ?_
      refine lv_icmp_ge (tgt := 61) hx hb dX9_bars_43 rfl (fun c18 => ?_) (fun c18 => ?_)
      · replace hf := ifp c18 hf
        exact hK2 _ _ _ _ (B61 v4 y_this_most y_this_many y_this_few y_this_everHome g_this_bestPlan g_this_pile g_this_plan g_this_s g_this_saved hf) _ _ _ h (lv_sub hl [0, 2] rfl)
      · replace hf := ifn c18 hf
        refine lv_iload_n hx hb dX9_bars_46 rfl (lv_at hl 1 rfl) ?_
        refine lv_iload hx hb dX9_bars_47 (lv_at hl 2 rfl) ?_
        refine lv_ishr hx hb dX9_bars_49 ?_
        refine lv_iconst (v := (1 : Int32)) hx hb dX9_bars_50 rfl ?_
        refine lv_iand hx hb dX9_bars_51 ?_
        refine lv_if_ne (tgt := 61) hx hb dX9_bars_52 rfl (fun c20 => ?_) (fun c20 => ?_)
        · replace hf := ifn c20 hf
          exact hK2 _ _ _ _ (B61 v4 y_this_most y_this_many y_this_few y_this_everHome g_this_bestPlan g_this_pile g_this_plan g_this_s g_this_saved hf) _ _ _ h (lv_sub hl [0, 2] rfl)
        · replace hf := ifp c20 hf
          obtain ⟨t21, et21⟩ : ∃ y : Int32, y = v4 + (1 : Int32) := ⟨_, rfl⟩
          replace hf := lt1_inv et21 hf
          refine lv_iinc (v := t21) (lv' := [(4, .int t21), (0, .ref h_this), (3, .int v3)]) hx hb dX9_bars_55 hl (k := 2) rfl (by rw [et21]; rfl) (by decide) rfl (fun ls hl => ?_)
          refine lv_goto (tgt := 35) hx hb dX9_bars_58 rfl ?_
          exact hK2 _ _ _ _ (ih v3 t21 y_this_most y_this_many y_this_few y_this_everHome g_this_bestPlan g_this_pile g_this_plan g_this_s g_this_saved hf) _ _ _ h (lv_sub hl [1, 2, 0] rfl)
  refine lv_iload_n hx hb dX9_bars_0 rfl (lv_at hl 1 rfl) ?_
  replace hf := bd1_inv hf
  obtain ⟨r1, hc2, hf⟩ := hf
  refine r_ciS0 C h (c_X9_isPlan hc2) ms_X9_291 rfl [] rfl rfl hl.1 rfl (Nat.le_of_ble_eq_true rfl) (rok (by decide)) dX9_bars_1 (fun H locs h => ?_)
  refine lv_if_eq (tgt := 15) hx hb dX9_bars_4 rfl (fun c3 => ?_) (fun c3 => ?_)
  · replace hf := ifp c3 hf
    refine lv_iconst (v := (-1 : Int32)) hx hb dX9_bars_15 rfl ?_
    cases hf
    exact r_iret C h hr hlk rfl dX9_bars_16
  · replace hf := ifn c3 hf
    refine lv_aload_n hx hb dX9_bars_7 rfl (lv_at hl 0 rfl) ?_
    refine lv_iload_n hx hb dX9_bars_8 rfl (lv_at hl 2 rfl) ?_
    replace hf := bd1_inv hf
    obtain ⟨r4, hc5, hf⟩ := hf
    refine r_ciV0 C h (c_X9_isSet hc5) mv_X9_298 rfl 0 rfl [0, 4] rfl rfl hl.1 rfl (Nat.le_of_ble_eq_true rfl) (rok (by decide)) dX9_bars_9 (fun H locs h => ?_)
    refine lv_if_ne (tgt := 17) hx hb dX9_bars_12 rfl (fun c6 => ?_) (fun c6 => ?_)
    · replace hf := ifn c6 hf
      refine lv_aload_n hx hb dX9_bars_17 rfl (lv_at hl 0 rfl) ?_
      refine lv_iload_n hx hb dX9_bars_18 rfl (lv_at hl 1 rfl) ?_
      refine lv_iload_n hx hb dX9_bars_19 rfl (lv_at hl 2 rfl) ?_
      replace hf := bd9_inv hf
      obtain ⟨y7, y8, y9, y10, g11, g12, g13, g14, g15, hc16, hf⟩ := hf
      refine r_cvV (ws' := [(h_this, ob 9 [.ref h_this_s, .ref h_this_kept, .ref h_this_laid, .int x_this_isKept, .ref h_this_pile, .ref h_this_tape, .int x_this_taped, .ref h_this_letters, .int x_this_at, .int x_this_begun, .int x_this_token, .int x_this_value, .int x_this_opened, .int x_this_steps, .ref h_this_code0, .ref h_this_read, .ref h_this_saved, .ref h_this_plan, .ref h_this_bestPlan, .int y7, .int y8, .int y9, .int y10, .ref h_this_offThen, .ref h_this_paidThen, .int x_this_firstFit, .ref h_this_rows, .int x_this_rowMany, .ref h_this_sorts, .ref h_this_sizes, .ref h_this_number, .ref h_this_holds, .ref h_this_heldOne, .ref h_this_trace, .int x_this_traced, .int x_this_own, .int x_this_isParted]), (h_this_bestPlan, ia G 4 g11), (h_this_pile, ia G 200 g12), (h_this_plan, ia G 4 g13), (h_this_s, ia G 313 g14), (h_this_saved, ia G 325 g15)]) C h (c_X9_triesAll hc16) mv_X9_294 rfl 0 rfl [0, 1, 2, 3, 4, 5] rfl rfl rfl rfl rfl hl.1 rfl (Nat.le_of_ble_eq_true rfl) (rok (by decide)) dX9_bars_20 (fun H locs h => ?_)
      refine lv_iload_n hx hb dX9_bars_23 rfl (lv_at hl 2 rfl) ?_
      refine lv_aload_n hx hb dX9_bars_24 rfl (lv_at hl 0 rfl) ?_
      refine r_get C h fk_X9_271 0 rfl rfl dX9_bars_25 ?_
      refine lv_iconst (v := (-1 : Int32)) hx hb dX9_bars_28 rfl ?_
      refine lv_ixor hx hb dX9_bars_29 ?_
      refine lv_iand hx hb dX9_bars_30 ?_
      refine lv_topi (fun t17 et17 => ?_)
      replace hf := lt1_inv et17 hf
      refine lv_istore_n (lv' := [(3, .int t17), (0, .ref h_this), (1, .int p0), (2, .int p1)]) hx hb dX9_bars_31 rfl hl (by decide) rfl (fun ls hl => ?_)
      refine lv_iconst (v := (0 : Int32)) hx hb dX9_bars_32 rfl ?_
      refine lv_istore (lv' := [(4, .int (0 : Int32)), (3, .int t17), (0, .ref h_this), (1, .int p0), (2, .int p1)]) hx hb dX9_bars_33 hl (by decide) rfl (fun ls hl => ?_)
      exact hK2 _ _ _ _ (L35 1000 t17 (0 : Int32) y7 y8 y9 y10 g11 g12 g13 g14 g15 hf) _ _ _ h (lv_sub hl [2, 1, 0] rfl)
    · replace hf := ifp c6 hf
      refine lv_iconst (v := (-1 : Int32)) hx hb dX9_bars_15 rfl ?_
      cases hf
      exact r_iret C h hr hlk rfl dX9_bars_16
def f_X9_playedFrom_b102 (rec20 : Int32 → Int32 → Int32 → (Nat → Int32) → (Nat → Int32) → (Nat → Int32) → (Nat → Int32) → Option (Int32 × (Nat → Int32) × (Nat → Int32) × (Nat → Int32) × (Nat → Int32))) (v3 : Int32) (v5 : Int32) (v7 : Int32) (v8 : Int32) (s0 : Int32) (g_this_pile : Nat → Int32) (g_this_plan : Nat → Int32) (g_this_s : Nat → Int32) (g_this_saved : Nat → Int32) : Option (Int32 × (Nat → Int32) × (Nat → Int32) × (Nat → Int32) × (Nat → Int32)) := (if v8 = 0 then lt1 (v5 + (1 : Int32)) (fun (t22 : Int32) => rec20 v3 s0 t22 g_this_pile g_this_plan g_this_s g_this_saved) else lt1 (v5 + (1 : Int32)) (fun (t23 : Int32) => rec20 v7 s0 t23 g_this_pile g_this_plan g_this_s g_this_saved))
def f_X9_playedFrom_b88 (rec20 : Int32 → Int32 → Int32 → (Nat → Int32) → (Nat → Int32) → (Nat → Int32) → (Nat → Int32) → Option (Int32 × (Nat → Int32) × (Nat → Int32) × (Nat → Int32) × (Nat → Int32))) (v3 : Int32) (v4 : Int32) (v5 : Int32) (v7 : Int32) (s0 : Int32) (g_this_pile : Nat → Int32) (g_this_plan : Nat → Int32) (g_this_s : Nat → Int32) (g_this_saved : Nat → Int32) : Option (Int32 × (Nat → Int32) × (Nat → Int32) × (Nat → Int32) × (Nat → Int32)) := (if s0 = 0 then f_X9_playedFrom_b102 rec20 v3 v5 v7 s0 v4 g_this_pile g_this_plan g_this_s g_this_saved else f_X9_playedFrom_b102 rec20 v3 v5 v7 s0 v5 g_this_pile g_this_plan g_this_s g_this_saved)
def f_X9_playedFrom_b83 (rec20 : Int32 → Int32 → Int32 → (Nat → Int32) → (Nat → Int32) → (Nat → Int32) → (Nat → Int32) → Option (Int32 × (Nat → Int32) × (Nat → Int32) × (Nat → Int32) × (Nat → Int32))) (v3 : Int32) (v4 : Int32) (v5 : Int32) (v7 : Int32) (g_this_pile : Nat → Int32) (g_this_plan : Nat → Int32) (g_this_s : Nat → Int32) (g_this_saved : Nat → Int32) : Option (Int32 × (Nat → Int32) × (Nat → Int32) × (Nat → Int32) × (Nat → Int32)) := f_X9_playedFrom_b88 rec20 v3 v4 v5 v7 (1 : Int32) g_this_pile g_this_plan g_this_s g_this_saved
def f_X9_playedFrom_b87 (rec20 : Int32 → Int32 → Int32 → (Nat → Int32) → (Nat → Int32) → (Nat → Int32) → (Nat → Int32) → Option (Int32 × (Nat → Int32) × (Nat → Int32) × (Nat → Int32) × (Nat → Int32))) (v3 : Int32) (v4 : Int32) (v5 : Int32) (v7 : Int32) (g_this_pile : Nat → Int32) (g_this_plan : Nat → Int32) (g_this_s : Nat → Int32) (g_this_saved : Nat → Int32) : Option (Int32 × (Nat → Int32) × (Nat → Int32) × (Nat → Int32) × (Nat → Int32)) := f_X9_playedFrom_b88 rec20 v3 v4 v5 v7 (0 : Int32) g_this_pile g_this_plan g_this_s g_this_saved
def f_X9_playedFrom_L20 (self : Int32 → Int32 → (Nat → Int32) → (Nat → Int32) → (Nat → Int32) → (Nat → Int32) → Option (Int32 × (Nat → Int32) × (Nat → Int32) × (Nat → Int32) × (Nat → Int32))) (p0 : Int32) (p1 : Int32) : Nat → Int32 → Int32 → Int32 → (Nat → Int32) → (Nat → Int32) → (Nat → Int32) → (Nat → Int32) → Option (Int32 × (Nat → Int32) × (Nat → Int32) × (Nat → Int32) × (Nat → Int32))
  | 0, _, _, _, _, _, _, _ => none
  | n + 1, v3, v4, v5, g_this_pile, g_this_plan, g_this_s, g_this_saved => (if (g_this_s 4) < v5 then chkI p0 4 (some (v3, g_this_pile, upd g_this_plan p0.toNatClampNeg v4, g_this_s, g_this_saved)) else bd3 (f_X9_goesBy v5 g_this_pile g_this_s) (fun r6 g7 g8 => bd5 (self (p0 + (1 : Int32)) p1 g7 g_this_plan g8 g_this_saved) (fun r10 g11 g12 g13 g14 => lt1 (r6 + r10) (fun (t16 : Int32) => bd1 (f_X9_restores p0 g13 g14) (fun g17 => (if v4 < 0 then f_X9_playedFrom_b83 (f_X9_playedFrom_L20 self p0 p1 n) v3 v4 v5 t16 g11 g12 g17 g14 else (if (p0 - p0 / (2 : Int32) * (2 : Int32)) = 0 then (if t16 ≤ v3 then f_X9_playedFrom_b87 (f_X9_playedFrom_L20 self p0 p1 n) v3 v4 v5 t16 g11 g12 g17 g14 else f_X9_playedFrom_b83 (f_X9_playedFrom_L20 self p0 p1 n) v3 v4 v5 t16 g11 g12 g17 g14) else (if v3 ≤ t16 then f_X9_playedFrom_b87 (f_X9_playedFrom_L20 self p0 p1 n) v3 v4 v5 t16 g11 g12 g17 g14 else f_X9_playedFrom_b83 (f_X9_playedFrom_L20 self p0 p1 n) v3 v4 v5 t16 g11 g12 g17 g14))))))))
def f_X9_playedFrom (self : Int32 → Int32 → (Nat → Int32) → (Nat → Int32) → (Nat → Int32) → (Nat → Int32) → Option (Int32 × (Nat → Int32) × (Nat → Int32) × (Nat → Int32) × (Nat → Int32))) (p0 : Int32) (p1 : Int32) (f_this_pile : Nat → Int32) (f_this_plan : Nat → Int32) (f_this_s : Nat → Int32) (f_this_saved : Nat → Int32) : Option (Int32 × (Nat → Int32) × (Nat → Int32) × (Nat → Int32) × (Nat → Int32)) := (if p0 = p1 then some ((0 : Int32), f_this_pile, f_this_plan, f_this_s, f_this_saved) else bd1 (f_X9_saves p0 f_this_s f_this_saved) (fun g2 => f_X9_playedFrom_L20 self p0 p1 1000 (0 : Int32) (-1 : Int32) (0 : Int32) f_this_pile f_this_plan f_this_s g2))
set_option maxRecDepth 100000 in
set_option maxHeartbeats 4000000 in
theorem c_X9_playedFrom {l : Launch} {G : Gt} {self : Int32 → Int32 → (Nat → Int32) → (Nat → Int32) → (Nat → Int32) → (Nat → Int32) → Option (Int32 × (Nat → Int32) × (Nat → Int32) × (Nat → Int32) × (Nat → Int32))} {H0 : Nat} (hself : ∀ {h_this h_this_s h_this_kept h_this_laid h_this_pile h_this_tape h_this_letters h_this_code0 h_this_read h_this_saved h_this_plan h_this_bestPlan h_this_offThen h_this_paidThen h_this_rows h_this_sorts h_this_sizes h_this_number h_this_holds h_this_heldOne h_this_trace : Nat} {p0 : Int32} {p1 : Int32} {x_this_isKept : Int32} {x_this_taped : Int32} {x_this_at : Int32} {x_this_begun : Int32} {x_this_token : Int32} {x_this_value : Int32} {x_this_opened : Int32} {x_this_steps : Int32} {x_this_most : Int32} {x_this_many : Int32} {x_this_few : Int32} {x_this_everHome : Int32} {x_this_firstFit : Int32} {x_this_rowMany : Int32} {x_this_traced : Int32} {x_this_own : Int32} {x_this_isParted : Int32} {f_this_pile : Nat → Int32} {f_this_plan : Nat → Int32} {f_this_s : Nat → Int32} {f_this_saved : Nat → Int32} {r : Int32} {m_this_pile : Nat → Int32} {m_this_plan : Nat → Int32} {m_this_s : Nat → Int32} {m_this_saved : Nat → Int32} , self p0 p1 f_this_pile f_this_plan f_this_s f_this_saved = some (r, m_this_pile, m_this_plan, m_this_s, m_this_saved) → mFi l G yX9_playedFrom cX9_playedFrom 9 .int H0 [.ref h_this, .int p0, .int p1] [(h_this, ob 9 [.ref h_this_s, .ref h_this_kept, .ref h_this_laid, .int x_this_isKept, .ref h_this_pile, .ref h_this_tape, .int x_this_taped, .ref h_this_letters, .int x_this_at, .int x_this_begun, .int x_this_token, .int x_this_value, .int x_this_opened, .int x_this_steps, .ref h_this_code0, .ref h_this_read, .ref h_this_saved, .ref h_this_plan, .ref h_this_bestPlan, .int x_this_most, .int x_this_many, .int x_this_few, .int x_this_everHome, .ref h_this_offThen, .ref h_this_paidThen, .int x_this_firstFit, .ref h_this_rows, .int x_this_rowMany, .ref h_this_sorts, .ref h_this_sizes, .ref h_this_number, .ref h_this_holds, .ref h_this_heldOne, .ref h_this_trace, .int x_this_traced, .int x_this_own, .int x_this_isParted]), (h_this_pile, ia G 200 f_this_pile), (h_this_plan, ia G 4 f_this_plan), (h_this_s, ia G 313 f_this_s), (h_this_saved, ia G 325 f_this_saved)] r [(h_this, ob 9 [.ref h_this_s, .ref h_this_kept, .ref h_this_laid, .int x_this_isKept, .ref h_this_pile, .ref h_this_tape, .int x_this_taped, .ref h_this_letters, .int x_this_at, .int x_this_begun, .int x_this_token, .int x_this_value, .int x_this_opened, .int x_this_steps, .ref h_this_code0, .ref h_this_read, .ref h_this_saved, .ref h_this_plan, .ref h_this_bestPlan, .int x_this_most, .int x_this_many, .int x_this_few, .int x_this_everHome, .ref h_this_offThen, .ref h_this_paidThen, .int x_this_firstFit, .ref h_this_rows, .int x_this_rowMany, .ref h_this_sorts, .ref h_this_sizes, .ref h_this_number, .ref h_this_holds, .ref h_this_heldOne, .ref h_this_trace, .int x_this_traced, .int x_this_own, .int x_this_isParted]), (h_this_pile, ia G 200 m_this_pile), (h_this_plan, ia G 4 m_this_plan), (h_this_s, ia G 313 m_this_s), (h_this_saved, ia G 325 m_this_saved)]) {h_this h_this_s h_this_kept h_this_laid h_this_pile h_this_tape h_this_letters h_this_code0 h_this_read h_this_saved h_this_plan h_this_bestPlan h_this_offThen h_this_paidThen h_this_rows h_this_sorts h_this_sizes h_this_number h_this_holds h_this_heldOne h_this_trace : Nat} {p0 : Int32} {p1 : Int32} {x_this_isKept : Int32} {x_this_taped : Int32} {x_this_at : Int32} {x_this_begun : Int32} {x_this_token : Int32} {x_this_value : Int32} {x_this_opened : Int32} {x_this_steps : Int32} {x_this_most : Int32} {x_this_many : Int32} {x_this_few : Int32} {x_this_everHome : Int32} {x_this_firstFit : Int32} {x_this_rowMany : Int32} {x_this_traced : Int32} {x_this_own : Int32} {x_this_isParted : Int32} {f_this_pile : Nat → Int32} {f_this_plan : Nat → Int32} {f_this_s : Nat → Int32} {f_this_saved : Nat → Int32} {r : Int32} {m_this_pile : Nat → Int32} {m_this_plan : Nat → Int32} {m_this_s : Nat → Int32} {m_this_saved : Nat → Int32} (hf : f_X9_playedFrom self p0 p1 f_this_pile f_this_plan f_this_s f_this_saved = some (r, m_this_pile, m_this_plan, m_this_s, m_this_saved)) : mFi l G yX9_playedFrom cX9_playedFrom 9 .int (H0 + 7) [.ref h_this, .int p0, .int p1] [(h_this, ob 9 [.ref h_this_s, .ref h_this_kept, .ref h_this_laid, .int x_this_isKept, .ref h_this_pile, .ref h_this_tape, .int x_this_taped, .ref h_this_letters, .int x_this_at, .int x_this_begun, .int x_this_token, .int x_this_value, .int x_this_opened, .int x_this_steps, .ref h_this_code0, .ref h_this_read, .ref h_this_saved, .ref h_this_plan, .ref h_this_bestPlan, .int x_this_most, .int x_this_many, .int x_this_few, .int x_this_everHome, .ref h_this_offThen, .ref h_this_paidThen, .int x_this_firstFit, .ref h_this_rows, .int x_this_rowMany, .ref h_this_sorts, .ref h_this_sizes, .ref h_this_number, .ref h_this_holds, .ref h_this_heldOne, .ref h_this_trace, .int x_this_traced, .int x_this_own, .int x_this_isParted]), (h_this_pile, ia G 200 f_this_pile), (h_this_plan, ia G 4 f_this_plan), (h_this_s, ia G 313 f_this_s), (h_this_saved, ia G 325 f_this_saved)] r [(h_this, ob 9 [.ref h_this_s, .ref h_this_kept, .ref h_this_laid, .int x_this_isKept, .ref h_this_pile, .ref h_this_tape, .int x_this_taped, .ref h_this_letters, .int x_this_at, .int x_this_begun, .int x_this_token, .int x_this_value, .int x_this_opened, .int x_this_steps, .ref h_this_code0, .ref h_this_read, .ref h_this_saved, .ref h_this_plan, .ref h_this_bestPlan, .int x_this_most, .int x_this_many, .int x_this_few, .int x_this_everHome, .ref h_this_offThen, .ref h_this_paidThen, .int x_this_firstFit, .ref h_this_rows, .int x_this_rowMany, .ref h_this_sorts, .ref h_this_sizes, .ref h_this_number, .ref h_this_holds, .ref h_this_heldOne, .ref h_this_trace, .int x_this_traced, .int x_this_own, .int x_this_isParted]), (h_this_pile, ia G 200 m_this_pile), (h_this_plan, ia G 4 m_this_plan), (h_this_s, ia G 313 m_this_s), (h_this_saved, ia G 325 m_this_saved)] := by
  refine mFi.of (by decide +kernel) (Nat.le_of_ble_eq_true rfl) ?_
  intro p e s m below meth c A C hr hlk h ls hl
  obtain ⟨hx, hb, hml, hown, hts⟩ := id C
  replace hl : lv_has ls 9 [(0, .ref h_this), (1, .int p0), (2, .int p1)] := hl
  unfold f_X9_playedFrom at hf
  refine with_K G A 9 (fun K hK1 hK2 => ?_)
  have B102 : ∀ (rec20 : Int32 → Int32 → Int32 → (Nat → Int32) → (Nat → Int32) → (Nat → Int32) → (Nat → Int32) → Option (Int32 × (Nat → Int32) × (Nat → Int32) × (Nat → Int32) × (Nat → Int32))) (hrec20 : ∀ (v3 : Int32) (v4 : Int32) (v5 : Int32) (g_this_pile : Nat → Int32) (g_this_plan : Nat → Int32) (g_this_s : Nat → Int32) (g_this_saved : Nat → Int32), rec20 v3 v4 v5 g_this_pile g_this_plan g_this_s g_this_saved = some (r, m_this_pile, m_this_plan, m_this_s, m_this_saved) → K 20 ([] : List Value) [(h_this, ob 9 [.ref h_this_s, .ref h_this_kept, .ref h_this_laid, .int x_this_isKept, .ref h_this_pile, .ref h_this_tape, .int x_this_taped, .ref h_this_letters, .int x_this_at, .int x_this_begun, .int x_this_token, .int x_this_value, .int x_this_opened, .int x_this_steps, .ref h_this_code0, .ref h_this_read, .ref h_this_saved, .ref h_this_plan, .ref h_this_bestPlan, .int x_this_most, .int x_this_many, .int x_this_few, .int x_this_everHome, .ref h_this_offThen, .ref h_this_paidThen, .int x_this_firstFit, .ref h_this_rows, .int x_this_rowMany, .ref h_this_sorts, .ref h_this_sizes, .ref h_this_number, .ref h_this_holds, .ref h_this_heldOne, .ref h_this_trace, .int x_this_traced, .int x_this_own, .int x_this_isParted]), (h_this_pile, ia G 200 g_this_pile), (h_this_plan, ia G 4 g_this_plan), (h_this_s, ia G 313 g_this_s), (h_this_saved, ia G 325 g_this_saved)] [(0, .ref h_this), (1, .int p0), (2, .int p1), (3, .int v3), (4, .int v4), (5, .int v5)]) (v3 : Int32) (v5 : Int32) (v7 : Int32) (v8 : Int32) (s0 : Int32) (g_this_pile : Nat → Int32) (g_this_plan : Nat → Int32) (g_this_s : Nat → Int32) (g_this_saved : Nat → Int32), f_X9_playedFrom_b102 rec20 v3 v5 v7 v8 s0 g_this_pile g_this_plan g_this_s g_this_saved = some (r, m_this_pile, m_this_plan, m_this_s, m_this_saved) → K 102 [.int s0] [(h_this, ob 9 [.ref h_this_s, .ref h_this_kept, .ref h_this_laid, .int x_this_isKept, .ref h_this_pile, .ref h_this_tape, .int x_this_taped, .ref h_this_letters, .int x_this_at, .int x_this_begun, .int x_this_token, .int x_this_value, .int x_this_opened, .int x_this_steps, .ref h_this_code0, .ref h_this_read, .ref h_this_saved, .ref h_this_plan, .ref h_this_bestPlan, .int x_this_most, .int x_this_many, .int x_this_few, .int x_this_everHome, .ref h_this_offThen, .ref h_this_paidThen, .int x_this_firstFit, .ref h_this_rows, .int x_this_rowMany, .ref h_this_sorts, .ref h_this_sizes, .ref h_this_number, .ref h_this_holds, .ref h_this_heldOne, .ref h_this_trace, .int x_this_traced, .int x_this_own, .int x_this_isParted]), (h_this_pile, ia G 200 g_this_pile), (h_this_plan, ia G 4 g_this_plan), (h_this_s, ia G 313 g_this_s), (h_this_saved, ia G 325 g_this_saved)] [(0, .ref h_this), (1, .int p0), (2, .int p1), (3, .int v3), (5, .int v5), (7, .int v7), (8, .int v8)] := by
    intro rec20 hrec20 v3 v5 v7 v8 s0 g_this_pile g_this_plan g_this_s g_this_saved hf
    unfold f_X9_playedFrom_b102 at hf
    refine hK1 _ _ _ _ (fun H locs ls h hl => ?_)
    refine lv_istore (lv' := [(4, .int s0), (0, .ref h_this), (1, .int p0), (2, .int p1), (3, .int v3), (5, .int v5), (7, .int v7), (8, .int v8)]) hx hb dX9_playedFrom_102 hl (by decide) rfl (fun ls hl => ?_)
    refine lv_iload hx hb dX9_playedFrom_104 (lv_at hl 7 rfl) ?_
    refine lv_if_eq (tgt := 114) hx hb dX9_playedFrom_106 rfl (fun c21 => ?_) (fun c21 => ?_)
    · replace hf := ifp c21 hf
      refine lv_iload_n hx hb dX9_playedFrom_114 rfl (lv_at hl 4 rfl) ?_
      refine lv_istore_n (lv' := [(3, .int v3), (4, .int s0), (0, .ref h_this), (1, .int p0), (2, .int p1), (5, .int v5), (7, .int v7), (8, .int v8)]) hx hb dX9_playedFrom_115 rfl hl (by decide) rfl (fun ls hl => ?_)
      obtain ⟨t22, et22⟩ : ∃ y : Int32, y = v5 + (1 : Int32) := ⟨_, rfl⟩
      replace hf := lt1_inv et22 hf
      refine lv_iinc (v := t22) (lv' := [(5, .int t22), (3, .int v3), (4, .int s0), (0, .ref h_this), (1, .int p0), (2, .int p1), (7, .int v7), (8, .int v8)]) hx hb dX9_playedFrom_116 hl (k := 5) rfl (by rw [et22]; rfl) (by decide) rfl (fun ls hl => ?_)
      refine lv_goto (tgt := 20) hx hb dX9_playedFrom_119 rfl ?_
      exact hK2 _ _ _ _ (hrec20 v3 s0 t22 g_this_pile g_this_plan g_this_s g_this_saved hf) _ _ _ h (lv_sub hl [3, 4, 5, 1, 2, 0] rfl)
    · replace hf := ifn c21 hf
      refine lv_iload hx hb dX9_playedFrom_109 (lv_at hl 6 rfl) ?_
      refine lv_goto (tgt := 115) hx hb dX9_playedFrom_111 rfl ?_
      refine lv_istore_n (lv' := [(3, .int v7), (4, .int s0), (0, .ref h_this), (1, .int p0), (2, .int p1), (5, .int v5), (7, .int v7), (8, .int v8)]) hx hb dX9_playedFrom_115 rfl hl (by decide) rfl (fun ls hl => ?_)
      obtain ⟨t23, et23⟩ : ∃ y : Int32, y = v5 + (1 : Int32) := ⟨_, rfl⟩
      replace hf := lt1_inv et23 hf
      refine lv_iinc (v := t23) (lv' := [(5, .int t23), (3, .int v7), (4, .int s0), (0, .ref h_this), (1, .int p0), (2, .int p1), (7, .int v7), (8, .int v8)]) hx hb dX9_playedFrom_116 hl (k := 5) rfl (by rw [et23]; rfl) (by decide) rfl (fun ls hl => ?_)
      refine lv_goto (tgt := 20) hx hb dX9_playedFrom_119 rfl ?_
      exact hK2 _ _ _ _ (hrec20 v7 s0 t23 g_this_pile g_this_plan g_this_s g_this_saved hf) _ _ _ h (lv_sub hl [3, 4, 5, 1, 2, 0] rfl)
  have B88 : ∀ (rec20 : Int32 → Int32 → Int32 → (Nat → Int32) → (Nat → Int32) → (Nat → Int32) → (Nat → Int32) → Option (Int32 × (Nat → Int32) × (Nat → Int32) × (Nat → Int32) × (Nat → Int32))) (hrec20 : ∀ (v3 : Int32) (v4 : Int32) (v5 : Int32) (g_this_pile : Nat → Int32) (g_this_plan : Nat → Int32) (g_this_s : Nat → Int32) (g_this_saved : Nat → Int32), rec20 v3 v4 v5 g_this_pile g_this_plan g_this_s g_this_saved = some (r, m_this_pile, m_this_plan, m_this_s, m_this_saved) → K 20 ([] : List Value) [(h_this, ob 9 [.ref h_this_s, .ref h_this_kept, .ref h_this_laid, .int x_this_isKept, .ref h_this_pile, .ref h_this_tape, .int x_this_taped, .ref h_this_letters, .int x_this_at, .int x_this_begun, .int x_this_token, .int x_this_value, .int x_this_opened, .int x_this_steps, .ref h_this_code0, .ref h_this_read, .ref h_this_saved, .ref h_this_plan, .ref h_this_bestPlan, .int x_this_most, .int x_this_many, .int x_this_few, .int x_this_everHome, .ref h_this_offThen, .ref h_this_paidThen, .int x_this_firstFit, .ref h_this_rows, .int x_this_rowMany, .ref h_this_sorts, .ref h_this_sizes, .ref h_this_number, .ref h_this_holds, .ref h_this_heldOne, .ref h_this_trace, .int x_this_traced, .int x_this_own, .int x_this_isParted]), (h_this_pile, ia G 200 g_this_pile), (h_this_plan, ia G 4 g_this_plan), (h_this_s, ia G 313 g_this_s), (h_this_saved, ia G 325 g_this_saved)] [(0, .ref h_this), (1, .int p0), (2, .int p1), (3, .int v3), (4, .int v4), (5, .int v5)]) (v3 : Int32) (v4 : Int32) (v5 : Int32) (v7 : Int32) (s0 : Int32) (g_this_pile : Nat → Int32) (g_this_plan : Nat → Int32) (g_this_s : Nat → Int32) (g_this_saved : Nat → Int32), f_X9_playedFrom_b88 rec20 v3 v4 v5 v7 s0 g_this_pile g_this_plan g_this_s g_this_saved = some (r, m_this_pile, m_this_plan, m_this_s, m_this_saved) → K 88 [.int s0] [(h_this, ob 9 [.ref h_this_s, .ref h_this_kept, .ref h_this_laid, .int x_this_isKept, .ref h_this_pile, .ref h_this_tape, .int x_this_taped, .ref h_this_letters, .int x_this_at, .int x_this_begun, .int x_this_token, .int x_this_value, .int x_this_opened, .int x_this_steps, .ref h_this_code0, .ref h_this_read, .ref h_this_saved, .ref h_this_plan, .ref h_this_bestPlan, .int x_this_most, .int x_this_many, .int x_this_few, .int x_this_everHome, .ref h_this_offThen, .ref h_this_paidThen, .int x_this_firstFit, .ref h_this_rows, .int x_this_rowMany, .ref h_this_sorts, .ref h_this_sizes, .ref h_this_number, .ref h_this_holds, .ref h_this_heldOne, .ref h_this_trace, .int x_this_traced, .int x_this_own, .int x_this_isParted]), (h_this_pile, ia G 200 g_this_pile), (h_this_plan, ia G 4 g_this_plan), (h_this_s, ia G 313 g_this_s), (h_this_saved, ia G 325 g_this_saved)] [(0, .ref h_this), (1, .int p0), (2, .int p1), (3, .int v3), (4, .int v4), (5, .int v5), (7, .int v7)] := by
    intro rec20 hrec20 v3 v4 v5 v7 s0 g_this_pile g_this_plan g_this_s g_this_saved hf
    unfold f_X9_playedFrom_b88 at hf
    refine hK1 _ _ _ _ (fun H locs ls h hl => ?_)
    refine lv_istore (lv' := [(8, .int s0), (0, .ref h_this), (1, .int p0), (2, .int p1), (3, .int v3), (4, .int v4), (5, .int v5), (7, .int v7)]) hx hb dX9_playedFrom_88 hl (by decide) rfl (fun ls hl => ?_)
    refine lv_iload hx hb dX9_playedFrom_90 (lv_at hl 0 rfl) ?_
    refine lv_if_eq (tgt := 100) hx hb dX9_playedFrom_92 rfl (fun c20 => ?_) (fun c20 => ?_)
    · replace hf := ifp c20 hf
      refine lv_iload hx hb dX9_playedFrom_100 (lv_at hl 5 rfl) ?_
      exact hK2 _ _ _ _ (B102 _ hrec20 v3 v5 v7 s0 v4 g_this_pile g_this_plan g_this_s g_this_saved hf) _ _ _ h (lv_sub hl [1, 2, 3, 4, 6, 7, 0] rfl)
    · replace hf := ifn c20 hf
      refine lv_iload hx hb dX9_playedFrom_95 (lv_at hl 6 rfl) ?_
      refine lv_goto (tgt := 102) hx hb dX9_playedFrom_97 rfl ?_
      exact hK2 _ _ _ _ (B102 _ hrec20 v3 v5 v7 s0 v5 g_this_pile g_this_plan g_this_s g_this_saved hf) _ _ _ h (lv_sub hl [1, 2, 3, 4, 6, 7, 0] rfl)
  have B83 : ∀ (rec20 : Int32 → Int32 → Int32 → (Nat → Int32) → (Nat → Int32) → (Nat → Int32) → (Nat → Int32) → Option (Int32 × (Nat → Int32) × (Nat → Int32) × (Nat → Int32) × (Nat → Int32))) (hrec20 : ∀ (v3 : Int32) (v4 : Int32) (v5 : Int32) (g_this_pile : Nat → Int32) (g_this_plan : Nat → Int32) (g_this_s : Nat → Int32) (g_this_saved : Nat → Int32), rec20 v3 v4 v5 g_this_pile g_this_plan g_this_s g_this_saved = some (r, m_this_pile, m_this_plan, m_this_s, m_this_saved) → K 20 ([] : List Value) [(h_this, ob 9 [.ref h_this_s, .ref h_this_kept, .ref h_this_laid, .int x_this_isKept, .ref h_this_pile, .ref h_this_tape, .int x_this_taped, .ref h_this_letters, .int x_this_at, .int x_this_begun, .int x_this_token, .int x_this_value, .int x_this_opened, .int x_this_steps, .ref h_this_code0, .ref h_this_read, .ref h_this_saved, .ref h_this_plan, .ref h_this_bestPlan, .int x_this_most, .int x_this_many, .int x_this_few, .int x_this_everHome, .ref h_this_offThen, .ref h_this_paidThen, .int x_this_firstFit, .ref h_this_rows, .int x_this_rowMany, .ref h_this_sorts, .ref h_this_sizes, .ref h_this_number, .ref h_this_holds, .ref h_this_heldOne, .ref h_this_trace, .int x_this_traced, .int x_this_own, .int x_this_isParted]), (h_this_pile, ia G 200 g_this_pile), (h_this_plan, ia G 4 g_this_plan), (h_this_s, ia G 313 g_this_s), (h_this_saved, ia G 325 g_this_saved)] [(0, .ref h_this), (1, .int p0), (2, .int p1), (3, .int v3), (4, .int v4), (5, .int v5)]) (v3 : Int32) (v4 : Int32) (v5 : Int32) (v7 : Int32) (g_this_pile : Nat → Int32) (g_this_plan : Nat → Int32) (g_this_s : Nat → Int32) (g_this_saved : Nat → Int32), f_X9_playedFrom_b83 rec20 v3 v4 v5 v7 g_this_pile g_this_plan g_this_s g_this_saved = some (r, m_this_pile, m_this_plan, m_this_s, m_this_saved) → K 83 ([] : List Value) [(h_this, ob 9 [.ref h_this_s, .ref h_this_kept, .ref h_this_laid, .int x_this_isKept, .ref h_this_pile, .ref h_this_tape, .int x_this_taped, .ref h_this_letters, .int x_this_at, .int x_this_begun, .int x_this_token, .int x_this_value, .int x_this_opened, .int x_this_steps, .ref h_this_code0, .ref h_this_read, .ref h_this_saved, .ref h_this_plan, .ref h_this_bestPlan, .int x_this_most, .int x_this_many, .int x_this_few, .int x_this_everHome, .ref h_this_offThen, .ref h_this_paidThen, .int x_this_firstFit, .ref h_this_rows, .int x_this_rowMany, .ref h_this_sorts, .ref h_this_sizes, .ref h_this_number, .ref h_this_holds, .ref h_this_heldOne, .ref h_this_trace, .int x_this_traced, .int x_this_own, .int x_this_isParted]), (h_this_pile, ia G 200 g_this_pile), (h_this_plan, ia G 4 g_this_plan), (h_this_s, ia G 313 g_this_s), (h_this_saved, ia G 325 g_this_saved)] [(0, .ref h_this), (1, .int p0), (2, .int p1), (3, .int v3), (4, .int v4), (5, .int v5), (7, .int v7)] := by
    intro rec20 hrec20 v3 v4 v5 v7 g_this_pile g_this_plan g_this_s g_this_saved hf
    unfold f_X9_playedFrom_b83 at hf
    refine hK1 _ _ _ _ (fun H locs ls h hl => ?_)
    refine lv_iconst (v := (1 : Int32)) hx hb dX9_playedFrom_83 rfl ?_
    refine lv_goto (tgt := 88) hx hb dX9_playedFrom_84 rfl ?_
    exact hK2 _ _ _ _ (B88 _ hrec20 v3 v4 v5 v7 (1 : Int32) g_this_pile g_this_plan g_this_s g_this_saved hf) _ _ _ h (lv_sub hl [0, 1, 2, 3, 4, 5, 6] rfl)
  have B87 : ∀ (rec20 : Int32 → Int32 → Int32 → (Nat → Int32) → (Nat → Int32) → (Nat → Int32) → (Nat → Int32) → Option (Int32 × (Nat → Int32) × (Nat → Int32) × (Nat → Int32) × (Nat → Int32))) (hrec20 : ∀ (v3 : Int32) (v4 : Int32) (v5 : Int32) (g_this_pile : Nat → Int32) (g_this_plan : Nat → Int32) (g_this_s : Nat → Int32) (g_this_saved : Nat → Int32), rec20 v3 v4 v5 g_this_pile g_this_plan g_this_s g_this_saved = some (r, m_this_pile, m_this_plan, m_this_s, m_this_saved) → K 20 ([] : List Value) [(h_this, ob 9 [.ref h_this_s, .ref h_this_kept, .ref h_this_laid, .int x_this_isKept, .ref h_this_pile, .ref h_this_tape, .int x_this_taped, .ref h_this_letters, .int x_this_at, .int x_this_begun, .int x_this_token, .int x_this_value, .int x_this_opened, .int x_this_steps, .ref h_this_code0, .ref h_this_read, .ref h_this_saved, .ref h_this_plan, .ref h_this_bestPlan, .int x_this_most, .int x_this_many, .int x_this_few, .int x_this_everHome, .ref h_this_offThen, .ref h_this_paidThen, .int x_this_firstFit, .ref h_this_rows, .int x_this_rowMany, .ref h_this_sorts, .ref h_this_sizes, .ref h_this_number, .ref h_this_holds, .ref h_this_heldOne, .ref h_this_trace, .int x_this_traced, .int x_this_own, .int x_this_isParted]), (h_this_pile, ia G 200 g_this_pile), (h_this_plan, ia G 4 g_this_plan), (h_this_s, ia G 313 g_this_s), (h_this_saved, ia G 325 g_this_saved)] [(0, .ref h_this), (1, .int p0), (2, .int p1), (3, .int v3), (4, .int v4), (5, .int v5)]) (v3 : Int32) (v4 : Int32) (v5 : Int32) (v7 : Int32) (g_this_pile : Nat → Int32) (g_this_plan : Nat → Int32) (g_this_s : Nat → Int32) (g_this_saved : Nat → Int32), f_X9_playedFrom_b87 rec20 v3 v4 v5 v7 g_this_pile g_this_plan g_this_s g_this_saved = some (r, m_this_pile, m_this_plan, m_this_s, m_this_saved) → K 87 ([] : List Value) [(h_this, ob 9 [.ref h_this_s, .ref h_this_kept, .ref h_this_laid, .int x_this_isKept, .ref h_this_pile, .ref h_this_tape, .int x_this_taped, .ref h_this_letters, .int x_this_at, .int x_this_begun, .int x_this_token, .int x_this_value, .int x_this_opened, .int x_this_steps, .ref h_this_code0, .ref h_this_read, .ref h_this_saved, .ref h_this_plan, .ref h_this_bestPlan, .int x_this_most, .int x_this_many, .int x_this_few, .int x_this_everHome, .ref h_this_offThen, .ref h_this_paidThen, .int x_this_firstFit, .ref h_this_rows, .int x_this_rowMany, .ref h_this_sorts, .ref h_this_sizes, .ref h_this_number, .ref h_this_holds, .ref h_this_heldOne, .ref h_this_trace, .int x_this_traced, .int x_this_own, .int x_this_isParted]), (h_this_pile, ia G 200 g_this_pile), (h_this_plan, ia G 4 g_this_plan), (h_this_s, ia G 313 g_this_s), (h_this_saved, ia G 325 g_this_saved)] [(0, .ref h_this), (1, .int p0), (2, .int p1), (3, .int v3), (4, .int v4), (5, .int v5), (7, .int v7)] := by
    intro rec20 hrec20 v3 v4 v5 v7 g_this_pile g_this_plan g_this_s g_this_saved hf
    unfold f_X9_playedFrom_b87 at hf
    refine hK1 _ _ _ _ (fun H locs ls h hl => ?_)
    refine lv_iconst (v := (0 : Int32)) hx hb dX9_playedFrom_87 rfl ?_
    exact hK2 _ _ _ _ (B88 _ hrec20 v3 v4 v5 v7 (0 : Int32) g_this_pile g_this_plan g_this_s g_this_saved hf) _ _ _ h (lv_sub hl [0, 1, 2, 3, 4, 5, 6] rfl)
  have L20 : ∀ (n : Nat) (v3 : Int32) (v4 : Int32) (v5 : Int32) (g_this_pile : Nat → Int32) (g_this_plan : Nat → Int32) (g_this_s : Nat → Int32) (g_this_saved : Nat → Int32), f_X9_playedFrom_L20 self p0 p1 n v3 v4 v5 g_this_pile g_this_plan g_this_s g_this_saved = some (r, m_this_pile, m_this_plan, m_this_s, m_this_saved) → K 20 ([] : List Value) [(h_this, ob 9 [.ref h_this_s, .ref h_this_kept, .ref h_this_laid, .int x_this_isKept, .ref h_this_pile, .ref h_this_tape, .int x_this_taped, .ref h_this_letters, .int x_this_at, .int x_this_begun, .int x_this_token, .int x_this_value, .int x_this_opened, .int x_this_steps, .ref h_this_code0, .ref h_this_read, .ref h_this_saved, .ref h_this_plan, .ref h_this_bestPlan, .int x_this_most, .int x_this_many, .int x_this_few, .int x_this_everHome, .ref h_this_offThen, .ref h_this_paidThen, .int x_this_firstFit, .ref h_this_rows, .int x_this_rowMany, .ref h_this_sorts, .ref h_this_sizes, .ref h_this_number, .ref h_this_holds, .ref h_this_heldOne, .ref h_this_trace, .int x_this_traced, .int x_this_own, .int x_this_isParted]), (h_this_pile, ia G 200 g_this_pile), (h_this_plan, ia G 4 g_this_plan), (h_this_s, ia G 313 g_this_s), (h_this_saved, ia G 325 g_this_saved)] [(0, .ref h_this), (1, .int p0), (2, .int p1), (3, .int v3), (4, .int v4), (5, .int v5)] := by
    intro n
    induction n with
    | zero =>
      intro v3 v4 v5 g_this_pile g_this_plan g_this_s g_this_saved hf
      replace hf : (none : Option _) = some _ := hf
      cases hf
    | succ n ih =>
      intro v3 v4 v5 g_this_pile g_this_plan g_this_s g_this_saved hf
      rw [f_X9_playedFrom_L20] at hf
      refine hK1 _ _ _ _ (fun H locs ls h hl => ?_)
      refine lv_iload hx hb dX9_playedFrom_20 (lv_at hl 5 rfl) ?_
      refine lv_aload_n hx hb dX9_playedFrom_22 rfl (lv_at hl 0 rfl) ?_
      refine r_get C h fk_X9_9 0 rfl rfl dX9_playedFrom_23 ?_
      refine lv_iconst (v := (4 : Int32)) hx hb dX9_playedFrom_26 rfl ?_
      refine r_ialdL C h 3 rfl (vlit rfl) 4 rfl dX9_playedFrom_27 ?_
      refine lv_icmp_gt (tgt := 122) hx hb dX9_playedFrom_28 rfl (fun c4 => ?_) (fun c4 => ?_)
      · replace hf := ifp c4 hf
        refine lv_aload_n hx hb dX9_playedFrom_122 rfl (lv_at hl 0 rfl) ?_
        refine r_get C h fk_X9_38 0 rfl rfl dX9_playedFrom_123 ?_
        refine lv_iload_n hx hb dX9_playedFrom_126 rfl (lv_at hl 1 rfl) ?_
        refine lv_iload hx hb dX9_playedFrom_127 (lv_at hl 4 rfl) ?_
        replace hf := chkI_inv hf
        obtain ⟨hi5, hf⟩ := hf
        refine r_iast (ws' := [(h_this, ob 9 [.ref h_this_s, .ref h_this_kept, .ref h_this_laid, .int x_this_isKept, .ref h_this_pile, .ref h_this_tape, .int x_this_taped, .ref h_this_letters, .int x_this_at, .int x_this_begun, .int x_this_token, .int x_this_value, .int x_this_opened, .int x_this_steps, .ref h_this_code0, .ref h_this_read, .ref h_this_saved, .ref h_this_plan, .ref h_this_bestPlan, .int x_this_most, .int x_this_many, .int x_this_few, .int x_this_everHome, .ref h_this_offThen, .ref h_this_paidThen, .int x_this_firstFit, .ref h_this_rows, .int x_this_rowMany, .ref h_this_sorts, .ref h_this_sizes, .ref h_this_number, .ref h_this_holds, .ref h_this_heldOne, .ref h_this_trace, .int x_this_traced, .int x_this_own, .int x_this_isParted]), (h_this_pile, ia G 200 g_this_pile), (h_this_plan, ia G 4 (upd g_this_plan p0.toNatClampNeg v4)), (h_this_s, ia G 313 g_this_s), (h_this_saved, ia G 325 g_this_saved)]) C h 2 rfl hi5 dX9_playedFrom_129 rfl (fun H locs h => ?_)
        refine lv_iload_n hx hb dX9_playedFrom_130 rfl (lv_at hl 3 rfl) ?_
        cases hf
        exact r_iret C h hr hlk rfl dX9_playedFrom_131
      · replace hf := ifn c4 hf
        refine lv_aload_n hx hb dX9_playedFrom_31 rfl (lv_at hl 0 rfl) ?_
        refine lv_iload hx hb dX9_playedFrom_32 (lv_at hl 5 rfl) ?_
        replace hf := bd3_inv hf
        obtain ⟨r6, g7, g8, hc9, hf⟩ := hf
        refine r_ciV (ws' := [(h_this, ob 9 [.ref h_this_s, .ref h_this_kept, .ref h_this_laid, .int x_this_isKept, .ref h_this_pile, .ref h_this_tape, .int x_this_taped, .ref h_this_letters, .int x_this_at, .int x_this_begun, .int x_this_token, .int x_this_value, .int x_this_opened, .int x_this_steps, .ref h_this_code0, .ref h_this_read, .ref h_this_saved, .ref h_this_plan, .ref h_this_bestPlan, .int x_this_most, .int x_this_many, .int x_this_few, .int x_this_everHome, .ref h_this_offThen, .ref h_this_paidThen, .int x_this_firstFit, .ref h_this_rows, .int x_this_rowMany, .ref h_this_sorts, .ref h_this_sizes, .ref h_this_number, .ref h_this_holds, .ref h_this_heldOne, .ref h_this_trace, .int x_this_traced, .int x_this_own, .int x_this_isParted]), (h_this_pile, ia G 200 g7), (h_this_plan, ia G 4 g_this_plan), (h_this_s, ia G 313 g8), (h_this_saved, ia G 325 g_this_saved)]) C h (c_X9_goesBy hc9) mv_X9_238 rfl 0 rfl [0, 1, 3] rfl rfl rfl rfl rfl hl.1 rfl (Nat.le_of_ble_eq_true rfl) (rok (by omega)) dX9_playedFrom_34 (fun H locs h => ?_)
        refine lv_istore (lv' := [(6, .int r6), (0, .ref h_this), (1, .int p0), (2, .int p1), (3, .int v3), (4, .int v4), (5, .int v5)]) hx hb dX9_playedFrom_37 hl (by decide) rfl (fun ls hl => ?_)
        refine lv_iload hx hb dX9_playedFrom_39 (lv_at hl 0 rfl) ?_
        refine lv_aload_n hx hb dX9_playedFrom_41 rfl (lv_at hl 1 rfl) ?_
        refine lv_iload_n hx hb dX9_playedFrom_42 rfl (lv_at hl 2 rfl) ?_
        refine lv_iconst (v := (1 : Int32)) hx hb dX9_playedFrom_43 rfl ?_
        refine lv_iadd hx hb dX9_playedFrom_44 ?_
        refine lv_iload_n hx hb dX9_playedFrom_45 rfl (lv_at hl 3 rfl) ?_
        replace hf := bd5_inv hf
        obtain ⟨r10, g11, g12, g13, g14, hc15, hf⟩ := hf
        refine r_ciV (ws' := [(h_this, ob 9 [.ref h_this_s, .ref h_this_kept, .ref h_this_laid, .int x_this_isKept, .ref h_this_pile, .ref h_this_tape, .int x_this_taped, .ref h_this_letters, .int x_this_at, .int x_this_begun, .int x_this_token, .int x_this_value, .int x_this_opened, .int x_this_steps, .ref h_this_code0, .ref h_this_read, .ref h_this_saved, .ref h_this_plan, .ref h_this_bestPlan, .int x_this_most, .int x_this_many, .int x_this_few, .int x_this_everHome, .ref h_this_offThen, .ref h_this_paidThen, .int x_this_firstFit, .ref h_this_rows, .int x_this_rowMany, .ref h_this_sorts, .ref h_this_sizes, .ref h_this_number, .ref h_this_holds, .ref h_this_heldOne, .ref h_this_trace, .int x_this_traced, .int x_this_own, .int x_this_isParted]), (h_this_pile, ia G 200 g11), (h_this_plan, ia G 4 g12), (h_this_s, ia G 313 g13), (h_this_saved, ia G 325 g14)]) C h (hself hc15) mv_X9_301 rfl 0 rfl [0, 1, 2, 3, 4] rfl rfl rfl rfl rfl hl.1 rfl (Nat.le_of_ble_eq_true rfl) (rok (by omega)) dX9_playedFrom_46 (fun H locs h => ?_)
        refine lv_iadd hx hb dX9_playedFrom_49 ?_
        refine lv_topi (fun t16 et16 => ?_)
        replace hf := lt1_inv et16 hf
        refine lv_istore (lv' := [(7, .int t16), (6, .int r6), (0, .ref h_this), (1, .int p0), (2, .int p1), (3, .int v3), (4, .int v4), (5, .int v5)]) hx hb dX9_playedFrom_50 hl (by decide) rfl (fun ls hl => ?_)
        refine lv_aload_n hx hb dX9_playedFrom_52 rfl (lv_at hl 2 rfl) ?_
        refine lv_iload_n hx hb dX9_playedFrom_53 rfl (lv_at hl 3 rfl) ?_
        replace hf := bd1_inv hf
        obtain ⟨g17, hc18, hf⟩ := hf
        refine r_cvV (ws' := [(h_this, ob 9 [.ref h_this_s, .ref h_this_kept, .ref h_this_laid, .int x_this_isKept, .ref h_this_pile, .ref h_this_tape, .int x_this_taped, .ref h_this_letters, .int x_this_at, .int x_this_begun, .int x_this_token, .int x_this_value, .int x_this_opened, .int x_this_steps, .ref h_this_code0, .ref h_this_read, .ref h_this_saved, .ref h_this_plan, .ref h_this_bestPlan, .int x_this_most, .int x_this_many, .int x_this_few, .int x_this_everHome, .ref h_this_offThen, .ref h_this_paidThen, .int x_this_firstFit, .ref h_this_rows, .int x_this_rowMany, .ref h_this_sorts, .ref h_this_sizes, .ref h_this_number, .ref h_this_holds, .ref h_this_heldOne, .ref h_this_trace, .int x_this_traced, .int x_this_own, .int x_this_isParted]), (h_this_pile, ia G 200 g11), (h_this_plan, ia G 4 g12), (h_this_s, ia G 313 g17), (h_this_saved, ia G 325 g14)]) C h (c_X9_restores hc18) mv_X9_285 rfl 0 rfl [0, 3, 4] rfl rfl rfl rfl rfl hl.1 rfl (Nat.le_of_ble_eq_true rfl) (rok (by omega)) dX9_playedFrom_54 (fun H locs h => ?_)
        refine lv_iload hx hb dX9_playedFrom_57 (lv_at hl 6 rfl) ?_
        refine lv_if_lt (tgt := 83) hx hb dX9_playedFrom_59 rfl (fun c19 => ?_) (fun c19 => ?_)
        · replace hf := ifp c19 hf
          exact hK2 _ _ _ _ (B83 _ ih v3 v4 v5 t16 g11 g12 g17 g14 hf) _ _ _ h (lv_sub hl [2, 3, 4, 5, 6, 7, 0] rfl)
        · replace hf := ifn c19 hf
          refine lv_iload_n hx hb dX9_playedFrom_62 rfl (lv_at hl 3 rfl) ?_
          refine lv_iconst (v := (2 : Int32)) hx hb dX9_playedFrom_63 rfl ?_
          refine lv_irem hx hb dX9_playedFrom_64 (by decide) ?_
          refine lv_if_ne (tgt := 77) hx hb dX9_playedFrom_65 rfl (fun c24 => ?_) (fun c24 => ?_)
          · replace hf := ifn c24 hf
            refine lv_iload hx hb dX9_playedFrom_77 (lv_at hl 0 rfl) ?_
            refine lv_iload_n hx hb dX9_playedFrom_79 rfl (lv_at hl 5 rfl) ?_
            refine lv_icmp_ge (tgt := 87) hx hb dX9_playedFrom_80 rfl (fun c25 => ?_) (fun c25 => ?_)
            · replace hf := ifp c25 hf
              exact hK2 _ _ _ _ (B87 _ ih v3 v4 v5 t16 g11 g12 g17 g14 hf) _ _ _ h (lv_sub hl [2, 3, 4, 5, 6, 7, 0] rfl)
            · replace hf := ifn c25 hf
              exact hK2 _ _ _ _ (B83 _ ih v3 v4 v5 t16 g11 g12 g17 g14 hf) _ _ _ h (lv_sub hl [2, 3, 4, 5, 6, 7, 0] rfl)
          · replace hf := ifp c24 hf
            refine lv_iload hx hb dX9_playedFrom_68 (lv_at hl 0 rfl) ?_
            refine lv_iload_n hx hb dX9_playedFrom_70 rfl (lv_at hl 5 rfl) ?_
            refine lv_icmp_le (tgt := 87) hx hb dX9_playedFrom_71 rfl (fun c26 => ?_) (fun c26 => ?_)
            · replace hf := ifp c26 hf
              exact hK2 _ _ _ _ (B87 _ ih v3 v4 v5 t16 g11 g12 g17 g14 hf) _ _ _ h (lv_sub hl [2, 3, 4, 5, 6, 7, 0] rfl)
            · replace hf := ifn c26 hf
              refine lv_goto (tgt := 83) hx hb dX9_playedFrom_74 rfl ?_
              exact hK2 _ _ _ _ (B83 _ ih v3 v4 v5 t16 g11 g12 g17 g14 hf) _ _ _ h (lv_sub hl [2, 3, 4, 5, 6, 7, 0] rfl)
  refine lv_iload_n hx hb dX9_playedFrom_0 rfl (lv_at hl 1 rfl) ?_
  refine lv_iload_n hx hb dX9_playedFrom_1 rfl (lv_at hl 2 rfl) ?_
  refine lv_icmp_ne (tgt := 7) hx hb dX9_playedFrom_2 rfl (fun c1 => ?_) (fun c1 => ?_)
  · replace hf := ifn c1 hf
    refine lv_aload_n hx hb dX9_playedFrom_7 rfl (lv_at hl 0 rfl) ?_
    refine lv_iload_n hx hb dX9_playedFrom_8 rfl (lv_at hl 1 rfl) ?_
    replace hf := bd1_inv hf
    obtain ⟨g2, hc3, hf⟩ := hf
    refine r_cvV (ws' := [(h_this, ob 9 [.ref h_this_s, .ref h_this_kept, .ref h_this_laid, .int x_this_isKept, .ref h_this_pile, .ref h_this_tape, .int x_this_taped, .ref h_this_letters, .int x_this_at, .int x_this_begun, .int x_this_token, .int x_this_value, .int x_this_opened, .int x_this_steps, .ref h_this_code0, .ref h_this_read, .ref h_this_saved, .ref h_this_plan, .ref h_this_bestPlan, .int x_this_most, .int x_this_many, .int x_this_few, .int x_this_everHome, .ref h_this_offThen, .ref h_this_paidThen, .int x_this_firstFit, .ref h_this_rows, .int x_this_rowMany, .ref h_this_sorts, .ref h_this_sizes, .ref h_this_number, .ref h_this_holds, .ref h_this_heldOne, .ref h_this_trace, .int x_this_traced, .int x_this_own, .int x_this_isParted]), (h_this_pile, ia G 200 f_this_pile), (h_this_plan, ia G 4 f_this_plan), (h_this_s, ia G 313 f_this_s), (h_this_saved, ia G 325 g2)]) C h (c_X9_saves hc3) mv_X9_278 rfl 0 rfl [0, 3, 4] rfl rfl rfl rfl rfl hl.1 rfl (Nat.le_of_ble_eq_true rfl) (rok (by omega)) dX9_playedFrom_9 (fun H locs h => ?_)
    refine lv_iconst (v := (0 : Int32)) hx hb dX9_playedFrom_12 rfl ?_
    refine lv_istore_n (lv' := [(3, .int (0 : Int32)), (0, .ref h_this), (1, .int p0), (2, .int p1)]) hx hb dX9_playedFrom_13 rfl hl (by decide) rfl (fun ls hl => ?_)
    refine lv_iconst (v := (-1 : Int32)) hx hb dX9_playedFrom_14 rfl ?_
    refine lv_istore (lv' := [(4, .int (-1 : Int32)), (3, .int (0 : Int32)), (0, .ref h_this), (1, .int p0), (2, .int p1)]) hx hb dX9_playedFrom_15 hl (by decide) rfl (fun ls hl => ?_)
    refine lv_iconst (v := (0 : Int32)) hx hb dX9_playedFrom_17 rfl ?_
    refine lv_istore (lv' := [(5, .int (0 : Int32)), (4, .int (-1 : Int32)), (3, .int (0 : Int32)), (0, .ref h_this), (1, .int p0), (2, .int p1)]) hx hb dX9_playedFrom_18 hl (by decide) rfl (fun ls hl => ?_)
    exact hK2 _ _ _ _ (L20 1000 (0 : Int32) (-1 : Int32) (0 : Int32) f_this_pile f_this_plan f_this_s g2 hf) _ _ _ h (lv_sub hl [3, 4, 5, 2, 1, 0] rfl)
  · replace hf := ifp c1 hf
    refine lv_iconst (v := (0 : Int32)) hx hb dX9_playedFrom_5 rfl ?_
    cases hf
    exact r_iret C h hr hlk rfl dX9_playedFrom_6
def F_X9_playedFrom : Nat → Int32 → Int32 → (Nat → Int32) → (Nat → Int32) → (Nat → Int32) → (Nat → Int32) → Option (Int32 × (Nat → Int32) × (Nat → Int32) × (Nat → Int32) × (Nat → Int32))
  | 0, _, _, _, _, _, _ => none
  | d + 1, p0, p1, f_this_pile, f_this_plan, f_this_s, f_this_saved => f_X9_playedFrom (F_X9_playedFrom d) p0 p1 f_this_pile f_this_plan f_this_s f_this_saved
theorem C_X9_playedFrom {l : Launch} {G : Gt} (d : Nat) : ∀ {h_this h_this_s h_this_kept h_this_laid h_this_pile h_this_tape h_this_letters h_this_code0 h_this_read h_this_saved h_this_plan h_this_bestPlan h_this_offThen h_this_paidThen h_this_rows h_this_sorts h_this_sizes h_this_number h_this_holds h_this_heldOne h_this_trace : Nat} {p0 : Int32} {p1 : Int32} {x_this_isKept : Int32} {x_this_taped : Int32} {x_this_at : Int32} {x_this_begun : Int32} {x_this_token : Int32} {x_this_value : Int32} {x_this_opened : Int32} {x_this_steps : Int32} {x_this_most : Int32} {x_this_many : Int32} {x_this_few : Int32} {x_this_everHome : Int32} {x_this_firstFit : Int32} {x_this_rowMany : Int32} {x_this_traced : Int32} {x_this_own : Int32} {x_this_isParted : Int32} {f_this_pile : Nat → Int32} {f_this_plan : Nat → Int32} {f_this_s : Nat → Int32} {f_this_saved : Nat → Int32} {r : Int32} {m_this_pile : Nat → Int32} {m_this_plan : Nat → Int32} {m_this_s : Nat → Int32} {m_this_saved : Nat → Int32} , F_X9_playedFrom d p0 p1 f_this_pile f_this_plan f_this_s f_this_saved = some (r, m_this_pile, m_this_plan, m_this_s, m_this_saved) → mFi l G yX9_playedFrom cX9_playedFrom 9 .int (d * 7) [.ref h_this, .int p0, .int p1] [(h_this, ob 9 [.ref h_this_s, .ref h_this_kept, .ref h_this_laid, .int x_this_isKept, .ref h_this_pile, .ref h_this_tape, .int x_this_taped, .ref h_this_letters, .int x_this_at, .int x_this_begun, .int x_this_token, .int x_this_value, .int x_this_opened, .int x_this_steps, .ref h_this_code0, .ref h_this_read, .ref h_this_saved, .ref h_this_plan, .ref h_this_bestPlan, .int x_this_most, .int x_this_many, .int x_this_few, .int x_this_everHome, .ref h_this_offThen, .ref h_this_paidThen, .int x_this_firstFit, .ref h_this_rows, .int x_this_rowMany, .ref h_this_sorts, .ref h_this_sizes, .ref h_this_number, .ref h_this_holds, .ref h_this_heldOne, .ref h_this_trace, .int x_this_traced, .int x_this_own, .int x_this_isParted]), (h_this_pile, ia G 200 f_this_pile), (h_this_plan, ia G 4 f_this_plan), (h_this_s, ia G 313 f_this_s), (h_this_saved, ia G 325 f_this_saved)] r [(h_this, ob 9 [.ref h_this_s, .ref h_this_kept, .ref h_this_laid, .int x_this_isKept, .ref h_this_pile, .ref h_this_tape, .int x_this_taped, .ref h_this_letters, .int x_this_at, .int x_this_begun, .int x_this_token, .int x_this_value, .int x_this_opened, .int x_this_steps, .ref h_this_code0, .ref h_this_read, .ref h_this_saved, .ref h_this_plan, .ref h_this_bestPlan, .int x_this_most, .int x_this_many, .int x_this_few, .int x_this_everHome, .ref h_this_offThen, .ref h_this_paidThen, .int x_this_firstFit, .ref h_this_rows, .int x_this_rowMany, .ref h_this_sorts, .ref h_this_sizes, .ref h_this_number, .ref h_this_holds, .ref h_this_heldOne, .ref h_this_trace, .int x_this_traced, .int x_this_own, .int x_this_isParted]), (h_this_pile, ia G 200 m_this_pile), (h_this_plan, ia G 4 m_this_plan), (h_this_s, ia G 313 m_this_s), (h_this_saved, ia G 325 m_this_saved)] := by
  induction d with
  | zero =>
    intros
    rename_i hf
    replace hf : (none : Option _) = some _ := hf
    cases hf
  | succ d ih =>
    intros
    rename_i hf
    rw [Nat.succ_mul]
    exact c_X9_playedFrom (self := F_X9_playedFrom d) ih hf
def f_X9_game (p0 : Int32) (f_this_pile : Nat → Int32) (f_this_plan : Nat → Int32) (f_this_s : Nat → Int32) (f_this_saved : Nat → Int32) : Option (Int32 × (Nat → Int32) × (Nat → Int32) × (Nat → Int32) × (Nat → Int32)) := bd1 (f_X9_in1 p0 (1 : Int32) (4 : Int32)) (fun r1 => (if r1 = 0 then some ((-1 : Int32), f_this_pile, f_this_plan, f_this_s, f_this_saved) else bd1 (f_X9_daysOf p0 f_this_s) (fun r4 => bd5 (F_X9_playedFrom 6 (0 : Int32) r4 f_this_pile f_this_plan f_this_s f_this_saved) (fun r6 g7 g8 g9 g10 => some (r6, g7, g8, g9, g10)))))
set_option maxRecDepth 100000 in
set_option maxHeartbeats 4000000 in
theorem c_X9_game {l : Launch} {G : Gt} {h_this h_this_s h_this_kept h_this_laid h_this_pile h_this_tape h_this_letters h_this_code0 h_this_read h_this_saved h_this_plan h_this_bestPlan h_this_offThen h_this_paidThen h_this_rows h_this_sorts h_this_sizes h_this_number h_this_holds h_this_heldOne h_this_trace : Nat} {p0 : Int32} {x_this_isKept : Int32} {x_this_taped : Int32} {x_this_at : Int32} {x_this_begun : Int32} {x_this_token : Int32} {x_this_value : Int32} {x_this_opened : Int32} {x_this_steps : Int32} {x_this_most : Int32} {x_this_many : Int32} {x_this_few : Int32} {x_this_everHome : Int32} {x_this_firstFit : Int32} {x_this_rowMany : Int32} {x_this_traced : Int32} {x_this_own : Int32} {x_this_isParted : Int32} {f_this_pile : Nat → Int32} {f_this_plan : Nat → Int32} {f_this_s : Nat → Int32} {f_this_saved : Nat → Int32} {r : Int32} {m_this_pile : Nat → Int32} {m_this_plan : Nat → Int32} {m_this_s : Nat → Int32} {m_this_saved : Nat → Int32} (hf : f_X9_game p0 f_this_pile f_this_plan f_this_s f_this_saved = some (r, m_this_pile, m_this_plan, m_this_s, m_this_saved)) : mFi l G yX9_game cX9_game 2 .int 43 [.ref h_this, .int p0] [(h_this, ob 9 [.ref h_this_s, .ref h_this_kept, .ref h_this_laid, .int x_this_isKept, .ref h_this_pile, .ref h_this_tape, .int x_this_taped, .ref h_this_letters, .int x_this_at, .int x_this_begun, .int x_this_token, .int x_this_value, .int x_this_opened, .int x_this_steps, .ref h_this_code0, .ref h_this_read, .ref h_this_saved, .ref h_this_plan, .ref h_this_bestPlan, .int x_this_most, .int x_this_many, .int x_this_few, .int x_this_everHome, .ref h_this_offThen, .ref h_this_paidThen, .int x_this_firstFit, .ref h_this_rows, .int x_this_rowMany, .ref h_this_sorts, .ref h_this_sizes, .ref h_this_number, .ref h_this_holds, .ref h_this_heldOne, .ref h_this_trace, .int x_this_traced, .int x_this_own, .int x_this_isParted]), (h_this_pile, ia G 200 f_this_pile), (h_this_plan, ia G 4 f_this_plan), (h_this_s, ia G 313 f_this_s), (h_this_saved, ia G 325 f_this_saved)] r [(h_this, ob 9 [.ref h_this_s, .ref h_this_kept, .ref h_this_laid, .int x_this_isKept, .ref h_this_pile, .ref h_this_tape, .int x_this_taped, .ref h_this_letters, .int x_this_at, .int x_this_begun, .int x_this_token, .int x_this_value, .int x_this_opened, .int x_this_steps, .ref h_this_code0, .ref h_this_read, .ref h_this_saved, .ref h_this_plan, .ref h_this_bestPlan, .int x_this_most, .int x_this_many, .int x_this_few, .int x_this_everHome, .ref h_this_offThen, .ref h_this_paidThen, .int x_this_firstFit, .ref h_this_rows, .int x_this_rowMany, .ref h_this_sorts, .ref h_this_sizes, .ref h_this_number, .ref h_this_holds, .ref h_this_heldOne, .ref h_this_trace, .int x_this_traced, .int x_this_own, .int x_this_isParted]), (h_this_pile, ia G 200 m_this_pile), (h_this_plan, ia G 4 m_this_plan), (h_this_s, ia G 313 m_this_s), (h_this_saved, ia G 325 m_this_saved)] := by
  refine mFi.of (by decide +kernel) (Nat.le_of_ble_eq_true rfl) ?_
  intro p e s m below meth c A C hr hlk h ls hl
  obtain ⟨hx, hb, hml, hown, hts⟩ := id C
  replace hl : lv_has ls 2 [(0, .ref h_this), (1, .int p0)] := hl
  unfold f_X9_game at hf
  refine lv_iload_n hx hb dX9_game_0 rfl (lv_at hl 1 rfl) ?_
  refine lv_iconst (v := (1 : Int32)) hx hb dX9_game_1 rfl ?_
  refine lv_iconst (v := (4 : Int32)) hx hb dX9_game_2 rfl ?_
  replace hf := bd1_inv hf
  obtain ⟨r1, hc2, hf⟩ := hf
  refine r_ciS0 C h (c_X9_in1 hc2) ms_X9_71 rfl [] rfl rfl hl.1 rfl (Nat.le_of_ble_eq_true rfl) (rok (by decide)) dX9_game_3 (fun H locs h => ?_)
  refine lv_if_eq (tgt := 22) hx hb dX9_game_6 rfl (fun c3 => ?_) (fun c3 => ?_)
  · replace hf := ifp c3 hf
    refine lv_iconst (v := (-1 : Int32)) hx hb dX9_game_22 rfl ?_
    cases hf
    exact r_iret C h hr hlk rfl dX9_game_23
  · replace hf := ifn c3 hf
    refine lv_aload_n hx hb dX9_game_9 rfl (lv_at hl 0 rfl) ?_
    refine lv_iconst (v := (0 : Int32)) hx hb dX9_game_10 rfl ?_
    refine lv_aload_n hx hb dX9_game_11 rfl (lv_at hl 0 rfl) ?_
    refine lv_iload_n hx hb dX9_game_12 rfl (lv_at hl 1 rfl) ?_
    replace hf := bd1_inv hf
    obtain ⟨r4, hc5, hf⟩ := hf
    refine r_ciV0 C h (c_X9_daysOf hc5) mv_X9_288 rfl 0 rfl [0, 3] rfl rfl hl.1 rfl (Nat.le_of_ble_eq_true rfl) (rok (by decide)) dX9_game_13 (fun H locs h => ?_)
    replace hf := bd5_inv hf
    obtain ⟨r6, g7, g8, g9, g10, hc11, hf⟩ := hf
    refine r_ciV (ws' := [(h_this, ob 9 [.ref h_this_s, .ref h_this_kept, .ref h_this_laid, .int x_this_isKept, .ref h_this_pile, .ref h_this_tape, .int x_this_taped, .ref h_this_letters, .int x_this_at, .int x_this_begun, .int x_this_token, .int x_this_value, .int x_this_opened, .int x_this_steps, .ref h_this_code0, .ref h_this_read, .ref h_this_saved, .ref h_this_plan, .ref h_this_bestPlan, .int x_this_most, .int x_this_many, .int x_this_few, .int x_this_everHome, .ref h_this_offThen, .ref h_this_paidThen, .int x_this_firstFit, .ref h_this_rows, .int x_this_rowMany, .ref h_this_sorts, .ref h_this_sizes, .ref h_this_number, .ref h_this_holds, .ref h_this_heldOne, .ref h_this_trace, .int x_this_traced, .int x_this_own, .int x_this_isParted]), (h_this_pile, ia G 200 g7), (h_this_plan, ia G 4 g8), (h_this_s, ia G 313 g9), (h_this_saved, ia G 325 g10)]) C h (C_X9_playedFrom 6 hc11) mv_X9_301 rfl 0 rfl [0, 1, 2, 3, 4] rfl rfl rfl rfl rfl hl.1 rfl (Nat.le_of_ble_eq_true rfl) (rok (by decide)) dX9_game_16 (fun H locs h => ?_)
    refine lv_goto (tgt := 23) hx hb dX9_game_19 rfl ?_
    cases hf
    exact r_iret C h hr hlk rfl dX9_game_23
def f_X9_play (p0 : Int32) (f_this_pile : Nat → Int32) (f_this_plan : Nat → Int32) (f_this_s : Nat → Int32) (f_this_saved : Nat → Int32) : Option (Int32 × (Nat → Int32) × (Nat → Int32) × (Nat → Int32) × (Nat → Int32)) := bd1 (f_X9_in1 p0 (1 : Int32) (4 : Int32)) (fun r1 => (if r1 = 0 then some ((-1 : Int32), f_this_pile, f_this_plan, f_this_s, f_this_saved) else bd1 (f_X9_isOver f_this_s) (fun r4 => (if r4 = 0 then bd1 (f_X9_daysOf p0 f_this_s) (fun r7 => bd5 (F_X9_playedFrom 6 (0 : Int32) r7 f_this_pile f_this_plan f_this_s f_this_saved) (fun r9 g10 g11 g12 g13 => (if 0 ≤ r9 then some (g11 0, g10, g11, g12, g13) else some ((-3 : Int32), g10, g11, g12, g13)))) else some ((-3 : Int32), f_this_pile, f_this_plan, f_this_s, f_this_saved)))))
set_option maxRecDepth 100000 in
set_option maxHeartbeats 4000000 in
theorem c_X9_play {l : Launch} {G : Gt} {h_this h_this_s h_this_kept h_this_laid h_this_pile h_this_tape h_this_letters h_this_code0 h_this_read h_this_saved h_this_plan h_this_bestPlan h_this_offThen h_this_paidThen h_this_rows h_this_sorts h_this_sizes h_this_number h_this_holds h_this_heldOne h_this_trace : Nat} {p0 : Int32} {x_this_isKept : Int32} {x_this_taped : Int32} {x_this_at : Int32} {x_this_begun : Int32} {x_this_token : Int32} {x_this_value : Int32} {x_this_opened : Int32} {x_this_steps : Int32} {x_this_most : Int32} {x_this_many : Int32} {x_this_few : Int32} {x_this_everHome : Int32} {x_this_firstFit : Int32} {x_this_rowMany : Int32} {x_this_traced : Int32} {x_this_own : Int32} {x_this_isParted : Int32} {f_this_pile : Nat → Int32} {f_this_plan : Nat → Int32} {f_this_s : Nat → Int32} {f_this_saved : Nat → Int32} {r : Int32} {m_this_pile : Nat → Int32} {m_this_plan : Nat → Int32} {m_this_s : Nat → Int32} {m_this_saved : Nat → Int32} (hf : f_X9_play p0 f_this_pile f_this_plan f_this_s f_this_saved = some (r, m_this_pile, m_this_plan, m_this_s, m_this_saved)) : mFi l G yX9_play cX9_play 3 .int 43 [.ref h_this, .int p0] [(h_this, ob 9 [.ref h_this_s, .ref h_this_kept, .ref h_this_laid, .int x_this_isKept, .ref h_this_pile, .ref h_this_tape, .int x_this_taped, .ref h_this_letters, .int x_this_at, .int x_this_begun, .int x_this_token, .int x_this_value, .int x_this_opened, .int x_this_steps, .ref h_this_code0, .ref h_this_read, .ref h_this_saved, .ref h_this_plan, .ref h_this_bestPlan, .int x_this_most, .int x_this_many, .int x_this_few, .int x_this_everHome, .ref h_this_offThen, .ref h_this_paidThen, .int x_this_firstFit, .ref h_this_rows, .int x_this_rowMany, .ref h_this_sorts, .ref h_this_sizes, .ref h_this_number, .ref h_this_holds, .ref h_this_heldOne, .ref h_this_trace, .int x_this_traced, .int x_this_own, .int x_this_isParted]), (h_this_pile, ia G 200 f_this_pile), (h_this_plan, ia G 4 f_this_plan), (h_this_s, ia G 313 f_this_s), (h_this_saved, ia G 325 f_this_saved)] r [(h_this, ob 9 [.ref h_this_s, .ref h_this_kept, .ref h_this_laid, .int x_this_isKept, .ref h_this_pile, .ref h_this_tape, .int x_this_taped, .ref h_this_letters, .int x_this_at, .int x_this_begun, .int x_this_token, .int x_this_value, .int x_this_opened, .int x_this_steps, .ref h_this_code0, .ref h_this_read, .ref h_this_saved, .ref h_this_plan, .ref h_this_bestPlan, .int x_this_most, .int x_this_many, .int x_this_few, .int x_this_everHome, .ref h_this_offThen, .ref h_this_paidThen, .int x_this_firstFit, .ref h_this_rows, .int x_this_rowMany, .ref h_this_sorts, .ref h_this_sizes, .ref h_this_number, .ref h_this_holds, .ref h_this_heldOne, .ref h_this_trace, .int x_this_traced, .int x_this_own, .int x_this_isParted]), (h_this_pile, ia G 200 m_this_pile), (h_this_plan, ia G 4 m_this_plan), (h_this_s, ia G 313 m_this_s), (h_this_saved, ia G 325 m_this_saved)] := by
  refine mFi.of (by decide +kernel) (Nat.le_of_ble_eq_true rfl) ?_
  intro p e s m below meth c A C hr hlk h ls hl
  obtain ⟨hx, hb, hml, hown, hts⟩ := id C
  replace hl : lv_has ls 3 [(0, .ref h_this), (1, .int p0)] := hl
  unfold f_X9_play at hf
  refine lv_iload_n hx hb dX9_play_0 rfl (lv_at hl 1 rfl) ?_
  refine lv_iconst (v := (1 : Int32)) hx hb dX9_play_1 rfl ?_
  refine lv_iconst (v := (4 : Int32)) hx hb dX9_play_2 rfl ?_
  replace hf := bd1_inv hf
  obtain ⟨r1, hc2, hf⟩ := hf
  refine r_ciS0 C h (c_X9_in1 hc2) ms_X9_71 rfl [] rfl rfl hl.1 rfl (Nat.le_of_ble_eq_true rfl) (rok (by decide)) dX9_play_3 (fun H locs h => ?_)
  refine lv_if_ne (tgt := 11) hx hb dX9_play_6 rfl (fun c3 => ?_) (fun c3 => ?_)
  · replace hf := ifn c3 hf
    refine lv_aload_n hx hb dX9_play_11 rfl (lv_at hl 0 rfl) ?_
    replace hf := bd1_inv hf
    obtain ⟨r4, hc5, hf⟩ := hf
    refine r_ciV0 C h (c_X9_isOver hc5) mv_X9_232 rfl 0 rfl [0, 3] rfl rfl hl.1 rfl (Nat.le_of_ble_eq_true rfl) (rok (by decide)) dX9_play_12 (fun H locs h => ?_)
    refine lv_if_eq (tgt := 21) hx hb dX9_play_15 rfl (fun c6 => ?_) (fun c6 => ?_)
    · replace hf := ifp c6 hf
      refine lv_aload_n hx hb dX9_play_21 rfl (lv_at hl 0 rfl) ?_
      refine lv_iconst (v := (0 : Int32)) hx hb dX9_play_22 rfl ?_
      refine lv_aload_n hx hb dX9_play_23 rfl (lv_at hl 0 rfl) ?_
      refine lv_iload_n hx hb dX9_play_24 rfl (lv_at hl 1 rfl) ?_
      replace hf := bd1_inv hf
      obtain ⟨r7, hc8, hf⟩ := hf
      refine r_ciV0 C h (c_X9_daysOf hc8) mv_X9_288 rfl 0 rfl [0, 3] rfl rfl hl.1 rfl (Nat.le_of_ble_eq_true rfl) (rok (by decide)) dX9_play_25 (fun H locs h => ?_)
      replace hf := bd5_inv hf
      obtain ⟨r9, g10, g11, g12, g13, hc14, hf⟩ := hf
      refine r_ciV (ws' := [(h_this, ob 9 [.ref h_this_s, .ref h_this_kept, .ref h_this_laid, .int x_this_isKept, .ref h_this_pile, .ref h_this_tape, .int x_this_taped, .ref h_this_letters, .int x_this_at, .int x_this_begun, .int x_this_token, .int x_this_value, .int x_this_opened, .int x_this_steps, .ref h_this_code0, .ref h_this_read, .ref h_this_saved, .ref h_this_plan, .ref h_this_bestPlan, .int x_this_most, .int x_this_many, .int x_this_few, .int x_this_everHome, .ref h_this_offThen, .ref h_this_paidThen, .int x_this_firstFit, .ref h_this_rows, .int x_this_rowMany, .ref h_this_sorts, .ref h_this_sizes, .ref h_this_number, .ref h_this_holds, .ref h_this_heldOne, .ref h_this_trace, .int x_this_traced, .int x_this_own, .int x_this_isParted]), (h_this_pile, ia G 200 g10), (h_this_plan, ia G 4 g11), (h_this_s, ia G 313 g12), (h_this_saved, ia G 325 g13)]) C h (C_X9_playedFrom 6 hc14) mv_X9_301 rfl 0 rfl [0, 1, 2, 3, 4] rfl rfl rfl rfl rfl hl.1 rfl (Nat.le_of_ble_eq_true rfl) (rok (by decide)) dX9_play_28 (fun H locs h => ?_)
      refine lv_istore_n (lv' := [(2, .int r9), (0, .ref h_this), (1, .int p0)]) hx hb dX9_play_31 rfl hl (by decide) rfl (fun ls hl => ?_)
      refine lv_iload_n hx hb dX9_play_32 rfl (lv_at hl 0 rfl) ?_
      refine lv_if_ge (tgt := 41) hx hb dX9_play_33 rfl (fun c15 => ?_) (fun c15 => ?_)
      · replace hf := ifp c15 hf
        refine lv_aload_n hx hb dX9_play_41 rfl (lv_at hl 1 rfl) ?_
        refine r_get C h fk_X9_38 0 rfl rfl dX9_play_42 ?_
        refine lv_iconst (v := (0 : Int32)) hx hb dX9_play_45 rfl ?_
        refine r_ialdL C h 2 rfl (vlit rfl) 0 rfl dX9_play_46 ?_
        cases hf
        exact r_iret C h hr hlk rfl dX9_play_47
      · replace hf := ifn c15 hf
        refine lv_bipush (v := (-3 : Int32)) hx hb dX9_play_36 rfl ?_
        refine lv_goto (tgt := 47) hx hb dX9_play_38 rfl ?_
        cases hf
        exact r_iret C h hr hlk rfl dX9_play_47
    · replace hf := ifn c6 hf
      refine lv_bipush (v := (-3 : Int32)) hx hb dX9_play_18 rfl ?_
      cases hf
      exact r_iret C h hr hlk rfl dX9_play_20
  · replace hf := ifp c3 hf
    refine lv_iconst (v := (-1 : Int32)) hx hb dX9_play_9 rfl ?_
    cases hf
    exact r_iret C h hr hlk rfl dX9_play_10
def f_X9_report_b11 (p0 : Int32) (p1 : Int32) (p2 : Int32) (p3 : Int32) (f_this_s : Nat → Int32) (s0 : Int32) : Option (Int32 × (Nat → Int32)) := bd1 (f_X9_in1 p0 (0 : Int32) (15 : Int32)) (fun r2 => (if r2 = 0 then some ((-1 : Int32), f_this_s) else bd1 (f_X9_in1 p1 (0 : Int32) (1 : Int32)) (fun r5 => (if r5 = 0 then some ((-1 : Int32), f_this_s) else bd1 (f_X9_in1 p2 (0 : Int32) s0) (fun r8 => (if r8 = 0 then some ((-1 : Int32), f_this_s) else bd1 (f_X9_in1 p3 p2 s0) (fun r11 => (if r11 = 0 then some ((-1 : Int32), f_this_s) else (if (f_this_s 6) = (6 : Int32) then some ((-2 : Int32), f_this_s) else lt1 ((65 : Int32) + ((4 : Int32) * (f_this_s 6))) (fun (t15 : Int32) => chkI t15 313 (chkI (t15 + (1 : Int32)) 313 (chkI (t15 + (2 : Int32)) 313 (chkI (t15 + (3 : Int32)) 313 (lt1 (((upd (upd (upd (upd f_this_s t15.toNatClampNeg p0) (t15 + (1 : Int32)).toNatClampNeg p1) (t15 + (2 : Int32)).toNatClampNeg p2) (t15 + (3 : Int32)).toNatClampNeg p3) 6) + (1 : Int32)) (fun (t20 : Int32) => some (((upd (upd (upd (upd (upd f_this_s t15.toNatClampNeg p0) (t15 + (1 : Int32)).toNatClampNeg p1) (t15 + (2 : Int32)).toNatClampNeg p2) (t15 + (3 : Int32)).toNatClampNeg p3) 6 t20) 6) - (1 : Int32), upd (upd (upd (upd (upd f_this_s t15.toNatClampNeg p0) (t15 + (1 : Int32)).toNatClampNeg p1) (t15 + (2 : Int32)).toNatClampNeg p2) (t15 + (3 : Int32)).toNatClampNeg p3) 6 t20))))))))))))))))
def f_X9_report (p0 : Int32) (p1 : Int32) (p2 : Int32) (p3 : Int32) (f_this_s : Nat → Int32) : Option (Int32 × (Nat → Int32)) := (if p1 = 0 then f_X9_report_b11 p0 p1 p2 p3 f_this_s (99 : Int32) else f_X9_report_b11 p0 p1 p2 p3 f_this_s (16 : Int32))
set_option maxRecDepth 100000 in
set_option maxHeartbeats 4000000 in
theorem c_X9_report {l : Launch} {G : Gt} {h_this h_this_s h_this_kept h_this_laid h_this_pile h_this_tape h_this_letters h_this_code0 h_this_read h_this_saved h_this_plan h_this_bestPlan h_this_offThen h_this_paidThen h_this_rows h_this_sorts h_this_sizes h_this_number h_this_holds h_this_heldOne h_this_trace : Nat} {p0 : Int32} {p1 : Int32} {p2 : Int32} {p3 : Int32} {x_this_isKept : Int32} {x_this_taped : Int32} {x_this_at : Int32} {x_this_begun : Int32} {x_this_token : Int32} {x_this_value : Int32} {x_this_opened : Int32} {x_this_steps : Int32} {x_this_most : Int32} {x_this_many : Int32} {x_this_few : Int32} {x_this_everHome : Int32} {x_this_firstFit : Int32} {x_this_rowMany : Int32} {x_this_traced : Int32} {x_this_own : Int32} {x_this_isParted : Int32} {f_this_s : Nat → Int32} {r : Int32} {m_this_s : Nat → Int32} (hf : f_X9_report p0 p1 p2 p3 f_this_s = some (r, m_this_s)) : mFi l G yX9_report cX9_report 7 .int 1 [.ref h_this, .int p0, .int p1, .int p2, .int p3] [(h_this, ob 9 [.ref h_this_s, .ref h_this_kept, .ref h_this_laid, .int x_this_isKept, .ref h_this_pile, .ref h_this_tape, .int x_this_taped, .ref h_this_letters, .int x_this_at, .int x_this_begun, .int x_this_token, .int x_this_value, .int x_this_opened, .int x_this_steps, .ref h_this_code0, .ref h_this_read, .ref h_this_saved, .ref h_this_plan, .ref h_this_bestPlan, .int x_this_most, .int x_this_many, .int x_this_few, .int x_this_everHome, .ref h_this_offThen, .ref h_this_paidThen, .int x_this_firstFit, .ref h_this_rows, .int x_this_rowMany, .ref h_this_sorts, .ref h_this_sizes, .ref h_this_number, .ref h_this_holds, .ref h_this_heldOne, .ref h_this_trace, .int x_this_traced, .int x_this_own, .int x_this_isParted]), (h_this_s, ia G 313 f_this_s)] r [(h_this, ob 9 [.ref h_this_s, .ref h_this_kept, .ref h_this_laid, .int x_this_isKept, .ref h_this_pile, .ref h_this_tape, .int x_this_taped, .ref h_this_letters, .int x_this_at, .int x_this_begun, .int x_this_token, .int x_this_value, .int x_this_opened, .int x_this_steps, .ref h_this_code0, .ref h_this_read, .ref h_this_saved, .ref h_this_plan, .ref h_this_bestPlan, .int x_this_most, .int x_this_many, .int x_this_few, .int x_this_everHome, .ref h_this_offThen, .ref h_this_paidThen, .int x_this_firstFit, .ref h_this_rows, .int x_this_rowMany, .ref h_this_sorts, .ref h_this_sizes, .ref h_this_number, .ref h_this_holds, .ref h_this_heldOne, .ref h_this_trace, .int x_this_traced, .int x_this_own, .int x_this_isParted]), (h_this_s, ia G 313 m_this_s)] := by
  refine mFi.of (by decide +kernel) (Nat.le_of_ble_eq_true rfl) ?_
  intro p e s m below meth c A C hr hlk h ls hl
  obtain ⟨hx, hb, hml, hown, hts⟩ := id C
  replace hl : lv_has ls 7 [(0, .ref h_this), (1, .int p0), (2, .int p1), (3, .int p2), (4, .int p3)] := hl
  unfold f_X9_report at hf
  refine with_K G A 7 (fun K hK1 hK2 => ?_)
  have B11 : ∀ (s0 : Int32), f_X9_report_b11 p0 p1 p2 p3 f_this_s s0 = some (r, m_this_s) → K 11 [.int s0] [(h_this, ob 9 [.ref h_this_s, .ref h_this_kept, .ref h_this_laid, .int x_this_isKept, .ref h_this_pile, .ref h_this_tape, .int x_this_taped, .ref h_this_letters, .int x_this_at, .int x_this_begun, .int x_this_token, .int x_this_value, .int x_this_opened, .int x_this_steps, .ref h_this_code0, .ref h_this_read, .ref h_this_saved, .ref h_this_plan, .ref h_this_bestPlan, .int x_this_most, .int x_this_many, .int x_this_few, .int x_this_everHome, .ref h_this_offThen, .ref h_this_paidThen, .int x_this_firstFit, .ref h_this_rows, .int x_this_rowMany, .ref h_this_sorts, .ref h_this_sizes, .ref h_this_number, .ref h_this_holds, .ref h_this_heldOne, .ref h_this_trace, .int x_this_traced, .int x_this_own, .int x_this_isParted]), (h_this_s, ia G 313 f_this_s)] [(0, .ref h_this), (1, .int p0), (2, .int p1), (3, .int p2), (4, .int p3)] := by
    intro s0 hf
    unfold f_X9_report_b11 at hf
    refine hK1 _ _ _ _ (fun H locs ls h hl => ?_)
    refine lv_istore (lv' := [(5, .int s0), (0, .ref h_this), (1, .int p0), (2, .int p1), (3, .int p2), (4, .int p3)]) hx hb dX9_report_11 hl (by decide) rfl (fun ls hl => ?_)
    refine lv_iload_n hx hb dX9_report_13 rfl (lv_at hl 2 rfl) ?_
    refine lv_iconst (v := (0 : Int32)) hx hb dX9_report_14 rfl ?_
    refine lv_bipush (v := (15 : Int32)) hx hb dX9_report_15 rfl ?_
    replace hf := bd1_inv hf
    obtain ⟨r2, hc3, hf⟩ := hf
    refine r_ciS0 C h (c_X9_in1 hc3) ms_X9_71 rfl [] rfl rfl hl.1 rfl (Nat.le_of_ble_eq_true rfl) (rok (by decide)) dX9_report_17 (fun H locs h => ?_)
    refine lv_if_eq (tgt := 53) hx hb dX9_report_20 rfl (fun c4 => ?_) (fun c4 => ?_)
    · replace hf := ifp c4 hf
      refine lv_iconst (v := (-1 : Int32)) hx hb dX9_report_53 rfl ?_
      cases hf
      exact r_iret C h hr hlk rfl dX9_report_54
    · replace hf := ifn c4 hf
      refine lv_iload_n hx hb dX9_report_23 rfl (lv_at hl 3 rfl) ?_
      refine lv_iconst (v := (0 : Int32)) hx hb dX9_report_24 rfl ?_
      refine lv_iconst (v := (1 : Int32)) hx hb dX9_report_25 rfl ?_
      replace hf := bd1_inv hf
      obtain ⟨r5, hc6, hf⟩ := hf
      refine r_ciS0 C h (c_X9_in1 hc6) ms_X9_71 rfl [] rfl rfl hl.1 rfl (Nat.le_of_ble_eq_true rfl) (rok (by decide)) dX9_report_26 (fun H locs h => ?_)
      refine lv_if_eq (tgt := 53) hx hb dX9_report_29 rfl (fun c7 => ?_) (fun c7 => ?_)
      · replace hf := ifp c7 hf
        refine lv_iconst (v := (-1 : Int32)) hx hb dX9_report_53 rfl ?_
        cases hf
        exact r_iret C h hr hlk rfl dX9_report_54
      · replace hf := ifn c7 hf
        refine lv_iload_n hx hb dX9_report_32 rfl (lv_at hl 4 rfl) ?_
        refine lv_iconst (v := (0 : Int32)) hx hb dX9_report_33 rfl ?_
        refine lv_iload hx hb dX9_report_34 (lv_at hl 0 rfl) ?_
        replace hf := bd1_inv hf
        obtain ⟨r8, hc9, hf⟩ := hf
        refine r_ciS0 C h (c_X9_in1 hc9) ms_X9_71 rfl [] rfl rfl hl.1 rfl (Nat.le_of_ble_eq_true rfl) (rok (by decide)) dX9_report_36 (fun H locs h => ?_)
        refine lv_if_eq (tgt := 53) hx hb dX9_report_39 rfl (fun c10 => ?_) (fun c10 => ?_)
        · replace hf := ifp c10 hf
          refine lv_iconst (v := (-1 : Int32)) hx hb dX9_report_53 rfl ?_
          cases hf
          exact r_iret C h hr hlk rfl dX9_report_54
        · replace hf := ifn c10 hf
          refine lv_iload hx hb dX9_report_42 (lv_at hl 5 rfl) ?_
          refine lv_iload_n hx hb dX9_report_44 rfl (lv_at hl 4 rfl) ?_
          refine lv_iload hx hb dX9_report_45 (lv_at hl 0 rfl) ?_
          replace hf := bd1_inv hf
          obtain ⟨r11, hc12, hf⟩ := hf
          refine r_ciS0 C h (c_X9_in1 hc12) ms_X9_71 rfl [] rfl rfl hl.1 rfl (Nat.le_of_ble_eq_true rfl) (rok (by decide)) dX9_report_47 (fun H locs h => ?_)
          refine lv_if_ne (tgt := 55) hx hb dX9_report_50 rfl (fun c13 => ?_) (fun c13 => ?_)
          · replace hf := ifn c13 hf
            refine lv_aload_n hx hb dX9_report_55 rfl (lv_at hl 1 rfl) ?_
            refine r_get C h fk_X9_9 0 rfl rfl dX9_report_56 ?_
            refine lv_bipush (v := (6 : Int32)) hx hb dX9_report_59 rfl ?_
            refine r_ialdL C h 1 rfl (vlit rfl) 6 rfl dX9_report_61 ?_
            refine lv_bipush (v := (6 : Int32)) hx hb dX9_report_62 rfl ?_
            refine lv_icmp_ne (tgt := 70) hx hb dX9_report_64 rfl (fun c14 => ?_) (fun c14 => ?_)
            · replace hf := ifn c14 hf
              refine lv_bipush (v := (65 : Int32)) hx hb dX9_report_70 rfl ?_
              refine lv_iconst (v := (4 : Int32)) hx hb dX9_report_72 rfl ?_
              refine lv_aload_n hx hb dX9_report_73 rfl (lv_at hl 1 rfl) ?_
              refine r_get C h fk_X9_9 0 rfl rfl dX9_report_74 ?_
              refine lv_bipush (v := (6 : Int32)) hx hb dX9_report_77 rfl ?_
              refine r_ialdL C h 1 rfl (vlit rfl) 6 rfl dX9_report_79 ?_
              refine lv_imul hx hb dX9_report_80 ?_
              refine lv_iadd hx hb dX9_report_81 ?_
              refine lv_topi (fun t15 et15 => ?_)
              replace hf := lt1_inv et15 hf
              refine lv_istore (lv' := [(6, .int t15), (5, .int s0), (0, .ref h_this), (1, .int p0), (2, .int p1), (3, .int p2), (4, .int p3)]) hx hb dX9_report_82 hl (by decide) rfl (fun ls hl => ?_)
              refine lv_aload_n hx hb dX9_report_84 rfl (lv_at hl 2 rfl) ?_
              refine r_get C h fk_X9_9 0 rfl rfl dX9_report_85 ?_
              refine lv_iload hx hb dX9_report_88 (lv_at hl 0 rfl) ?_
              refine lv_iload_n hx hb dX9_report_90 rfl (lv_at hl 3 rfl) ?_
              replace hf := chkI_inv hf
              obtain ⟨hi16, hf⟩ := hf
              refine r_iast (ws' := [(h_this, ob 9 [.ref h_this_s, .ref h_this_kept, .ref h_this_laid, .int x_this_isKept, .ref h_this_pile, .ref h_this_tape, .int x_this_taped, .ref h_this_letters, .int x_this_at, .int x_this_begun, .int x_this_token, .int x_this_value, .int x_this_opened, .int x_this_steps, .ref h_this_code0, .ref h_this_read, .ref h_this_saved, .ref h_this_plan, .ref h_this_bestPlan, .int x_this_most, .int x_this_many, .int x_this_few, .int x_this_everHome, .ref h_this_offThen, .ref h_this_paidThen, .int x_this_firstFit, .ref h_this_rows, .int x_this_rowMany, .ref h_this_sorts, .ref h_this_sizes, .ref h_this_number, .ref h_this_holds, .ref h_this_heldOne, .ref h_this_trace, .int x_this_traced, .int x_this_own, .int x_this_isParted]), (h_this_s, ia G 313 (upd f_this_s t15.toNatClampNeg p0))]) C h 1 rfl hi16 dX9_report_91 rfl (fun H locs h => ?_)
              refine lv_aload_n hx hb dX9_report_92 rfl (lv_at hl 2 rfl) ?_
              refine r_get C h fk_X9_9 0 rfl rfl dX9_report_93 ?_
              refine lv_iload hx hb dX9_report_96 (lv_at hl 0 rfl) ?_
              refine lv_iconst (v := (1 : Int32)) hx hb dX9_report_98 rfl ?_
              refine lv_iadd hx hb dX9_report_99 ?_
              refine lv_iload_n hx hb dX9_report_100 rfl (lv_at hl 4 rfl) ?_
              replace hf := chkI_inv hf
              obtain ⟨hi17, hf⟩ := hf
              refine r_iast (ws' := [(h_this, ob 9 [.ref h_this_s, .ref h_this_kept, .ref h_this_laid, .int x_this_isKept, .ref h_this_pile, .ref h_this_tape, .int x_this_taped, .ref h_this_letters, .int x_this_at, .int x_this_begun, .int x_this_token, .int x_this_value, .int x_this_opened, .int x_this_steps, .ref h_this_code0, .ref h_this_read, .ref h_this_saved, .ref h_this_plan, .ref h_this_bestPlan, .int x_this_most, .int x_this_many, .int x_this_few, .int x_this_everHome, .ref h_this_offThen, .ref h_this_paidThen, .int x_this_firstFit, .ref h_this_rows, .int x_this_rowMany, .ref h_this_sorts, .ref h_this_sizes, .ref h_this_number, .ref h_this_holds, .ref h_this_heldOne, .ref h_this_trace, .int x_this_traced, .int x_this_own, .int x_this_isParted]), (h_this_s, ia G 313 (upd (upd f_this_s t15.toNatClampNeg p0) (t15 + (1 : Int32)).toNatClampNeg p1))]) C h 1 rfl hi17 dX9_report_101 rfl (fun H locs h => ?_)
              refine lv_aload_n hx hb dX9_report_102 rfl (lv_at hl 2 rfl) ?_
              refine r_get C h fk_X9_9 0 rfl rfl dX9_report_103 ?_
              refine lv_iload hx hb dX9_report_106 (lv_at hl 0 rfl) ?_
              refine lv_iconst (v := (2 : Int32)) hx hb dX9_report_108 rfl ?_
              refine lv_iadd hx hb dX9_report_109 ?_
              refine lv_iload_n hx hb dX9_report_110 rfl (lv_at hl 5 rfl) ?_
              replace hf := chkI_inv hf
              obtain ⟨hi18, hf⟩ := hf
              refine r_iast (ws' := [(h_this, ob 9 [.ref h_this_s, .ref h_this_kept, .ref h_this_laid, .int x_this_isKept, .ref h_this_pile, .ref h_this_tape, .int x_this_taped, .ref h_this_letters, .int x_this_at, .int x_this_begun, .int x_this_token, .int x_this_value, .int x_this_opened, .int x_this_steps, .ref h_this_code0, .ref h_this_read, .ref h_this_saved, .ref h_this_plan, .ref h_this_bestPlan, .int x_this_most, .int x_this_many, .int x_this_few, .int x_this_everHome, .ref h_this_offThen, .ref h_this_paidThen, .int x_this_firstFit, .ref h_this_rows, .int x_this_rowMany, .ref h_this_sorts, .ref h_this_sizes, .ref h_this_number, .ref h_this_holds, .ref h_this_heldOne, .ref h_this_trace, .int x_this_traced, .int x_this_own, .int x_this_isParted]), (h_this_s, ia G 313 (upd (upd (upd f_this_s t15.toNatClampNeg p0) (t15 + (1 : Int32)).toNatClampNeg p1) (t15 + (2 : Int32)).toNatClampNeg p2))]) C h 1 rfl hi18 dX9_report_111 rfl (fun H locs h => ?_)
              refine lv_aload_n hx hb dX9_report_112 rfl (lv_at hl 2 rfl) ?_
              refine r_get C h fk_X9_9 0 rfl rfl dX9_report_113 ?_
              refine lv_iload hx hb dX9_report_116 (lv_at hl 0 rfl) ?_
              refine lv_iconst (v := (3 : Int32)) hx hb dX9_report_118 rfl ?_
              refine lv_iadd hx hb dX9_report_119 ?_
              refine lv_iload hx hb dX9_report_120 (lv_at hl 6 rfl) ?_
              replace hf := chkI_inv hf
              obtain ⟨hi19, hf⟩ := hf
              refine r_iast (ws' := [(h_this, ob 9 [.ref h_this_s, .ref h_this_kept, .ref h_this_laid, .int x_this_isKept, .ref h_this_pile, .ref h_this_tape, .int x_this_taped, .ref h_this_letters, .int x_this_at, .int x_this_begun, .int x_this_token, .int x_this_value, .int x_this_opened, .int x_this_steps, .ref h_this_code0, .ref h_this_read, .ref h_this_saved, .ref h_this_plan, .ref h_this_bestPlan, .int x_this_most, .int x_this_many, .int x_this_few, .int x_this_everHome, .ref h_this_offThen, .ref h_this_paidThen, .int x_this_firstFit, .ref h_this_rows, .int x_this_rowMany, .ref h_this_sorts, .ref h_this_sizes, .ref h_this_number, .ref h_this_holds, .ref h_this_heldOne, .ref h_this_trace, .int x_this_traced, .int x_this_own, .int x_this_isParted]), (h_this_s, ia G 313 (upd (upd (upd (upd f_this_s t15.toNatClampNeg p0) (t15 + (1 : Int32)).toNatClampNeg p1) (t15 + (2 : Int32)).toNatClampNeg p2) (t15 + (3 : Int32)).toNatClampNeg p3))]) C h 1 rfl hi19 dX9_report_122 rfl (fun H locs h => ?_)
              refine lv_aload_n hx hb dX9_report_123 rfl (lv_at hl 2 rfl) ?_
              refine r_get C h fk_X9_9 0 rfl rfl dX9_report_124 ?_
              refine lv_bipush (v := (6 : Int32)) hx hb dX9_report_127 rfl ?_
              refine lv_dup2_11 hx hb dX9_report_129 rfl rfl ?_
              refine r_ialdL C h 1 rfl (vlit rfl) 6 rfl dX9_report_130 ?_
              refine lv_iconst (v := (1 : Int32)) hx hb dX9_report_131 rfl ?_
              refine lv_iadd hx hb dX9_report_132 ?_
              refine lv_topi (fun t20 et20 => ?_)
              replace hf := lt1_inv et20 hf
              refine r_iastL (ws' := [(h_this, ob 9 [.ref h_this_s, .ref h_this_kept, .ref h_this_laid, .int x_this_isKept, .ref h_this_pile, .ref h_this_tape, .int x_this_taped, .ref h_this_letters, .int x_this_at, .int x_this_begun, .int x_this_token, .int x_this_value, .int x_this_opened, .int x_this_steps, .ref h_this_code0, .ref h_this_read, .ref h_this_saved, .ref h_this_plan, .ref h_this_bestPlan, .int x_this_most, .int x_this_many, .int x_this_few, .int x_this_everHome, .ref h_this_offThen, .ref h_this_paidThen, .int x_this_firstFit, .ref h_this_rows, .int x_this_rowMany, .ref h_this_sorts, .ref h_this_sizes, .ref h_this_number, .ref h_this_holds, .ref h_this_heldOne, .ref h_this_trace, .int x_this_traced, .int x_this_own, .int x_this_isParted]), (h_this_s, ia G 313 (upd (upd (upd (upd (upd f_this_s t15.toNatClampNeg p0) (t15 + (1 : Int32)).toNatClampNeg p1) (t15 + (2 : Int32)).toNatClampNeg p2) (t15 + (3 : Int32)).toNatClampNeg p3) 6 t20))]) C h 1 rfl (vlit rfl) 6 rfl dX9_report_133 rfl (fun H locs h => ?_)
              refine lv_aload_n hx hb dX9_report_134 rfl (lv_at hl 2 rfl) ?_
              refine r_get C h fk_X9_9 0 rfl rfl dX9_report_135 ?_
              refine lv_bipush (v := (6 : Int32)) hx hb dX9_report_138 rfl ?_
              refine r_ialdL C h 1 rfl (vlit rfl) 6 rfl dX9_report_140 ?_
              refine lv_iconst (v := (1 : Int32)) hx hb dX9_report_141 rfl ?_
              refine lv_isub hx hb dX9_report_142 ?_
              cases hf
              exact r_iret C h hr hlk rfl dX9_report_143
            · replace hf := ifp c14 hf
              refine lv_bipush (v := (-2 : Int32)) hx hb dX9_report_67 rfl ?_
              cases hf
              exact r_iret C h hr hlk rfl dX9_report_69
          · replace hf := ifp c13 hf
            refine lv_iconst (v := (-1 : Int32)) hx hb dX9_report_53 rfl ?_
            cases hf
            exact r_iret C h hr hlk rfl dX9_report_54
  refine lv_iload_n hx hb dX9_report_0 rfl (lv_at hl 2 rfl) ?_
  refine lv_if_ne (tgt := 9) hx hb dX9_report_1 rfl (fun c1 => ?_) (fun c1 => ?_)
  · replace hf := ifn c1 hf
    refine lv_bipush (v := (16 : Int32)) hx hb dX9_report_9 rfl ?_
    exact hK2 _ _ _ _ (B11 (16 : Int32) hf) _ _ _ h (lv_sub hl [0, 1, 2, 3, 4] rfl)
  · replace hf := ifp c1 hf
    refine lv_bipush (v := (99 : Int32)) hx hb dX9_report_4 rfl ?_
    refine lv_goto (tgt := 11) hx hb dX9_report_6 rfl ?_
    exact hK2 _ _ _ _ (B11 (99 : Int32) hf) _ _ _ h (lv_sub hl [0, 1, 2, 3, 4] rfl)
def f_X9_forget (f_this_s : Nat → Int32) : Option (Int32 × (Nat → Int32)) := bd2 (f_X9_becomes (6 : Int32) (0 : Int32) f_this_s) (fun r1 g2 => some (r1, g2))
set_option maxRecDepth 100000 in
set_option maxHeartbeats 4000000 in
theorem c_X9_forget {l : Launch} {G : Gt} {h_this h_this_s h_this_kept h_this_laid h_this_pile h_this_tape h_this_letters h_this_code0 h_this_read h_this_saved h_this_plan h_this_bestPlan h_this_offThen h_this_paidThen h_this_rows h_this_sorts h_this_sizes h_this_number h_this_holds h_this_heldOne h_this_trace : Nat} {x_this_isKept : Int32} {x_this_taped : Int32} {x_this_at : Int32} {x_this_begun : Int32} {x_this_token : Int32} {x_this_value : Int32} {x_this_opened : Int32} {x_this_steps : Int32} {x_this_most : Int32} {x_this_many : Int32} {x_this_few : Int32} {x_this_everHome : Int32} {x_this_firstFit : Int32} {x_this_rowMany : Int32} {x_this_traced : Int32} {x_this_own : Int32} {x_this_isParted : Int32} {f_this_s : Nat → Int32} {r : Int32} {m_this_s : Nat → Int32} (hf : f_X9_forget f_this_s = some (r, m_this_s)) : mFi l G yX9_forget cX9_forget 1 .int 1 [.ref h_this] [(h_this, ob 9 [.ref h_this_s, .ref h_this_kept, .ref h_this_laid, .int x_this_isKept, .ref h_this_pile, .ref h_this_tape, .int x_this_taped, .ref h_this_letters, .int x_this_at, .int x_this_begun, .int x_this_token, .int x_this_value, .int x_this_opened, .int x_this_steps, .ref h_this_code0, .ref h_this_read, .ref h_this_saved, .ref h_this_plan, .ref h_this_bestPlan, .int x_this_most, .int x_this_many, .int x_this_few, .int x_this_everHome, .ref h_this_offThen, .ref h_this_paidThen, .int x_this_firstFit, .ref h_this_rows, .int x_this_rowMany, .ref h_this_sorts, .ref h_this_sizes, .ref h_this_number, .ref h_this_holds, .ref h_this_heldOne, .ref h_this_trace, .int x_this_traced, .int x_this_own, .int x_this_isParted]), (h_this_s, ia G 313 f_this_s)] r [(h_this, ob 9 [.ref h_this_s, .ref h_this_kept, .ref h_this_laid, .int x_this_isKept, .ref h_this_pile, .ref h_this_tape, .int x_this_taped, .ref h_this_letters, .int x_this_at, .int x_this_begun, .int x_this_token, .int x_this_value, .int x_this_opened, .int x_this_steps, .ref h_this_code0, .ref h_this_read, .ref h_this_saved, .ref h_this_plan, .ref h_this_bestPlan, .int x_this_most, .int x_this_many, .int x_this_few, .int x_this_everHome, .ref h_this_offThen, .ref h_this_paidThen, .int x_this_firstFit, .ref h_this_rows, .int x_this_rowMany, .ref h_this_sorts, .ref h_this_sizes, .ref h_this_number, .ref h_this_holds, .ref h_this_heldOne, .ref h_this_trace, .int x_this_traced, .int x_this_own, .int x_this_isParted]), (h_this_s, ia G 313 m_this_s)] := by
  refine mFi.of (by decide +kernel) (Nat.le_of_ble_eq_true rfl) ?_
  intro p e s m below meth c A C hr hlk h ls hl
  obtain ⟨hx, hb, hml, hown, hts⟩ := id C
  replace hl : lv_has ls 1 [(0, .ref h_this)] := hl
  unfold f_X9_forget at hf
  refine lv_aload_n hx hb dX9_forget_0 rfl (lv_at hl 0 rfl) ?_
  refine lv_bipush (v := (6 : Int32)) hx hb dX9_forget_1 rfl ?_
  refine lv_iconst (v := (0 : Int32)) hx hb dX9_forget_3 rfl ?_
  replace hf := bd2_inv hf
  obtain ⟨r1, g2, hc3, hf⟩ := hf
  refine r_ciV (ws' := [(h_this, ob 9 [.ref h_this_s, .ref h_this_kept, .ref h_this_laid, .int x_this_isKept, .ref h_this_pile, .ref h_this_tape, .int x_this_taped, .ref h_this_letters, .int x_this_at, .int x_this_begun, .int x_this_token, .int x_this_value, .int x_this_opened, .int x_this_steps, .ref h_this_code0, .ref h_this_read, .ref h_this_saved, .ref h_this_plan, .ref h_this_bestPlan, .int x_this_most, .int x_this_many, .int x_this_few, .int x_this_everHome, .ref h_this_offThen, .ref h_this_paidThen, .int x_this_firstFit, .ref h_this_rows, .int x_this_rowMany, .ref h_this_sorts, .ref h_this_sizes, .ref h_this_number, .ref h_this_holds, .ref h_this_heldOne, .ref h_this_trace, .int x_this_traced, .int x_this_own, .int x_this_isParted]), (h_this_s, ia G 313 g2)]) C h (c_X9_becomes hc3) mv_X9_229 rfl 0 rfl [0, 1] rfl rfl rfl rfl rfl hl.1 rfl (Nat.le_of_ble_eq_true rfl) (rok (by decide)) dX9_forget_4 (fun H locs h => ?_)
  cases hf
  exact r_iret C h hr hlk rfl dX9_forget_7
def f_X9_tellsLone_b72 (rec9 : Int32 → Int32 → Int32 → (Nat → Int32) → (Nat → Int32) → Option ((Nat → Int32) × (Nat → Int32))) (p0 : Int32) (v4 : Int32) (v6 : Int32) (v7 : Int32) (s0 : Int32) (s1 : Int32) (g_this_offThen : Nat → Int32) (g_this_paidThen : Nat → Int32) : Option ((Nat → Int32) × (Nat → Int32)) := lt1 (s0 + s1) (fun (t7 : Int32) => bd1 (f_X9_nearsBy p0 (v7 / (4 : Int32)) (v7 - v7 / (4 : Int32) * (4 : Int32)) v6) (fun r8 => bd1 (f_X9_held (v4 - r8) (99 : Int32)) (fun r10 => lt1 (v6 + (1 : Int32)) (fun (t12 : Int32) => rec9 r10 t7 t12 g_this_offThen g_this_paidThen))))
def f_X9_tellsLone_b71 (rec9 : Int32 → Int32 → Int32 → (Nat → Int32) → (Nat → Int32) → Option ((Nat → Int32) × (Nat → Int32))) (p0 : Int32) (v4 : Int32) (v6 : Int32) (v7 : Int32) (s0 : Int32) (g_this_offThen : Nat → Int32) (g_this_paidThen : Nat → Int32) : Option ((Nat → Int32) × (Nat → Int32)) := f_X9_tellsLone_b72 rec9 p0 v4 v6 v7 s0 (0 : Int32) g_this_offThen g_this_paidThen
def f_X9_tellsLone_L9 (p0 : Int32) (p1 : Int32) (f_this_s : Nat → Int32) : Nat → Int32 → Int32 → Int32 → (Nat → Int32) → (Nat → Int32) → Option ((Nat → Int32) × (Nat → Int32))
  | 0, _, _, _, _, _ => none
  | n + 1, v4, v5, v6, g_this_offThen, g_this_paidThen => (if (16 : Int32) ≤ v6 then some (g_this_offThen, g_this_paidThen) else chkI v6 16 (chkI v6 16 (chkI ((7 : Int32) + v6) 313 (lt1 (f_this_s ((7 : Int32) + v6).toNatClampNeg) (fun (t5 : Int32) => (if v4 ≤ 0 then f_X9_tellsLone_b71 (f_X9_tellsLone_L9 p0 p1 f_this_s n) p0 v4 v6 t5 v5 (upd g_this_offThen v6.toNatClampNeg v4) (upd g_this_paidThen v6.toNatClampNeg v5) else bd1 (f_X9_reachesBy p0 p1 (t5 / (4 : Int32))) (fun r13 => (if r13 < v4 then f_X9_tellsLone_b71 (f_X9_tellsLone_L9 p0 p1 f_this_s n) p0 v4 v6 t5 v5 (upd g_this_offThen v6.toNatClampNeg v4) (upd g_this_paidThen v6.toNatClampNeg v5) else f_X9_tellsLone_b72 (f_X9_tellsLone_L9 p0 p1 f_this_s n) p0 v4 v6 t5 v5 (1 : Int32) (upd g_this_offThen v6.toNatClampNeg v4) (upd g_this_paidThen v6.toNatClampNeg v5)))))))))
def f_X9_tellsLone (p0 : Int32) (p1 : Int32) (p2 : Int32) (f_this_offThen : Nat → Int32) (f_this_paidThen : Nat → Int32) (f_this_s : Nat → Int32) : Option ((Nat → Int32) × (Nat → Int32)) := f_X9_tellsLone_L9 p0 p1 f_this_s 1000 p2 (0 : Int32) (0 : Int32) f_this_offThen f_this_paidThen
set_option maxRecDepth 100000 in
set_option maxHeartbeats 4000000 in
theorem c_X9_tellsLone {l : Launch} {G : Gt} {h_this h_this_s h_this_kept h_this_laid h_this_pile h_this_tape h_this_letters h_this_code0 h_this_read h_this_saved h_this_plan h_this_bestPlan h_this_offThen h_this_paidThen h_this_rows h_this_sorts h_this_sizes h_this_number h_this_holds h_this_heldOne h_this_trace : Nat} {p0 : Int32} {p1 : Int32} {p2 : Int32} {x_this_isKept : Int32} {x_this_taped : Int32} {x_this_at : Int32} {x_this_begun : Int32} {x_this_token : Int32} {x_this_value : Int32} {x_this_opened : Int32} {x_this_steps : Int32} {x_this_most : Int32} {x_this_many : Int32} {x_this_few : Int32} {x_this_everHome : Int32} {x_this_firstFit : Int32} {x_this_rowMany : Int32} {x_this_traced : Int32} {x_this_own : Int32} {x_this_isParted : Int32} {f_this_offThen : Nat → Int32} {f_this_paidThen : Nat → Int32} {f_this_s : Nat → Int32} {m_this_offThen : Nat → Int32} {m_this_paidThen : Nat → Int32} (hf : f_X9_tellsLone p0 p1 p2 f_this_offThen f_this_paidThen f_this_s = some (m_this_offThen, m_this_paidThen)) : mFv l G yX9_tellsLone cX9_tellsLone 8 1 [.ref h_this, .int p0, .int p1, .int p2] [(h_this, ob 9 [.ref h_this_s, .ref h_this_kept, .ref h_this_laid, .int x_this_isKept, .ref h_this_pile, .ref h_this_tape, .int x_this_taped, .ref h_this_letters, .int x_this_at, .int x_this_begun, .int x_this_token, .int x_this_value, .int x_this_opened, .int x_this_steps, .ref h_this_code0, .ref h_this_read, .ref h_this_saved, .ref h_this_plan, .ref h_this_bestPlan, .int x_this_most, .int x_this_many, .int x_this_few, .int x_this_everHome, .ref h_this_offThen, .ref h_this_paidThen, .int x_this_firstFit, .ref h_this_rows, .int x_this_rowMany, .ref h_this_sorts, .ref h_this_sizes, .ref h_this_number, .ref h_this_holds, .ref h_this_heldOne, .ref h_this_trace, .int x_this_traced, .int x_this_own, .int x_this_isParted]), (h_this_offThen, ia G 16 f_this_offThen), (h_this_paidThen, ia G 16 f_this_paidThen), (h_this_s, ia G 313 f_this_s)] [(h_this, ob 9 [.ref h_this_s, .ref h_this_kept, .ref h_this_laid, .int x_this_isKept, .ref h_this_pile, .ref h_this_tape, .int x_this_taped, .ref h_this_letters, .int x_this_at, .int x_this_begun, .int x_this_token, .int x_this_value, .int x_this_opened, .int x_this_steps, .ref h_this_code0, .ref h_this_read, .ref h_this_saved, .ref h_this_plan, .ref h_this_bestPlan, .int x_this_most, .int x_this_many, .int x_this_few, .int x_this_everHome, .ref h_this_offThen, .ref h_this_paidThen, .int x_this_firstFit, .ref h_this_rows, .int x_this_rowMany, .ref h_this_sorts, .ref h_this_sizes, .ref h_this_number, .ref h_this_holds, .ref h_this_heldOne, .ref h_this_trace, .int x_this_traced, .int x_this_own, .int x_this_isParted]), (h_this_offThen, ia G 16 m_this_offThen), (h_this_paidThen, ia G 16 m_this_paidThen), (h_this_s, ia G 313 f_this_s)] := by
  refine mFv.of (by decide +kernel) (Nat.le_of_ble_eq_true rfl) ?_
  intro p e s m below meth c A C hr hlk h ls hl
  obtain ⟨hx, hb, hml, hown, hts⟩ := id C
  replace hl : lv_has ls 8 [(0, .ref h_this), (1, .int p0), (2, .int p1), (3, .int p2)] := hl
  unfold f_X9_tellsLone at hf
  refine with_K G A 8 (fun K hK1 hK2 => ?_)
  have B72 : ∀ (rec9 : Int32 → Int32 → Int32 → (Nat → Int32) → (Nat → Int32) → Option ((Nat → Int32) × (Nat → Int32))) (hrec9 : ∀ (v4 : Int32) (v5 : Int32) (v6 : Int32) (g_this_offThen : Nat → Int32) (g_this_paidThen : Nat → Int32), rec9 v4 v5 v6 g_this_offThen g_this_paidThen = some (m_this_offThen, m_this_paidThen) → K 9 ([] : List Value) [(h_this, ob 9 [.ref h_this_s, .ref h_this_kept, .ref h_this_laid, .int x_this_isKept, .ref h_this_pile, .ref h_this_tape, .int x_this_taped, .ref h_this_letters, .int x_this_at, .int x_this_begun, .int x_this_token, .int x_this_value, .int x_this_opened, .int x_this_steps, .ref h_this_code0, .ref h_this_read, .ref h_this_saved, .ref h_this_plan, .ref h_this_bestPlan, .int x_this_most, .int x_this_many, .int x_this_few, .int x_this_everHome, .ref h_this_offThen, .ref h_this_paidThen, .int x_this_firstFit, .ref h_this_rows, .int x_this_rowMany, .ref h_this_sorts, .ref h_this_sizes, .ref h_this_number, .ref h_this_holds, .ref h_this_heldOne, .ref h_this_trace, .int x_this_traced, .int x_this_own, .int x_this_isParted]), (h_this_offThen, ia G 16 g_this_offThen), (h_this_paidThen, ia G 16 g_this_paidThen), (h_this_s, ia G 313 f_this_s)] [(0, .ref h_this), (1, .int p0), (2, .int p1), (4, .int v4), (5, .int v5), (6, .int v6)]) (v4 : Int32) (v6 : Int32) (v7 : Int32) (s0 : Int32) (s1 : Int32) (g_this_offThen : Nat → Int32) (g_this_paidThen : Nat → Int32), f_X9_tellsLone_b72 rec9 p0 v4 v6 v7 s0 s1 g_this_offThen g_this_paidThen = some (m_this_offThen, m_this_paidThen) → K 72 [.int s1, .int s0] [(h_this, ob 9 [.ref h_this_s, .ref h_this_kept, .ref h_this_laid, .int x_this_isKept, .ref h_this_pile, .ref h_this_tape, .int x_this_taped, .ref h_this_letters, .int x_this_at, .int x_this_begun, .int x_this_token, .int x_this_value, .int x_this_opened, .int x_this_steps, .ref h_this_code0, .ref h_this_read, .ref h_this_saved, .ref h_this_plan, .ref h_this_bestPlan, .int x_this_most, .int x_this_many, .int x_this_few, .int x_this_everHome, .ref h_this_offThen, .ref h_this_paidThen, .int x_this_firstFit, .ref h_this_rows, .int x_this_rowMany, .ref h_this_sorts, .ref h_this_sizes, .ref h_this_number, .ref h_this_holds, .ref h_this_heldOne, .ref h_this_trace, .int x_this_traced, .int x_this_own, .int x_this_isParted]), (h_this_offThen, ia G 16 g_this_offThen), (h_this_paidThen, ia G 16 g_this_paidThen), (h_this_s, ia G 313 f_this_s)] [(0, .ref h_this), (1, .int p0), (2, .int p1), (4, .int v4), (6, .int v6), (7, .int v7)] := by
    intro rec9 hrec9 v4 v6 v7 s0 s1 g_this_offThen g_this_paidThen hf
    unfold f_X9_tellsLone_b72 at hf
    refine hK1 _ _ _ _ (fun H locs ls h hl => ?_)
    refine lv_iadd hx hb dX9_tellsLone_72 ?_
    refine lv_topi (fun t7 et7 => ?_)
    replace hf := lt1_inv et7 hf
    refine lv_istore (lv' := [(5, .int t7), (0, .ref h_this), (1, .int p0), (2, .int p1), (4, .int v4), (6, .int v6), (7, .int v7)]) hx hb dX9_tellsLone_73 hl (by decide) rfl (fun ls hl => ?_)
    refine lv_iload hx hb dX9_tellsLone_75 (lv_at hl 4 rfl) ?_
    refine lv_iload_n hx hb dX9_tellsLone_77 rfl (lv_at hl 2 rfl) ?_
    refine lv_iload hx hb dX9_tellsLone_78 (lv_at hl 6 rfl) ?_
    refine lv_iconst (v := (4 : Int32)) hx hb dX9_tellsLone_80 rfl ?_
    refine lv_idiv hx hb dX9_tellsLone_81 (by decide) ?_
    refine lv_iload hx hb dX9_tellsLone_82 (lv_at hl 6 rfl) ?_
    refine lv_iconst (v := (4 : Int32)) hx hb dX9_tellsLone_84 rfl ?_
    refine lv_irem hx hb dX9_tellsLone_85 (by decide) ?_
    refine lv_iload hx hb dX9_tellsLone_86 (lv_at hl 5 rfl) ?_
    replace hf := bd1_inv hf
    obtain ⟨r8, hc9, hf⟩ := hf
    refine r_ciS0 C h (c_X9_nearsBy hc9) ms_X9_87 rfl [] rfl rfl hl.1 rfl (Nat.le_of_ble_eq_true rfl) (rok (by decide)) dX9_tellsLone_88 (fun H locs h => ?_)
    refine lv_isub hx hb dX9_tellsLone_91 ?_
    refine lv_bipush (v := (99 : Int32)) hx hb dX9_tellsLone_92 rfl ?_
    replace hf := bd1_inv hf
    obtain ⟨r10, hc11, hf⟩ := hf
    refine r_ciS0 C h (c_X9_held hc11) ms_X9_202 rfl [] rfl rfl hl.1 rfl (Nat.le_of_ble_eq_true rfl) (rok (by decide)) dX9_tellsLone_94 (fun H locs h => ?_)
    refine lv_istore (lv' := [(4, .int r10), (5, .int t7), (0, .ref h_this), (1, .int p0), (2, .int p1), (6, .int v6), (7, .int v7)]) hx hb dX9_tellsLone_97 hl (by decide) rfl (fun ls hl => ?_)
    obtain ⟨t12, et12⟩ : ∃ y : Int32, y = v6 + (1 : Int32) := ⟨_, rfl⟩
    replace hf := lt1_inv et12 hf
    refine lv_iinc (v := t12) (lv' := [(6, .int t12), (4, .int r10), (5, .int t7), (0, .ref h_this), (1, .int p0), (2, .int p1), (7, .int v7)]) hx hb dX9_tellsLone_99 hl (k := 5) rfl (by rw [et12]; rfl) (by decide) rfl (fun ls hl => ?_)
    refine lv_goto (tgt := 9) hx hb dX9_tellsLone_102 rfl ?_
    exact hK2 _ _ _ _ (hrec9 r10 t7 t12 g_this_offThen g_this_paidThen hf) _ _ _ h (lv_sub hl [3, 4, 5, 1, 2, 0] rfl)
  have B71 : ∀ (rec9 : Int32 → Int32 → Int32 → (Nat → Int32) → (Nat → Int32) → Option ((Nat → Int32) × (Nat → Int32))) (hrec9 : ∀ (v4 : Int32) (v5 : Int32) (v6 : Int32) (g_this_offThen : Nat → Int32) (g_this_paidThen : Nat → Int32), rec9 v4 v5 v6 g_this_offThen g_this_paidThen = some (m_this_offThen, m_this_paidThen) → K 9 ([] : List Value) [(h_this, ob 9 [.ref h_this_s, .ref h_this_kept, .ref h_this_laid, .int x_this_isKept, .ref h_this_pile, .ref h_this_tape, .int x_this_taped, .ref h_this_letters, .int x_this_at, .int x_this_begun, .int x_this_token, .int x_this_value, .int x_this_opened, .int x_this_steps, .ref h_this_code0, .ref h_this_read, .ref h_this_saved, .ref h_this_plan, .ref h_this_bestPlan, .int x_this_most, .int x_this_many, .int x_this_few, .int x_this_everHome, .ref h_this_offThen, .ref h_this_paidThen, .int x_this_firstFit, .ref h_this_rows, .int x_this_rowMany, .ref h_this_sorts, .ref h_this_sizes, .ref h_this_number, .ref h_this_holds, .ref h_this_heldOne, .ref h_this_trace, .int x_this_traced, .int x_this_own, .int x_this_isParted]), (h_this_offThen, ia G 16 g_this_offThen), (h_this_paidThen, ia G 16 g_this_paidThen), (h_this_s, ia G 313 f_this_s)] [(0, .ref h_this), (1, .int p0), (2, .int p1), (4, .int v4), (5, .int v5), (6, .int v6)]) (v4 : Int32) (v6 : Int32) (v7 : Int32) (s0 : Int32) (g_this_offThen : Nat → Int32) (g_this_paidThen : Nat → Int32), f_X9_tellsLone_b71 rec9 p0 v4 v6 v7 s0 g_this_offThen g_this_paidThen = some (m_this_offThen, m_this_paidThen) → K 71 [.int s0] [(h_this, ob 9 [.ref h_this_s, .ref h_this_kept, .ref h_this_laid, .int x_this_isKept, .ref h_this_pile, .ref h_this_tape, .int x_this_taped, .ref h_this_letters, .int x_this_at, .int x_this_begun, .int x_this_token, .int x_this_value, .int x_this_opened, .int x_this_steps, .ref h_this_code0, .ref h_this_read, .ref h_this_saved, .ref h_this_plan, .ref h_this_bestPlan, .int x_this_most, .int x_this_many, .int x_this_few, .int x_this_everHome, .ref h_this_offThen, .ref h_this_paidThen, .int x_this_firstFit, .ref h_this_rows, .int x_this_rowMany, .ref h_this_sorts, .ref h_this_sizes, .ref h_this_number, .ref h_this_holds, .ref h_this_heldOne, .ref h_this_trace, .int x_this_traced, .int x_this_own, .int x_this_isParted]), (h_this_offThen, ia G 16 g_this_offThen), (h_this_paidThen, ia G 16 g_this_paidThen), (h_this_s, ia G 313 f_this_s)] [(0, .ref h_this), (1, .int p0), (2, .int p1), (4, .int v4), (6, .int v6), (7, .int v7)] := by
    intro rec9 hrec9 v4 v6 v7 s0 g_this_offThen g_this_paidThen hf
    unfold f_X9_tellsLone_b71 at hf
    refine hK1 _ _ _ _ (fun H locs ls h hl => ?_)
    refine lv_iconst (v := (0 : Int32)) hx hb dX9_tellsLone_71 rfl ?_
    exact hK2 _ _ _ _ (B72 _ hrec9 v4 v6 v7 s0 (0 : Int32) g_this_offThen g_this_paidThen hf) _ _ _ h (lv_sub hl [0, 1, 2, 3, 4, 5] rfl)
  have L9 : ∀ (n : Nat) (v4 : Int32) (v5 : Int32) (v6 : Int32) (g_this_offThen : Nat → Int32) (g_this_paidThen : Nat → Int32), f_X9_tellsLone_L9 p0 p1 f_this_s n v4 v5 v6 g_this_offThen g_this_paidThen = some (m_this_offThen, m_this_paidThen) → K 9 ([] : List Value) [(h_this, ob 9 [.ref h_this_s, .ref h_this_kept, .ref h_this_laid, .int x_this_isKept, .ref h_this_pile, .ref h_this_tape, .int x_this_taped, .ref h_this_letters, .int x_this_at, .int x_this_begun, .int x_this_token, .int x_this_value, .int x_this_opened, .int x_this_steps, .ref h_this_code0, .ref h_this_read, .ref h_this_saved, .ref h_this_plan, .ref h_this_bestPlan, .int x_this_most, .int x_this_many, .int x_this_few, .int x_this_everHome, .ref h_this_offThen, .ref h_this_paidThen, .int x_this_firstFit, .ref h_this_rows, .int x_this_rowMany, .ref h_this_sorts, .ref h_this_sizes, .ref h_this_number, .ref h_this_holds, .ref h_this_heldOne, .ref h_this_trace, .int x_this_traced, .int x_this_own, .int x_this_isParted]), (h_this_offThen, ia G 16 g_this_offThen), (h_this_paidThen, ia G 16 g_this_paidThen), (h_this_s, ia G 313 f_this_s)] [(0, .ref h_this), (1, .int p0), (2, .int p1), (4, .int v4), (5, .int v5), (6, .int v6)] := by
    intro n
    induction n with
    | zero =>
      intro v4 v5 v6 g_this_offThen g_this_paidThen hf
      replace hf : (none : Option _) = some _ := hf
      cases hf
    | succ n ih =>
      intro v4 v5 v6 g_this_offThen g_this_paidThen hf
      rw [f_X9_tellsLone_L9] at hf
      refine hK1 _ _ _ _ (fun H locs ls h hl => ?_)
      refine lv_iload hx hb dX9_tellsLone_9 (lv_at hl 5 rfl) ?_
      refine lv_bipush (v := (16 : Int32)) hx hb dX9_tellsLone_11 rfl ?_
      refine lv_icmp_ge (tgt := 105) hx hb dX9_tellsLone_13 rfl (fun c1 => ?_) (fun c1 => ?_)
      · replace hf := ifp c1 hf
        cases hf
        exact r_vret C h hr hlk dX9_tellsLone_105
      · replace hf := ifn c1 hf
        refine lv_aload_n hx hb dX9_tellsLone_16 rfl (lv_at hl 0 rfl) ?_
        refine r_get C h fk_X9_44 0 rfl rfl dX9_tellsLone_17 ?_
        refine lv_iload hx hb dX9_tellsLone_20 (lv_at hl 5 rfl) ?_
        refine lv_iload hx hb dX9_tellsLone_22 (lv_at hl 3 rfl) ?_
        replace hf := chkI_inv hf
        obtain ⟨hi2, hf⟩ := hf
        refine r_iast (ws' := [(h_this, ob 9 [.ref h_this_s, .ref h_this_kept, .ref h_this_laid, .int x_this_isKept, .ref h_this_pile, .ref h_this_tape, .int x_this_taped, .ref h_this_letters, .int x_this_at, .int x_this_begun, .int x_this_token, .int x_this_value, .int x_this_opened, .int x_this_steps, .ref h_this_code0, .ref h_this_read, .ref h_this_saved, .ref h_this_plan, .ref h_this_bestPlan, .int x_this_most, .int x_this_many, .int x_this_few, .int x_this_everHome, .ref h_this_offThen, .ref h_this_paidThen, .int x_this_firstFit, .ref h_this_rows, .int x_this_rowMany, .ref h_this_sorts, .ref h_this_sizes, .ref h_this_number, .ref h_this_holds, .ref h_this_heldOne, .ref h_this_trace, .int x_this_traced, .int x_this_own, .int x_this_isParted]), (h_this_offThen, ia G 16 (upd g_this_offThen v6.toNatClampNeg v4)), (h_this_paidThen, ia G 16 g_this_paidThen), (h_this_s, ia G 313 f_this_s)]) C h 1 rfl hi2 dX9_tellsLone_24 rfl (fun H locs h => ?_)
        refine lv_aload_n hx hb dX9_tellsLone_25 rfl (lv_at hl 0 rfl) ?_
        refine r_get C h fk_X9_47 0 rfl rfl dX9_tellsLone_26 ?_
        refine lv_iload hx hb dX9_tellsLone_29 (lv_at hl 5 rfl) ?_
        refine lv_iload hx hb dX9_tellsLone_31 (lv_at hl 4 rfl) ?_
        replace hf := chkI_inv hf
        obtain ⟨hi3, hf⟩ := hf
        refine r_iast (ws' := [(h_this, ob 9 [.ref h_this_s, .ref h_this_kept, .ref h_this_laid, .int x_this_isKept, .ref h_this_pile, .ref h_this_tape, .int x_this_taped, .ref h_this_letters, .int x_this_at, .int x_this_begun, .int x_this_token, .int x_this_value, .int x_this_opened, .int x_this_steps, .ref h_this_code0, .ref h_this_read, .ref h_this_saved, .ref h_this_plan, .ref h_this_bestPlan, .int x_this_most, .int x_this_many, .int x_this_few, .int x_this_everHome, .ref h_this_offThen, .ref h_this_paidThen, .int x_this_firstFit, .ref h_this_rows, .int x_this_rowMany, .ref h_this_sorts, .ref h_this_sizes, .ref h_this_number, .ref h_this_holds, .ref h_this_heldOne, .ref h_this_trace, .int x_this_traced, .int x_this_own, .int x_this_isParted]), (h_this_offThen, ia G 16 (upd g_this_offThen v6.toNatClampNeg v4)), (h_this_paidThen, ia G 16 (upd g_this_paidThen v6.toNatClampNeg v5)), (h_this_s, ia G 313 f_this_s)]) C h 2 rfl hi3 dX9_tellsLone_33 rfl (fun H locs h => ?_)
        refine lv_aload_n hx hb dX9_tellsLone_34 rfl (lv_at hl 0 rfl) ?_
        refine r_get C h fk_X9_9 0 rfl rfl dX9_tellsLone_35 ?_
        refine lv_bipush (v := (7 : Int32)) hx hb dX9_tellsLone_38 rfl ?_
        refine lv_iload hx hb dX9_tellsLone_40 (lv_at hl 5 rfl) ?_
        refine lv_iadd hx hb dX9_tellsLone_42 ?_
        replace hf := chkI_inv hf
        obtain ⟨hi4, hf⟩ := hf
        refine r_iald C h 3 rfl hi4 dX9_tellsLone_43 ?_
        refine lv_topi (fun t5 et5 => ?_)
        replace hf := lt1_inv et5 hf
        refine lv_istore (lv' := [(7, .int t5), (0, .ref h_this), (1, .int p0), (2, .int p1), (4, .int v4), (5, .int v5), (6, .int v6)]) hx hb dX9_tellsLone_44 hl (by decide) rfl (fun ls hl => ?_)
        refine lv_iload hx hb dX9_tellsLone_46 (lv_at hl 5 rfl) ?_
        refine lv_iload hx hb dX9_tellsLone_48 (lv_at hl 4 rfl) ?_
        refine lv_if_le (tgt := 71) hx hb dX9_tellsLone_50 rfl (fun c6 => ?_) (fun c6 => ?_)
        · replace hf := ifp c6 hf
          exact hK2 _ _ _ _ (B71 _ ih v4 v6 t5 v5 (upd g_this_offThen v6.toNatClampNeg v4) (upd g_this_paidThen v6.toNatClampNeg v5) hf) _ _ _ h (lv_sub hl [1, 2, 3, 4, 6, 0] rfl)
        · replace hf := ifn c6 hf
          refine lv_iload hx hb dX9_tellsLone_53 (lv_at hl 4 rfl) ?_
          refine lv_iload_n hx hb dX9_tellsLone_55 rfl (lv_at hl 2 rfl) ?_
          refine lv_iload_n hx hb dX9_tellsLone_56 rfl (lv_at hl 3 rfl) ?_
          refine lv_iload hx hb dX9_tellsLone_57 (lv_at hl 0 rfl) ?_
          refine lv_iconst (v := (4 : Int32)) hx hb dX9_tellsLone_59 rfl ?_
          refine lv_idiv hx hb dX9_tellsLone_60 (by decide) ?_
          replace hf := bd1_inv hf
          obtain ⟨r13, hc14, hf⟩ := hf
          refine r_ciS0 C h (c_X9_reachesBy hc14) ms_X9_91 rfl [] rfl rfl hl.1 rfl (Nat.le_of_ble_eq_true rfl) (rok (by decide)) dX9_tellsLone_61 (fun H locs h => ?_)
          refine lv_icmp_gt (tgt := 71) hx hb dX9_tellsLone_64 rfl (fun c15 => ?_) (fun c15 => ?_)
          · replace hf := ifp c15 hf
            exact hK2 _ _ _ _ (B71 _ ih v4 v6 t5 v5 (upd g_this_offThen v6.toNatClampNeg v4) (upd g_this_paidThen v6.toNatClampNeg v5) hf) _ _ _ h (lv_sub hl [1, 2, 3, 4, 6, 0] rfl)
          · replace hf := ifn c15 hf
            refine lv_iconst (v := (1 : Int32)) hx hb dX9_tellsLone_67 rfl ?_
            refine lv_goto (tgt := 72) hx hb dX9_tellsLone_68 rfl ?_
            exact hK2 _ _ _ _ (B72 _ ih v4 v6 t5 v5 (1 : Int32) (upd g_this_offThen v6.toNatClampNeg v4) (upd g_this_paidThen v6.toNatClampNeg v5) hf) _ _ _ h (lv_sub hl [1, 2, 3, 4, 6, 0] rfl)
  refine lv_iload_n hx hb dX9_tellsLone_0 rfl (lv_at hl 3 rfl) ?_
  refine lv_istore (lv' := [(4, .int p2), (0, .ref h_this), (1, .int p0), (2, .int p1), (3, .int p2)]) hx hb dX9_tellsLone_1 hl (by decide) rfl (fun ls hl => ?_)
  refine lv_iconst (v := (0 : Int32)) hx hb dX9_tellsLone_3 rfl ?_
  refine lv_istore (lv' := [(5, .int (0 : Int32)), (4, .int p2), (0, .ref h_this), (1, .int p0), (2, .int p1), (3, .int p2)]) hx hb dX9_tellsLone_4 hl (by decide) rfl (fun ls hl => ?_)
  refine lv_iconst (v := (0 : Int32)) hx hb dX9_tellsLone_6 rfl ?_
  refine lv_istore (lv' := [(6, .int (0 : Int32)), (5, .int (0 : Int32)), (4, .int p2), (0, .ref h_this), (1, .int p0), (2, .int p1), (3, .int p2)]) hx hb dX9_tellsLone_7 hl (by decide) rfl (fun ls hl => ?_)
  exact hK2 _ _ _ _ (L9 1000 p2 (0 : Int32) (0 : Int32) f_this_offThen f_this_paidThen hf) _ _ _ h (lv_sub hl [3, 4, 5, 2, 1, 0] rfl)
def f_X9_isSo_b43 (f_this_s : Nat → Int32) (v2 : Int32) (s0 : Int32) : Option (Int32) := chkI (v2 + (2 : Int32)) 313 (chkI (v2 + (3 : Int32)) 313 (bd1 (f_X9_in1 s0 (f_this_s (v2 + (2 : Int32)).toNatClampNeg) (f_this_s (v2 + (3 : Int32)).toNatClampNeg)) (fun r8 => chkB r8 (some r8))))
def f_X9_isSo (p0 : Int32) (f_this_offThen : Nat → Int32) (f_this_paidThen : Nat → Int32) (f_this_s : Nat → Int32) : Option (Int32) := lt1 ((65 : Int32) + ((4 : Int32) * p0)) (fun (t1 : Int32) => chkI (t1 + (1 : Int32)) 313 ((if (f_this_s (t1 + (1 : Int32)).toNatClampNeg) = 0 then chkI t1 313 (chkI (f_this_s t1.toNatClampNeg) 16 (f_X9_isSo_b43 f_this_s t1 (f_this_offThen (f_this_s t1.toNatClampNeg).toNatClampNeg))) else chkI t1 313 (chkI (f_this_s t1.toNatClampNeg) 16 (f_X9_isSo_b43 f_this_s t1 (f_this_paidThen (f_this_s t1.toNatClampNeg).toNatClampNeg))))))
set_option maxRecDepth 100000 in
set_option maxHeartbeats 4000000 in
theorem c_X9_isSo {l : Launch} {G : Gt} {h_this h_this_s h_this_kept h_this_laid h_this_pile h_this_tape h_this_letters h_this_code0 h_this_read h_this_saved h_this_plan h_this_bestPlan h_this_offThen h_this_paidThen h_this_rows h_this_sorts h_this_sizes h_this_number h_this_holds h_this_heldOne h_this_trace : Nat} {p0 : Int32} {x_this_isKept : Int32} {x_this_taped : Int32} {x_this_at : Int32} {x_this_begun : Int32} {x_this_token : Int32} {x_this_value : Int32} {x_this_opened : Int32} {x_this_steps : Int32} {x_this_most : Int32} {x_this_many : Int32} {x_this_few : Int32} {x_this_everHome : Int32} {x_this_firstFit : Int32} {x_this_rowMany : Int32} {x_this_traced : Int32} {x_this_own : Int32} {x_this_isParted : Int32} {f_this_offThen : Nat → Int32} {f_this_paidThen : Nat → Int32} {f_this_s : Nat → Int32} {r : Int32} (hf : f_X9_isSo p0 f_this_offThen f_this_paidThen f_this_s = some r) : mFi l G yX9_isSo cX9_isSo 3 .boolean 1 [.ref h_this, .int p0] [(h_this, ob 9 [.ref h_this_s, .ref h_this_kept, .ref h_this_laid, .int x_this_isKept, .ref h_this_pile, .ref h_this_tape, .int x_this_taped, .ref h_this_letters, .int x_this_at, .int x_this_begun, .int x_this_token, .int x_this_value, .int x_this_opened, .int x_this_steps, .ref h_this_code0, .ref h_this_read, .ref h_this_saved, .ref h_this_plan, .ref h_this_bestPlan, .int x_this_most, .int x_this_many, .int x_this_few, .int x_this_everHome, .ref h_this_offThen, .ref h_this_paidThen, .int x_this_firstFit, .ref h_this_rows, .int x_this_rowMany, .ref h_this_sorts, .ref h_this_sizes, .ref h_this_number, .ref h_this_holds, .ref h_this_heldOne, .ref h_this_trace, .int x_this_traced, .int x_this_own, .int x_this_isParted]), (h_this_offThen, ia G 16 f_this_offThen), (h_this_paidThen, ia G 16 f_this_paidThen), (h_this_s, ia G 313 f_this_s)] r [(h_this, ob 9 [.ref h_this_s, .ref h_this_kept, .ref h_this_laid, .int x_this_isKept, .ref h_this_pile, .ref h_this_tape, .int x_this_taped, .ref h_this_letters, .int x_this_at, .int x_this_begun, .int x_this_token, .int x_this_value, .int x_this_opened, .int x_this_steps, .ref h_this_code0, .ref h_this_read, .ref h_this_saved, .ref h_this_plan, .ref h_this_bestPlan, .int x_this_most, .int x_this_many, .int x_this_few, .int x_this_everHome, .ref h_this_offThen, .ref h_this_paidThen, .int x_this_firstFit, .ref h_this_rows, .int x_this_rowMany, .ref h_this_sorts, .ref h_this_sizes, .ref h_this_number, .ref h_this_holds, .ref h_this_heldOne, .ref h_this_trace, .int x_this_traced, .int x_this_own, .int x_this_isParted]), (h_this_offThen, ia G 16 f_this_offThen), (h_this_paidThen, ia G 16 f_this_paidThen), (h_this_s, ia G 313 f_this_s)] := by
  refine mFi.of (by decide +kernel) (Nat.le_of_ble_eq_true rfl) ?_
  intro p e s m below meth c A C hr hlk h ls hl
  obtain ⟨hx, hb, hml, hown, hts⟩ := id C
  replace hl : lv_has ls 3 [(0, .ref h_this), (1, .int p0)] := hl
  unfold f_X9_isSo at hf
  refine with_K G A 3 (fun K hK1 hK2 => ?_)
  have B43 : ∀ (v2 : Int32) (s0 : Int32), f_X9_isSo_b43 f_this_s v2 s0 = some r → K 43 [.int s0] [(h_this, ob 9 [.ref h_this_s, .ref h_this_kept, .ref h_this_laid, .int x_this_isKept, .ref h_this_pile, .ref h_this_tape, .int x_this_taped, .ref h_this_letters, .int x_this_at, .int x_this_begun, .int x_this_token, .int x_this_value, .int x_this_opened, .int x_this_steps, .ref h_this_code0, .ref h_this_read, .ref h_this_saved, .ref h_this_plan, .ref h_this_bestPlan, .int x_this_most, .int x_this_many, .int x_this_few, .int x_this_everHome, .ref h_this_offThen, .ref h_this_paidThen, .int x_this_firstFit, .ref h_this_rows, .int x_this_rowMany, .ref h_this_sorts, .ref h_this_sizes, .ref h_this_number, .ref h_this_holds, .ref h_this_heldOne, .ref h_this_trace, .int x_this_traced, .int x_this_own, .int x_this_isParted]), (h_this_offThen, ia G 16 f_this_offThen), (h_this_paidThen, ia G 16 f_this_paidThen), (h_this_s, ia G 313 f_this_s)] [(0, .ref h_this), (2, .int v2)] := by
    intro v2 s0 hf
    unfold f_X9_isSo_b43 at hf
    refine hK1 _ _ _ _ (fun H locs ls h hl => ?_)
    refine lv_aload_n hx hb dX9_isSo_43 rfl (lv_at hl 0 rfl) ?_
    refine r_get C h fk_X9_9 0 rfl rfl dX9_isSo_44 ?_
    refine lv_iload_n hx hb dX9_isSo_47 rfl (lv_at hl 1 rfl) ?_
    refine lv_iconst (v := (2 : Int32)) hx hb dX9_isSo_48 rfl ?_
    refine lv_iadd hx hb dX9_isSo_49 ?_
    replace hf := chkI_inv hf
    obtain ⟨hi6, hf⟩ := hf
    refine r_iald C h 3 rfl hi6 dX9_isSo_50 ?_
    refine lv_aload_n hx hb dX9_isSo_51 rfl (lv_at hl 0 rfl) ?_
    refine r_get C h fk_X9_9 0 rfl rfl dX9_isSo_52 ?_
    refine lv_iload_n hx hb dX9_isSo_55 rfl (lv_at hl 1 rfl) ?_
    refine lv_iconst (v := (3 : Int32)) hx hb dX9_isSo_56 rfl ?_
    refine lv_iadd hx hb dX9_isSo_57 ?_
    replace hf := chkI_inv hf
    obtain ⟨hi7, hf⟩ := hf
    refine r_iald C h 3 rfl hi7 dX9_isSo_58 ?_
    replace hf := bd1_inv hf
    obtain ⟨r8, hc9, hf⟩ := hf
    refine r_ciS0 C h (c_X9_in1 hc9) ms_X9_71 rfl [] rfl rfl hl.1 rfl (Nat.le_of_ble_eq_true rfl) (rok (by decide)) dX9_isSo_59 (fun H locs h => ?_)
    replace hf := chkB_inv hf
    obtain ⟨hb10, hf⟩ := hf
    cases hf
    exact r_iret C h hr hlk hb10 dX9_isSo_62
  refine lv_bipush (v := (65 : Int32)) hx hb dX9_isSo_0 rfl ?_
  refine lv_iconst (v := (4 : Int32)) hx hb dX9_isSo_2 rfl ?_
  refine lv_iload_n hx hb dX9_isSo_3 rfl (lv_at hl 1 rfl) ?_
  refine lv_imul hx hb dX9_isSo_4 ?_
  refine lv_iadd hx hb dX9_isSo_5 ?_
  refine lv_topi (fun t1 et1 => ?_)
  replace hf := lt1_inv et1 hf
  refine lv_istore_n (lv' := [(2, .int t1), (0, .ref h_this), (1, .int p0)]) hx hb dX9_isSo_6 rfl hl (by decide) rfl (fun ls hl => ?_)
  refine lv_aload_n hx hb dX9_isSo_7 rfl (lv_at hl 1 rfl) ?_
  refine r_get C h fk_X9_9 0 rfl rfl dX9_isSo_8 ?_
  refine lv_iload_n hx hb dX9_isSo_11 rfl (lv_at hl 0 rfl) ?_
  refine lv_iconst (v := (1 : Int32)) hx hb dX9_isSo_12 rfl ?_
  refine lv_iadd hx hb dX9_isSo_13 ?_
  replace hf := chkI_inv hf
  obtain ⟨hi2, hf⟩ := hf
  refine r_iald C h 3 rfl hi2 dX9_isSo_14 ?_
  refine lv_if_ne (tgt := 32) hx hb dX9_isSo_15 rfl (fun c3 => ?_) (fun c3 => ?_)
  · replace hf := ifn c3 hf
    refine lv_aload_n hx hb dX9_isSo_32 rfl (lv_at hl 1 rfl) ?_
    refine r_get C h fk_X9_47 0 rfl rfl dX9_isSo_33 ?_
    refine lv_aload_n hx hb dX9_isSo_36 rfl (lv_at hl 1 rfl) ?_
    refine r_get C h fk_X9_9 0 rfl rfl dX9_isSo_37 ?_
    refine lv_iload_n hx hb dX9_isSo_40 rfl (lv_at hl 0 rfl) ?_
    replace hf := chkI_inv hf
    obtain ⟨hi4, hf⟩ := hf
    refine r_iald C h 3 rfl hi4 dX9_isSo_41 ?_
    replace hf := chkI_inv hf
    obtain ⟨hi5, hf⟩ := hf
    refine r_iald C h 2 rfl hi5 dX9_isSo_42 ?_
    exact hK2 _ _ _ _ (B43 t1 (f_this_paidThen (f_this_s t1.toNatClampNeg).toNatClampNeg) hf) _ _ _ h (lv_sub hl [1, 0] rfl)
  · replace hf := ifp c3 hf
    refine lv_aload_n hx hb dX9_isSo_18 rfl (lv_at hl 1 rfl) ?_
    refine r_get C h fk_X9_44 0 rfl rfl dX9_isSo_19 ?_
    refine lv_aload_n hx hb dX9_isSo_22 rfl (lv_at hl 1 rfl) ?_
    refine r_get C h fk_X9_9 0 rfl rfl dX9_isSo_23 ?_
    refine lv_iload_n hx hb dX9_isSo_26 rfl (lv_at hl 0 rfl) ?_
    replace hf := chkI_inv hf
    obtain ⟨hi11, hf⟩ := hf
    refine r_iald C h 3 rfl hi11 dX9_isSo_27 ?_
    replace hf := chkI_inv hf
    obtain ⟨hi12, hf⟩ := hf
    refine r_iald C h 1 rfl hi12 dX9_isSo_28 ?_
    refine lv_goto (tgt := 43) hx hb dX9_isSo_29 rfl ?_
    exact hK2 _ _ _ _ (B43 t1 (f_this_offThen (f_this_s t1.toNatClampNeg).toNatClampNeg) hf) _ _ _ h (lv_sub hl [1, 0] rfl)
def f_X9_fitting_b105 (rec9 : Int32 → Int32 → Int32 → (Nat → Int32) → (Nat → Int32) → Option (Int32 × Int32 × (Nat → Int32) × (Nat → Int32))) (v3 : Int32) (v4 : Int32) (s0 : Int32) (s1 : Int32) (y_this_firstFit : Int32) (g_this_offThen : Nat → Int32) (g_this_paidThen : Nat → Int32) : Option (Int32 × Int32 × (Nat → Int32) × (Nat → Int32)) := lt1 (s0 + s1) (fun (t7 : Int32) => (if v4 = 0 then lt1 (v3 + (1 : Int32)) (fun (t9 : Int32) => rec9 t7 t9 y_this_firstFit g_this_offThen g_this_paidThen) else (if 0 ≤ y_this_firstFit then lt1 (v3 + (1 : Int32)) (fun (t11 : Int32) => rec9 t7 t11 y_this_firstFit g_this_offThen g_this_paidThen) else lt1 (v3 + (1 : Int32)) (fun (t12 : Int32) => rec9 t7 t12 v3 g_this_offThen g_this_paidThen))))
def f_X9_fitting_b94 (rec9 : Int32 → Int32 → Int32 → (Nat → Int32) → (Nat → Int32) → Option (Int32 × Int32 × (Nat → Int32) × (Nat → Int32))) (v2 : Int32) (v3 : Int32) (v4 : Int32) (y_this_firstFit : Int32) (g_this_offThen : Nat → Int32) (g_this_paidThen : Nat → Int32) : Option (Int32 × Int32 × (Nat → Int32) × (Nat → Int32)) := (if v4 = 0 then f_X9_fitting_b105 rec9 v3 v4 v2 (0 : Int32) y_this_firstFit g_this_offThen g_this_paidThen else f_X9_fitting_b105 rec9 v3 v4 v2 (1 : Int32) y_this_firstFit g_this_offThen g_this_paidThen)
def f_X9_fitting_L49 (rec9 : Int32 → Int32 → Int32 → (Nat → Int32) → (Nat → Int32) → Option (Int32 × Int32 × (Nat → Int32) × (Nat → Int32))) (p0 : Int32) (f_this_s : Nat → Int32) : Nat → Int32 → Int32 → Int32 → Int32 → Int32 → (Nat → Int32) → (Nat → Int32) → Option (Int32 × Int32 × (Nat → Int32) × (Nat → Int32))
  | 0, _, _, _, _, _, _, _ => none
  | n + 1, v2, v3, v4, v5, y_this_firstFit, g_this_offThen, g_this_paidThen => (if (f_this_s 6) ≤ v5 then f_X9_fitting_b94 rec9 v2 v3 v4 y_this_firstFit g_this_offThen g_this_paidThen else (if v4 = 0 then f_X9_fitting_b94 rec9 v2 v3 v4 y_this_firstFit g_this_offThen g_this_paidThen else (if v5 = p0 then lt1 (v5 + (1 : Int32)) (fun (t15 : Int32) => (f_X9_fitting_L49 rec9 p0 f_this_s n) v2 v3 (1 : Int32) t15 y_this_firstFit g_this_offThen g_this_paidThen) else bd1 (f_X9_isSo v5 g_this_offThen g_this_paidThen f_this_s) (fun r16 => (if r16 = 0 then lt1 (v5 + (1 : Int32)) (fun (t19 : Int32) => (f_X9_fitting_L49 rec9 p0 f_this_s n) v2 v3 (0 : Int32) t19 y_this_firstFit g_this_offThen g_this_paidThen) else lt1 (v5 + (1 : Int32)) (fun (t20 : Int32) => (f_X9_fitting_L49 rec9 p0 f_this_s n) v2 v3 (1 : Int32) t20 y_this_firstFit g_this_offThen g_this_paidThen))))))
def f_X9_fitting_L9 (p0 : Int32) (f_this_s : Nat → Int32) : Nat → Int32 → Int32 → Int32 → (Nat → Int32) → (Nat → Int32) → Option (Int32 × Int32 × (Nat → Int32) × (Nat → Int32))
  | 0, _, _, _, _, _ => none
  | n + 1, v2, v3, y_this_firstFit, g_this_offThen, g_this_paidThen => (if (500 : Int32) ≤ v3 then some (v2, y_this_firstFit, g_this_offThen, g_this_paidThen) else bd2 (f_X9_tellsLone ((1 : Int32) + (v3 / (100 : Int32))) ((v3 / (10 : Int32)) - (v3 / (10 : Int32)) / (10 : Int32) * (10 : Int32)) (((9 : Int32) * (v3 - v3 / (10 : Int32) * (10 : Int32))) + (9 : Int32)) g_this_offThen g_this_paidThen f_this_s) (fun g2 g3 => f_X9_fitting_L49 (f_X9_fitting_L9 p0 f_this_s n) p0 f_this_s 1000 v2 v3 (1 : Int32) (0 : Int32) y_this_firstFit g2 g3))
def f_X9_fitting (p0 : Int32) (f_this_offThen : Nat → Int32) (f_this_paidThen : Nat → Int32) (f_this_s : Nat → Int32) : Option (Int32 × Int32 × (Nat → Int32) × (Nat → Int32)) := f_X9_fitting_L9 p0 f_this_s 1000 (0 : Int32) (0 : Int32) (-1 : Int32) f_this_offThen f_this_paidThen
set_option maxRecDepth 100000 in
set_option maxHeartbeats 4000000 in
theorem c_X9_fitting {l : Launch} {G : Gt} {h_this h_this_s h_this_kept h_this_laid h_this_pile h_this_tape h_this_letters h_this_code0 h_this_read h_this_saved h_this_plan h_this_bestPlan h_this_offThen h_this_paidThen h_this_rows h_this_sorts h_this_sizes h_this_number h_this_holds h_this_heldOne h_this_trace : Nat} {p0 : Int32} {x_this_isKept : Int32} {x_this_taped : Int32} {x_this_at : Int32} {x_this_begun : Int32} {x_this_token : Int32} {x_this_value : Int32} {x_this_opened : Int32} {x_this_steps : Int32} {x_this_most : Int32} {x_this_many : Int32} {x_this_few : Int32} {x_this_everHome : Int32} {x_this_firstFit : Int32} {x_this_rowMany : Int32} {x_this_traced : Int32} {x_this_own : Int32} {x_this_isParted : Int32} {f_this_offThen : Nat → Int32} {f_this_paidThen : Nat → Int32} {f_this_s : Nat → Int32} {r : Int32} {m_this_firstFit : Int32} {m_this_offThen : Nat → Int32} {m_this_paidThen : Nat → Int32} (hf : f_X9_fitting p0 f_this_offThen f_this_paidThen f_this_s = some (r, m_this_firstFit, m_this_offThen, m_this_paidThen)) : mFi l G yX9_fitting cX9_fitting 6 .int 2 [.ref h_this, .int p0] [(h_this, ob 9 [.ref h_this_s, .ref h_this_kept, .ref h_this_laid, .int x_this_isKept, .ref h_this_pile, .ref h_this_tape, .int x_this_taped, .ref h_this_letters, .int x_this_at, .int x_this_begun, .int x_this_token, .int x_this_value, .int x_this_opened, .int x_this_steps, .ref h_this_code0, .ref h_this_read, .ref h_this_saved, .ref h_this_plan, .ref h_this_bestPlan, .int x_this_most, .int x_this_many, .int x_this_few, .int x_this_everHome, .ref h_this_offThen, .ref h_this_paidThen, .int x_this_firstFit, .ref h_this_rows, .int x_this_rowMany, .ref h_this_sorts, .ref h_this_sizes, .ref h_this_number, .ref h_this_holds, .ref h_this_heldOne, .ref h_this_trace, .int x_this_traced, .int x_this_own, .int x_this_isParted]), (h_this_offThen, ia G 16 f_this_offThen), (h_this_paidThen, ia G 16 f_this_paidThen), (h_this_s, ia G 313 f_this_s)] r [(h_this, ob 9 [.ref h_this_s, .ref h_this_kept, .ref h_this_laid, .int x_this_isKept, .ref h_this_pile, .ref h_this_tape, .int x_this_taped, .ref h_this_letters, .int x_this_at, .int x_this_begun, .int x_this_token, .int x_this_value, .int x_this_opened, .int x_this_steps, .ref h_this_code0, .ref h_this_read, .ref h_this_saved, .ref h_this_plan, .ref h_this_bestPlan, .int x_this_most, .int x_this_many, .int x_this_few, .int x_this_everHome, .ref h_this_offThen, .ref h_this_paidThen, .int m_this_firstFit, .ref h_this_rows, .int x_this_rowMany, .ref h_this_sorts, .ref h_this_sizes, .ref h_this_number, .ref h_this_holds, .ref h_this_heldOne, .ref h_this_trace, .int x_this_traced, .int x_this_own, .int x_this_isParted]), (h_this_offThen, ia G 16 m_this_offThen), (h_this_paidThen, ia G 16 m_this_paidThen), (h_this_s, ia G 313 f_this_s)] := by
  refine mFi.of (by decide +kernel) (Nat.le_of_ble_eq_true rfl) ?_
  intro p e s m below meth c A C hr hlk h ls hl
  obtain ⟨hx, hb, hml, hown, hts⟩ := id C
  replace hl : lv_has ls 6 [(0, .ref h_this), (1, .int p0)] := hl
  unfold f_X9_fitting at hf
  refine with_K G A 6 (fun K hK1 hK2 => ?_)
  have B105 : ∀ (rec9 : Int32 → Int32 → Int32 → (Nat → Int32) → (Nat → Int32) → Option (Int32 × Int32 × (Nat → Int32) × (Nat → Int32))) (hrec9 : ∀ (v2 : Int32) (v3 : Int32) (y_this_firstFit : Int32) (g_this_offThen : Nat → Int32) (g_this_paidThen : Nat → Int32), rec9 v2 v3 y_this_firstFit g_this_offThen g_this_paidThen = some (r, m_this_firstFit, m_this_offThen, m_this_paidThen) → K 9 ([] : List Value) [(h_this, ob 9 [.ref h_this_s, .ref h_this_kept, .ref h_this_laid, .int x_this_isKept, .ref h_this_pile, .ref h_this_tape, .int x_this_taped, .ref h_this_letters, .int x_this_at, .int x_this_begun, .int x_this_token, .int x_this_value, .int x_this_opened, .int x_this_steps, .ref h_this_code0, .ref h_this_read, .ref h_this_saved, .ref h_this_plan, .ref h_this_bestPlan, .int x_this_most, .int x_this_many, .int x_this_few, .int x_this_everHome, .ref h_this_offThen, .ref h_this_paidThen, .int y_this_firstFit, .ref h_this_rows, .int x_this_rowMany, .ref h_this_sorts, .ref h_this_sizes, .ref h_this_number, .ref h_this_holds, .ref h_this_heldOne, .ref h_this_trace, .int x_this_traced, .int x_this_own, .int x_this_isParted]), (h_this_offThen, ia G 16 g_this_offThen), (h_this_paidThen, ia G 16 g_this_paidThen), (h_this_s, ia G 313 f_this_s)] [(0, .ref h_this), (1, .int p0), (2, .int v2), (3, .int v3)]) (v3 : Int32) (v4 : Int32) (s0 : Int32) (s1 : Int32) (y_this_firstFit : Int32) (g_this_offThen : Nat → Int32) (g_this_paidThen : Nat → Int32), f_X9_fitting_b105 rec9 v3 v4 s0 s1 y_this_firstFit g_this_offThen g_this_paidThen = some (r, m_this_firstFit, m_this_offThen, m_this_paidThen) → K 105 [.int s1, .int s0] [(h_this, ob 9 [.ref h_this_s, .ref h_this_kept, .ref h_this_laid, .int x_this_isKept, .ref h_this_pile, .ref h_this_tape, .int x_this_taped, .ref h_this_letters, .int x_this_at, .int x_this_begun, .int x_this_token, .int x_this_value, .int x_this_opened, .int x_this_steps, .ref h_this_code0, .ref h_this_read, .ref h_this_saved, .ref h_this_plan, .ref h_this_bestPlan, .int x_this_most, .int x_this_many, .int x_this_few, .int x_this_everHome, .ref h_this_offThen, .ref h_this_paidThen, .int y_this_firstFit, .ref h_this_rows, .int x_this_rowMany, .ref h_this_sorts, .ref h_this_sizes, .ref h_this_number, .ref h_this_holds, .ref h_this_heldOne, .ref h_this_trace, .int x_this_traced, .int x_this_own, .int x_this_isParted]), (h_this_offThen, ia G 16 g_this_offThen), (h_this_paidThen, ia G 16 g_this_paidThen), (h_this_s, ia G 313 f_this_s)] [(0, .ref h_this), (1, .int p0), (3, .int v3), (4, .int v4)] := by
    intro rec9 hrec9 v3 v4 s0 s1 y_this_firstFit g_this_offThen g_this_paidThen hf
    unfold f_X9_fitting_b105 at hf
    refine hK1 _ _ _ _ (fun H locs ls h hl => ?_)
    refine lv_iadd hx hb dX9_fitting_105 ?_
    refine lv_topi (fun t7 et7 => ?_)
    replace hf := lt1_inv et7 hf
    refine lv_istore_n (lv' := [(2, .int t7), (0, .ref h_this), (1, .int p0), (3, .int v3), (4, .int v4)]) hx hb dX9_fitting_106 rfl hl (by decide) rfl (fun ls hl => ?_)
    refine lv_aload_n hx hb dX9_fitting_107 rfl (lv_at hl 1 rfl) ?_
    refine lv_iload hx hb dX9_fitting_108 (lv_at hl 4 rfl) ?_
    refine lv_if_eq (tgt := 124) hx hb dX9_fitting_110 rfl (fun c8 => ?_) (fun c8 => ?_)
    · replace hf := ifp c8 hf
      refine lv_aload_n hx hb dX9_fitting_124 rfl (lv_at hl 1 rfl) ?_
      refine r_get C h fk_X9_304 0 rfl rfl dX9_fitting_125 ?_
      refine r_put (ws' := [(h_this, ob 9 [.ref h_this_s, .ref h_this_kept, .ref h_this_laid, .int x_this_isKept, .ref h_this_pile, .ref h_this_tape, .int x_this_taped, .ref h_this_letters, .int x_this_at, .int x_this_begun, .int x_this_token, .int x_this_value, .int x_this_opened, .int x_this_steps, .ref h_this_code0, .ref h_this_read, .ref h_this_saved, .ref h_this_plan, .ref h_this_bestPlan, .int x_this_most, .int x_this_many, .int x_this_few, .int x_this_everHome, .ref h_this_offThen, .ref h_this_paidThen, .int y_this_firstFit, .ref h_this_rows, .int x_this_rowMany, .ref h_this_sorts, .ref h_this_sizes, .ref h_this_number, .ref h_this_holds, .ref h_this_heldOne, .ref h_this_trace, .int x_this_traced, .int x_this_own, .int x_this_isParted]), (h_this_offThen, ia G 16 g_this_offThen), (h_this_paidThen, ia G 16 g_this_paidThen), (h_this_s, ia G 313 f_this_s)]) C h fw_X9_304 0 rfl rfl rfl (Nat.le_of_ble_eq_true rfl) dX9_fitting_128 rfl (fun H locs h => ?_)
      obtain ⟨t9, et9⟩ : ∃ y : Int32, y = v3 + (1 : Int32) := ⟨_, rfl⟩
      replace hf := lt1_inv et9 hf
      refine lv_iinc (v := t9) (lv' := [(3, .int t9), (2, .int t7), (0, .ref h_this), (1, .int p0), (4, .int v4)]) hx hb dX9_fitting_131 hl (k := 3) rfl (by rw [et9]; rfl) (by decide) rfl (fun ls hl => ?_)
      refine lv_goto (tgt := 9) hx hb dX9_fitting_134 rfl ?_
      exact hK2 _ _ _ _ (hrec9 t7 t9 y_this_firstFit g_this_offThen g_this_paidThen hf) _ _ _ h (lv_sub hl [2, 3, 1, 0] rfl)
    · replace hf := ifn c8 hf
      refine lv_aload_n hx hb dX9_fitting_113 rfl (lv_at hl 1 rfl) ?_
      refine r_get C h fk_X9_304 0 rfl rfl dX9_fitting_114 ?_
      refine lv_if_ge (tgt := 124) hx hb dX9_fitting_117 rfl (fun c10 => ?_) (fun c10 => ?_)
      · replace hf := ifp c10 hf
        refine lv_aload_n hx hb dX9_fitting_124 rfl (lv_at hl 1 rfl) ?_
        refine r_get C h fk_X9_304 0 rfl rfl dX9_fitting_125 ?_
        refine r_put (ws' := [(h_this, ob 9 [.ref h_this_s, .ref h_this_kept, .ref h_this_laid, .int x_this_isKept, .ref h_this_pile, .ref h_this_tape, .int x_this_taped, .ref h_this_letters, .int x_this_at, .int x_this_begun, .int x_this_token, .int x_this_value, .int x_this_opened, .int x_this_steps, .ref h_this_code0, .ref h_this_read, .ref h_this_saved, .ref h_this_plan, .ref h_this_bestPlan, .int x_this_most, .int x_this_many, .int x_this_few, .int x_this_everHome, .ref h_this_offThen, .ref h_this_paidThen, .int y_this_firstFit, .ref h_this_rows, .int x_this_rowMany, .ref h_this_sorts, .ref h_this_sizes, .ref h_this_number, .ref h_this_holds, .ref h_this_heldOne, .ref h_this_trace, .int x_this_traced, .int x_this_own, .int x_this_isParted]), (h_this_offThen, ia G 16 g_this_offThen), (h_this_paidThen, ia G 16 g_this_paidThen), (h_this_s, ia G 313 f_this_s)]) C h fw_X9_304 0 rfl rfl rfl (Nat.le_of_ble_eq_true rfl) dX9_fitting_128 rfl (fun H locs h => ?_)
        obtain ⟨t11, et11⟩ : ∃ y : Int32, y = v3 + (1 : Int32) := ⟨_, rfl⟩
        replace hf := lt1_inv et11 hf
        refine lv_iinc (v := t11) (lv' := [(3, .int t11), (2, .int t7), (0, .ref h_this), (1, .int p0), (4, .int v4)]) hx hb dX9_fitting_131 hl (k := 3) rfl (by rw [et11]; rfl) (by decide) rfl (fun ls hl => ?_)
        refine lv_goto (tgt := 9) hx hb dX9_fitting_134 rfl ?_
        exact hK2 _ _ _ _ (hrec9 t7 t11 y_this_firstFit g_this_offThen g_this_paidThen hf) _ _ _ h (lv_sub hl [2, 3, 1, 0] rfl)
      · replace hf := ifn c10 hf
        refine lv_iload_n hx hb dX9_fitting_120 rfl (lv_at hl 3 rfl) ?_
        refine lv_goto (tgt := 128) hx hb dX9_fitting_121 rfl ?_
        refine r_put (ws' := [(h_this, ob 9 [.ref h_this_s, .ref h_this_kept, .ref h_this_laid, .int x_this_isKept, .ref h_this_pile, .ref h_this_tape, .int x_this_taped, .ref h_this_letters, .int x_this_at, .int x_this_begun, .int x_this_token, .int x_this_value, .int x_this_opened, .int x_this_steps, .ref h_this_code0, .ref h_this_read, .ref h_this_saved, .ref h_this_plan, .ref h_this_bestPlan, .int x_this_most, .int x_this_many, .int x_this_few, .int x_this_everHome, .ref h_this_offThen, .ref h_this_paidThen, .int v3, .ref h_this_rows, .int x_this_rowMany, .ref h_this_sorts, .ref h_this_sizes, .ref h_this_number, .ref h_this_holds, .ref h_this_heldOne, .ref h_this_trace, .int x_this_traced, .int x_this_own, .int x_this_isParted]), (h_this_offThen, ia G 16 g_this_offThen), (h_this_paidThen, ia G 16 g_this_paidThen), (h_this_s, ia G 313 f_this_s)]) C h fw_X9_304 0 rfl rfl rfl (Nat.le_of_ble_eq_true rfl) dX9_fitting_128 rfl (fun H locs h => ?_)
        obtain ⟨t12, et12⟩ : ∃ y : Int32, y = v3 + (1 : Int32) := ⟨_, rfl⟩
        replace hf := lt1_inv et12 hf
        refine lv_iinc (v := t12) (lv' := [(3, .int t12), (2, .int t7), (0, .ref h_this), (1, .int p0), (4, .int v4)]) hx hb dX9_fitting_131 hl (k := 3) rfl (by rw [et12]; rfl) (by decide) rfl (fun ls hl => ?_)
        refine lv_goto (tgt := 9) hx hb dX9_fitting_134 rfl ?_
        exact hK2 _ _ _ _ (hrec9 t7 t12 v3 g_this_offThen g_this_paidThen hf) _ _ _ h (lv_sub hl [2, 3, 1, 0] rfl)
  have B94 : ∀ (rec9 : Int32 → Int32 → Int32 → (Nat → Int32) → (Nat → Int32) → Option (Int32 × Int32 × (Nat → Int32) × (Nat → Int32))) (hrec9 : ∀ (v2 : Int32) (v3 : Int32) (y_this_firstFit : Int32) (g_this_offThen : Nat → Int32) (g_this_paidThen : Nat → Int32), rec9 v2 v3 y_this_firstFit g_this_offThen g_this_paidThen = some (r, m_this_firstFit, m_this_offThen, m_this_paidThen) → K 9 ([] : List Value) [(h_this, ob 9 [.ref h_this_s, .ref h_this_kept, .ref h_this_laid, .int x_this_isKept, .ref h_this_pile, .ref h_this_tape, .int x_this_taped, .ref h_this_letters, .int x_this_at, .int x_this_begun, .int x_this_token, .int x_this_value, .int x_this_opened, .int x_this_steps, .ref h_this_code0, .ref h_this_read, .ref h_this_saved, .ref h_this_plan, .ref h_this_bestPlan, .int x_this_most, .int x_this_many, .int x_this_few, .int x_this_everHome, .ref h_this_offThen, .ref h_this_paidThen, .int y_this_firstFit, .ref h_this_rows, .int x_this_rowMany, .ref h_this_sorts, .ref h_this_sizes, .ref h_this_number, .ref h_this_holds, .ref h_this_heldOne, .ref h_this_trace, .int x_this_traced, .int x_this_own, .int x_this_isParted]), (h_this_offThen, ia G 16 g_this_offThen), (h_this_paidThen, ia G 16 g_this_paidThen), (h_this_s, ia G 313 f_this_s)] [(0, .ref h_this), (1, .int p0), (2, .int v2), (3, .int v3)]) (v2 : Int32) (v3 : Int32) (v4 : Int32) (y_this_firstFit : Int32) (g_this_offThen : Nat → Int32) (g_this_paidThen : Nat → Int32), f_X9_fitting_b94 rec9 v2 v3 v4 y_this_firstFit g_this_offThen g_this_paidThen = some (r, m_this_firstFit, m_this_offThen, m_this_paidThen) → K 94 ([] : List Value) [(h_this, ob 9 [.ref h_this_s, .ref h_this_kept, .ref h_this_laid, .int x_this_isKept, .ref h_this_pile, .ref h_this_tape, .int x_this_taped, .ref h_this_letters, .int x_this_at, .int x_this_begun, .int x_this_token, .int x_this_value, .int x_this_opened, .int x_this_steps, .ref h_this_code0, .ref h_this_read, .ref h_this_saved, .ref h_this_plan, .ref h_this_bestPlan, .int x_this_most, .int x_this_many, .int x_this_few, .int x_this_everHome, .ref h_this_offThen, .ref h_this_paidThen, .int y_this_firstFit, .ref h_this_rows, .int x_this_rowMany, .ref h_this_sorts, .ref h_this_sizes, .ref h_this_number, .ref h_this_holds, .ref h_this_heldOne, .ref h_this_trace, .int x_this_traced, .int x_this_own, .int x_this_isParted]), (h_this_offThen, ia G 16 g_this_offThen), (h_this_paidThen, ia G 16 g_this_paidThen), (h_this_s, ia G 313 f_this_s)] [(0, .ref h_this), (1, .int p0), (2, .int v2), (3, .int v3), (4, .int v4)] := by
    intro rec9 hrec9 v2 v3 v4 y_this_firstFit g_this_offThen g_this_paidThen hf
    unfold f_X9_fitting_b94 at hf
    refine hK1 _ _ _ _ (fun H locs ls h hl => ?_)
    refine lv_iload_n hx hb dX9_fitting_94 rfl (lv_at hl 2 rfl) ?_
    refine lv_iload hx hb dX9_fitting_95 (lv_at hl 4 rfl) ?_
    refine lv_if_eq (tgt := 104) hx hb dX9_fitting_97 rfl (fun c6 => ?_) (fun c6 => ?_)
    · replace hf := ifp c6 hf
      refine lv_iconst (v := (0 : Int32)) hx hb dX9_fitting_104 rfl ?_
      exact hK2 _ _ _ _ (B105 _ hrec9 v3 v4 v2 (0 : Int32) y_this_firstFit g_this_offThen g_this_paidThen hf) _ _ _ h (lv_sub hl [0, 1, 3, 4] rfl)
    · replace hf := ifn c6 hf
      refine lv_iconst (v := (1 : Int32)) hx hb dX9_fitting_100 rfl ?_
      refine lv_goto (tgt := 105) hx hb dX9_fitting_101 rfl ?_
      exact hK2 _ _ _ _ (B105 _ hrec9 v3 v4 v2 (1 : Int32) y_this_firstFit g_this_offThen g_this_paidThen hf) _ _ _ h (lv_sub hl [0, 1, 3, 4] rfl)
  have L49 : ∀ (rec9 : Int32 → Int32 → Int32 → (Nat → Int32) → (Nat → Int32) → Option (Int32 × Int32 × (Nat → Int32) × (Nat → Int32))) (hrec9 : ∀ (v2 : Int32) (v3 : Int32) (y_this_firstFit : Int32) (g_this_offThen : Nat → Int32) (g_this_paidThen : Nat → Int32), rec9 v2 v3 y_this_firstFit g_this_offThen g_this_paidThen = some (r, m_this_firstFit, m_this_offThen, m_this_paidThen) → K 9 ([] : List Value) [(h_this, ob 9 [.ref h_this_s, .ref h_this_kept, .ref h_this_laid, .int x_this_isKept, .ref h_this_pile, .ref h_this_tape, .int x_this_taped, .ref h_this_letters, .int x_this_at, .int x_this_begun, .int x_this_token, .int x_this_value, .int x_this_opened, .int x_this_steps, .ref h_this_code0, .ref h_this_read, .ref h_this_saved, .ref h_this_plan, .ref h_this_bestPlan, .int x_this_most, .int x_this_many, .int x_this_few, .int x_this_everHome, .ref h_this_offThen, .ref h_this_paidThen, .int y_this_firstFit, .ref h_this_rows, .int x_this_rowMany, .ref h_this_sorts, .ref h_this_sizes, .ref h_this_number, .ref h_this_holds, .ref h_this_heldOne, .ref h_this_trace, .int x_this_traced, .int x_this_own, .int x_this_isParted]), (h_this_offThen, ia G 16 g_this_offThen), (h_this_paidThen, ia G 16 g_this_paidThen), (h_this_s, ia G 313 f_this_s)] [(0, .ref h_this), (1, .int p0), (2, .int v2), (3, .int v3)]) (n : Nat) (v2 : Int32) (v3 : Int32) (v4 : Int32) (v5 : Int32) (y_this_firstFit : Int32) (g_this_offThen : Nat → Int32) (g_this_paidThen : Nat → Int32), f_X9_fitting_L49 rec9 p0 f_this_s n v2 v3 v4 v5 y_this_firstFit g_this_offThen g_this_paidThen = some (r, m_this_firstFit, m_this_offThen, m_this_paidThen) → K 49 ([] : List Value) [(h_this, ob 9 [.ref h_this_s, .ref h_this_kept, .ref h_this_laid, .int x_this_isKept, .ref h_this_pile, .ref h_this_tape, .int x_this_taped, .ref h_this_letters, .int x_this_at, .int x_this_begun, .int x_this_token, .int x_this_value, .int x_this_opened, .int x_this_steps, .ref h_this_code0, .ref h_this_read, .ref h_this_saved, .ref h_this_plan, .ref h_this_bestPlan, .int x_this_most, .int x_this_many, .int x_this_few, .int x_this_everHome, .ref h_this_offThen, .ref h_this_paidThen, .int y_this_firstFit, .ref h_this_rows, .int x_this_rowMany, .ref h_this_sorts, .ref h_this_sizes, .ref h_this_number, .ref h_this_holds, .ref h_this_heldOne, .ref h_this_trace, .int x_this_traced, .int x_this_own, .int x_this_isParted]), (h_this_offThen, ia G 16 g_this_offThen), (h_this_paidThen, ia G 16 g_this_paidThen), (h_this_s, ia G 313 f_this_s)] [(0, .ref h_this), (1, .int p0), (2, .int v2), (3, .int v3), (4, .int v4), (5, .int v5)] := by
    intro rec9 hrec9 n
    induction n with
    | zero =>
      intro v2 v3 v4 v5 y_this_firstFit g_this_offThen g_this_paidThen hf
      replace hf : (none : Option _) = some _ := hf
      cases hf
    | succ n ih =>
      intro v2 v3 v4 v5 y_this_firstFit g_this_offThen g_this_paidThen hf
      rw [f_X9_fitting_L49] at hf
      refine hK1 _ _ _ _ (fun H locs ls h hl => ?_)
      refine lv_iload hx hb dX9_fitting_49 (lv_at hl 5 rfl) ?_
      refine lv_aload_n hx hb dX9_fitting_51 rfl (lv_at hl 0 rfl) ?_
      refine r_get C h fk_X9_9 0 rfl rfl dX9_fitting_52 ?_
      refine lv_bipush (v := (6 : Int32)) hx hb dX9_fitting_55 rfl ?_
      refine r_ialdL C h 3 rfl (vlit rfl) 6 rfl dX9_fitting_57 ?_
      refine lv_icmp_ge (tgt := 94) hx hb dX9_fitting_58 rfl (fun c5 => ?_) (fun c5 => ?_)
      · replace hf := ifp c5 hf
        exact hK2 _ _ _ _ (B94 _ hrec9 v2 v3 v4 y_this_firstFit g_this_offThen g_this_paidThen hf) _ _ _ h (lv_sub hl [0, 1, 2, 3, 4] rfl)
      · replace hf := ifn c5 hf
        refine lv_iload hx hb dX9_fitting_61 (lv_at hl 4 rfl) ?_
        refine lv_if_eq (tgt := 94) hx hb dX9_fitting_63 rfl (fun c13 => ?_) (fun c13 => ?_)
        · replace hf := ifp c13 hf
          exact hK2 _ _ _ _ (B94 _ hrec9 v2 v3 v4 y_this_firstFit g_this_offThen g_this_paidThen hf) _ _ _ h (lv_sub hl [0, 1, 2, 3, 4] rfl)
        · replace hf := ifn c13 hf
          refine lv_iload hx hb dX9_fitting_66 (lv_at hl 5 rfl) ?_
          refine lv_iload_n hx hb dX9_fitting_68 rfl (lv_at hl 1 rfl) ?_
          refine lv_icmp_eq (tgt := 81) hx hb dX9_fitting_69 rfl (fun c14 => ?_) (fun c14 => ?_)
          · replace hf := ifp c14 hf
            refine lv_iconst (v := (1 : Int32)) hx hb dX9_fitting_81 rfl ?_
            refine lv_goto (tgt := 86) hx hb dX9_fitting_82 rfl ?_
            refine lv_istore (lv' := [(4, .int (1 : Int32)), (0, .ref h_this), (1, .int p0), (2, .int v2), (3, .int v3), (5, .int v5)]) hx hb dX9_fitting_86 hl (by decide) rfl (fun ls hl => ?_)
            obtain ⟨t15, et15⟩ : ∃ y : Int32, y = v5 + (1 : Int32) := ⟨_, rfl⟩
            replace hf := lt1_inv et15 hf
            refine lv_iinc (v := t15) (lv' := [(5, .int t15), (4, .int (1 : Int32)), (0, .ref h_this), (1, .int p0), (2, .int v2), (3, .int v3)]) hx hb dX9_fitting_88 hl (k := 5) rfl (by rw [et15]; rfl) (by decide) rfl (fun ls hl => ?_)
            refine lv_goto (tgt := 49) hx hb dX9_fitting_91 rfl ?_
            exact hK2 _ _ _ _ (ih v2 v3 (1 : Int32) t15 y_this_firstFit g_this_offThen g_this_paidThen hf) _ _ _ h (lv_sub hl [2, 3, 4, 5, 1, 0] rfl)
          · replace hf := ifn c14 hf
            refine lv_aload_n hx hb dX9_fitting_72 rfl (lv_at hl 0 rfl) ?_
            refine lv_iload hx hb dX9_fitting_73 (lv_at hl 5 rfl) ?_
            replace hf := bd1_inv hf
            obtain ⟨r16, hc17, hf⟩ := hf
            refine r_ciV0 C h (c_X9_isSo hc17) mv_X9_310 rfl 0 rfl [0, 1, 2, 3] rfl rfl hl.1 rfl (Nat.le_of_ble_eq_true rfl) (rok (by decide)) dX9_fitting_75 (fun H locs h => ?_)
            refine lv_if_eq (tgt := 85) hx hb dX9_fitting_78 rfl (fun c18 => ?_) (fun c18 => ?_)
            · replace hf := ifp c18 hf
              refine lv_iconst (v := (0 : Int32)) hx hb dX9_fitting_85 rfl ?_
              refine lv_istore (lv' := [(4, .int (0 : Int32)), (0, .ref h_this), (1, .int p0), (2, .int v2), (3, .int v3), (5, .int v5)]) hx hb dX9_fitting_86 hl (by decide) rfl (fun ls hl => ?_)
              obtain ⟨t19, et19⟩ : ∃ y : Int32, y = v5 + (1 : Int32) := ⟨_, rfl⟩
              replace hf := lt1_inv et19 hf
              refine lv_iinc (v := t19) (lv' := [(5, .int t19), (4, .int (0 : Int32)), (0, .ref h_this), (1, .int p0), (2, .int v2), (3, .int v3)]) hx hb dX9_fitting_88 hl (k := 5) rfl (by rw [et19]; rfl) (by decide) rfl (fun ls hl => ?_)
              refine lv_goto (tgt := 49) hx hb dX9_fitting_91 rfl ?_
              exact hK2 _ _ _ _ (ih v2 v3 (0 : Int32) t19 y_this_firstFit g_this_offThen g_this_paidThen hf) _ _ _ h (lv_sub hl [2, 3, 4, 5, 1, 0] rfl)
            · replace hf := ifn c18 hf
              refine lv_iconst (v := (1 : Int32)) hx hb dX9_fitting_81 rfl ?_
              refine lv_goto (tgt := 86) hx hb dX9_fitting_82 rfl ?_
              refine lv_istore (lv' := [(4, .int (1 : Int32)), (0, .ref h_this), (1, .int p0), (2, .int v2), (3, .int v3), (5, .int v5)]) hx hb dX9_fitting_86 hl (by decide) rfl (fun ls hl => ?_)
              obtain ⟨t20, et20⟩ : ∃ y : Int32, y = v5 + (1 : Int32) := ⟨_, rfl⟩
              replace hf := lt1_inv et20 hf
              refine lv_iinc (v := t20) (lv' := [(5, .int t20), (4, .int (1 : Int32)), (0, .ref h_this), (1, .int p0), (2, .int v2), (3, .int v3)]) hx hb dX9_fitting_88 hl (k := 5) rfl (by rw [et20]; rfl) (by decide) rfl (fun ls hl => ?_)
              refine lv_goto (tgt := 49) hx hb dX9_fitting_91 rfl ?_
              exact hK2 _ _ _ _ (ih v2 v3 (1 : Int32) t20 y_this_firstFit g_this_offThen g_this_paidThen hf) _ _ _ h (lv_sub hl [2, 3, 4, 5, 1, 0] rfl)
  have L9 : ∀ (n : Nat) (v2 : Int32) (v3 : Int32) (y_this_firstFit : Int32) (g_this_offThen : Nat → Int32) (g_this_paidThen : Nat → Int32), f_X9_fitting_L9 p0 f_this_s n v2 v3 y_this_firstFit g_this_offThen g_this_paidThen = some (r, m_this_firstFit, m_this_offThen, m_this_paidThen) → K 9 ([] : List Value) [(h_this, ob 9 [.ref h_this_s, .ref h_this_kept, .ref h_this_laid, .int x_this_isKept, .ref h_this_pile, .ref h_this_tape, .int x_this_taped, .ref h_this_letters, .int x_this_at, .int x_this_begun, .int x_this_token, .int x_this_value, .int x_this_opened, .int x_this_steps, .ref h_this_code0, .ref h_this_read, .ref h_this_saved, .ref h_this_plan, .ref h_this_bestPlan, .int x_this_most, .int x_this_many, .int x_this_few, .int x_this_everHome, .ref h_this_offThen, .ref h_this_paidThen, .int y_this_firstFit, .ref h_this_rows, .int x_this_rowMany, .ref h_this_sorts, .ref h_this_sizes, .ref h_this_number, .ref h_this_holds, .ref h_this_heldOne, .ref h_this_trace, .int x_this_traced, .int x_this_own, .int x_this_isParted]), (h_this_offThen, ia G 16 g_this_offThen), (h_this_paidThen, ia G 16 g_this_paidThen), (h_this_s, ia G 313 f_this_s)] [(0, .ref h_this), (1, .int p0), (2, .int v2), (3, .int v3)] := by
    intro n
    induction n with
    | zero =>
      intro v2 v3 y_this_firstFit g_this_offThen g_this_paidThen hf
      replace hf : (none : Option _) = some _ := hf
      cases hf
    | succ n ih =>
      intro v2 v3 y_this_firstFit g_this_offThen g_this_paidThen hf
      rw [f_X9_fitting_L9] at hf
      refine hK1 _ _ _ _ (fun H locs ls h hl => ?_)
      refine lv_iload_n hx hb dX9_fitting_9 rfl (lv_at hl 3 rfl) ?_
      refine lv_sipush (v := (500 : Int32)) hx hb dX9_fitting_10 rfl ?_
      refine lv_icmp_ge (tgt := 137) hx hb dX9_fitting_13 rfl (fun c1 => ?_) (fun c1 => ?_)
      · replace hf := ifp c1 hf
        refine lv_iload_n hx hb dX9_fitting_137 rfl (lv_at hl 2 rfl) ?_
        cases hf
        exact r_iret C h hr hlk rfl dX9_fitting_138
      · replace hf := ifn c1 hf
        refine lv_aload_n hx hb dX9_fitting_16 rfl (lv_at hl 0 rfl) ?_
        refine lv_iconst (v := (1 : Int32)) hx hb dX9_fitting_17 rfl ?_
        refine lv_iload_n hx hb dX9_fitting_18 rfl (lv_at hl 3 rfl) ?_
        refine lv_bipush (v := (100 : Int32)) hx hb dX9_fitting_19 rfl ?_
        refine lv_idiv hx hb dX9_fitting_21 (by decide) ?_
        refine lv_iadd hx hb dX9_fitting_22 ?_
        refine lv_iload_n hx hb dX9_fitting_23 rfl (lv_at hl 3 rfl) ?_
        refine lv_bipush (v := (10 : Int32)) hx hb dX9_fitting_24 rfl ?_
        refine lv_idiv hx hb dX9_fitting_26 (by decide) ?_
        refine lv_bipush (v := (10 : Int32)) hx hb dX9_fitting_27 rfl ?_
        refine lv_irem hx hb dX9_fitting_29 (by decide) ?_
        refine lv_bipush (v := (9 : Int32)) hx hb dX9_fitting_30 rfl ?_
        refine lv_iload_n hx hb dX9_fitting_32 rfl (lv_at hl 3 rfl) ?_
        refine lv_bipush (v := (10 : Int32)) hx hb dX9_fitting_33 rfl ?_
        refine lv_irem hx hb dX9_fitting_35 (by decide) ?_
        refine lv_imul hx hb dX9_fitting_36 ?_
        refine lv_bipush (v := (9 : Int32)) hx hb dX9_fitting_37 rfl ?_
        refine lv_iadd hx hb dX9_fitting_39 ?_
        replace hf := bd2_inv hf
        obtain ⟨g2, g3, hc4, hf⟩ := hf
        refine r_cvV (ws' := [(h_this, ob 9 [.ref h_this_s, .ref h_this_kept, .ref h_this_laid, .int x_this_isKept, .ref h_this_pile, .ref h_this_tape, .int x_this_taped, .ref h_this_letters, .int x_this_at, .int x_this_begun, .int x_this_token, .int x_this_value, .int x_this_opened, .int x_this_steps, .ref h_this_code0, .ref h_this_read, .ref h_this_saved, .ref h_this_plan, .ref h_this_bestPlan, .int x_this_most, .int x_this_many, .int x_this_few, .int x_this_everHome, .ref h_this_offThen, .ref h_this_paidThen, .int y_this_firstFit, .ref h_this_rows, .int x_this_rowMany, .ref h_this_sorts, .ref h_this_sizes, .ref h_this_number, .ref h_this_holds, .ref h_this_heldOne, .ref h_this_trace, .int x_this_traced, .int x_this_own, .int x_this_isParted]), (h_this_offThen, ia G 16 g2), (h_this_paidThen, ia G 16 g3), (h_this_s, ia G 313 f_this_s)]) C h (c_X9_tellsLone hc4) mv_X9_307 rfl 0 rfl [0, 1, 2, 3] rfl rfl rfl rfl rfl hl.1 rfl (Nat.le_of_ble_eq_true rfl) (rok (by decide)) dX9_fitting_40 (fun H locs h => ?_)
        refine lv_iconst (v := (1 : Int32)) hx hb dX9_fitting_43 rfl ?_
        refine lv_istore (lv' := [(4, .int (1 : Int32)), (0, .ref h_this), (1, .int p0), (2, .int v2), (3, .int v3)]) hx hb dX9_fitting_44 hl (by decide) rfl (fun ls hl => ?_)
        refine lv_iconst (v := (0 : Int32)) hx hb dX9_fitting_46 rfl ?_
        refine lv_istore (lv' := [(5, .int (0 : Int32)), (4, .int (1 : Int32)), (0, .ref h_this), (1, .int p0), (2, .int v2), (3, .int v3)]) hx hb dX9_fitting_47 hl (by decide) rfl (fun ls hl => ?_)
        exact hK2 _ _ _ _ (L49 _ ih 1000 v2 v3 (1 : Int32) (0 : Int32) y_this_firstFit g2 g3 hf) _ _ _ h (lv_sub hl [2, 3, 4, 5, 1, 0] rfl)
  refine lv_iconst (v := (0 : Int32)) hx hb dX9_fitting_0 rfl ?_
  refine lv_istore_n (lv' := [(2, .int (0 : Int32)), (0, .ref h_this), (1, .int p0)]) hx hb dX9_fitting_1 rfl hl (by decide) rfl (fun ls hl => ?_)
  refine lv_aload_n hx hb dX9_fitting_2 rfl (lv_at hl 1 rfl) ?_
  refine lv_iconst (v := (-1 : Int32)) hx hb dX9_fitting_3 rfl ?_
  refine r_put (ws' := [(h_this, ob 9 [.ref h_this_s, .ref h_this_kept, .ref h_this_laid, .int x_this_isKept, .ref h_this_pile, .ref h_this_tape, .int x_this_taped, .ref h_this_letters, .int x_this_at, .int x_this_begun, .int x_this_token, .int x_this_value, .int x_this_opened, .int x_this_steps, .ref h_this_code0, .ref h_this_read, .ref h_this_saved, .ref h_this_plan, .ref h_this_bestPlan, .int x_this_most, .int x_this_many, .int x_this_few, .int x_this_everHome, .ref h_this_offThen, .ref h_this_paidThen, .int (-1 : Int32), .ref h_this_rows, .int x_this_rowMany, .ref h_this_sorts, .ref h_this_sizes, .ref h_this_number, .ref h_this_holds, .ref h_this_heldOne, .ref h_this_trace, .int x_this_traced, .int x_this_own, .int x_this_isParted]), (h_this_offThen, ia G 16 f_this_offThen), (h_this_paidThen, ia G 16 f_this_paidThen), (h_this_s, ia G 313 f_this_s)]) C h fw_X9_304 0 rfl rfl rfl (Nat.le_of_ble_eq_true rfl) dX9_fitting_4 rfl (fun H locs h => ?_)
  refine lv_iconst (v := (0 : Int32)) hx hb dX9_fitting_7 rfl ?_
  refine lv_istore_n (lv' := [(3, .int (0 : Int32)), (2, .int (0 : Int32)), (0, .ref h_this), (1, .int p0)]) hx hb dX9_fitting_8 rfl hl (by decide) rfl (fun ls hl => ?_)
  exact hK2 _ _ _ _ (L9 1000 (0 : Int32) (0 : Int32) (-1 : Int32) f_this_offThen f_this_paidThen hf) _ _ _ h (lv_sub hl [2, 3, 1, 0] rfl)
def f_X9_lone_b28 (p0 : Int32) (v2 : Int32) (y_this_firstFit : Int32) (g_this_offThen : Nat → Int32) (g_this_paidThen : Nat → Int32) : Option (Int32 × Int32 × (Nat → Int32) × (Nat → Int32)) := (if p0 = 0 then some (v2, y_this_firstFit, g_this_offThen, g_this_paidThen) else (if p0 = (1 : Int32) then some ((1 : Int32) + (y_this_firstFit / (100 : Int32)), y_this_firstFit, g_this_offThen, g_this_paidThen) else (if p0 = (2 : Int32) then some ((y_this_firstFit / (10 : Int32)) - (y_this_firstFit / (10 : Int32)) / (10 : Int32) * (10 : Int32), y_this_firstFit, g_this_offThen, g_this_paidThen) else some (((9 : Int32) * (y_this_firstFit - y_this_firstFit / (10 : Int32) * (10 : Int32))) + (9 : Int32), y_this_firstFit, g_this_offThen, g_this_paidThen))))
def f_X9_lone (p0 : Int32) (x_this_firstFit : Int32) (f_this_offThen : Nat → Int32) (f_this_paidThen : Nat → Int32) (f_this_s : Nat → Int32) : Option (Int32 × Int32 × (Nat → Int32) × (Nat → Int32)) := bd1 (f_X9_in1 p0 (0 : Int32) (3 : Int32)) (fun r1 => (if r1 = 0 then some ((-1 : Int32), x_this_firstFit, f_this_offThen, f_this_paidThen) else bd4 (f_X9_fitting (-1 : Int32) f_this_offThen f_this_paidThen f_this_s) (fun r4 y5 g6 g7 => (if p0 ≤ 0 then f_X9_lone_b28 p0 r4 y5 g6 g7 else (if r4 = 0 then some ((-3 : Int32), y5, g6, g7) else f_X9_lone_b28 p0 r4 y5 g6 g7)))))
set_option maxRecDepth 100000 in
set_option maxHeartbeats 4000000 in
theorem c_X9_lone {l : Launch} {G : Gt} {h_this h_this_s h_this_kept h_this_laid h_this_pile h_this_tape h_this_letters h_this_code0 h_this_read h_this_saved h_this_plan h_this_bestPlan h_this_offThen h_this_paidThen h_this_rows h_this_sorts h_this_sizes h_this_number h_this_holds h_this_heldOne h_this_trace : Nat} {p0 : Int32} {x_this_isKept : Int32} {x_this_taped : Int32} {x_this_at : Int32} {x_this_begun : Int32} {x_this_token : Int32} {x_this_value : Int32} {x_this_opened : Int32} {x_this_steps : Int32} {x_this_most : Int32} {x_this_many : Int32} {x_this_few : Int32} {x_this_everHome : Int32} {x_this_firstFit : Int32} {x_this_rowMany : Int32} {x_this_traced : Int32} {x_this_own : Int32} {x_this_isParted : Int32} {f_this_offThen : Nat → Int32} {f_this_paidThen : Nat → Int32} {f_this_s : Nat → Int32} {r : Int32} {m_this_firstFit : Int32} {m_this_offThen : Nat → Int32} {m_this_paidThen : Nat → Int32} (hf : f_X9_lone p0 x_this_firstFit f_this_offThen f_this_paidThen f_this_s = some (r, m_this_firstFit, m_this_offThen, m_this_paidThen)) : mFi l G yX9_lone cX9_lone 3 .int 3 [.ref h_this, .int p0] [(h_this, ob 9 [.ref h_this_s, .ref h_this_kept, .ref h_this_laid, .int x_this_isKept, .ref h_this_pile, .ref h_this_tape, .int x_this_taped, .ref h_this_letters, .int x_this_at, .int x_this_begun, .int x_this_token, .int x_this_value, .int x_this_opened, .int x_this_steps, .ref h_this_code0, .ref h_this_read, .ref h_this_saved, .ref h_this_plan, .ref h_this_bestPlan, .int x_this_most, .int x_this_many, .int x_this_few, .int x_this_everHome, .ref h_this_offThen, .ref h_this_paidThen, .int x_this_firstFit, .ref h_this_rows, .int x_this_rowMany, .ref h_this_sorts, .ref h_this_sizes, .ref h_this_number, .ref h_this_holds, .ref h_this_heldOne, .ref h_this_trace, .int x_this_traced, .int x_this_own, .int x_this_isParted]), (h_this_offThen, ia G 16 f_this_offThen), (h_this_paidThen, ia G 16 f_this_paidThen), (h_this_s, ia G 313 f_this_s)] r [(h_this, ob 9 [.ref h_this_s, .ref h_this_kept, .ref h_this_laid, .int x_this_isKept, .ref h_this_pile, .ref h_this_tape, .int x_this_taped, .ref h_this_letters, .int x_this_at, .int x_this_begun, .int x_this_token, .int x_this_value, .int x_this_opened, .int x_this_steps, .ref h_this_code0, .ref h_this_read, .ref h_this_saved, .ref h_this_plan, .ref h_this_bestPlan, .int x_this_most, .int x_this_many, .int x_this_few, .int x_this_everHome, .ref h_this_offThen, .ref h_this_paidThen, .int m_this_firstFit, .ref h_this_rows, .int x_this_rowMany, .ref h_this_sorts, .ref h_this_sizes, .ref h_this_number, .ref h_this_holds, .ref h_this_heldOne, .ref h_this_trace, .int x_this_traced, .int x_this_own, .int x_this_isParted]), (h_this_offThen, ia G 16 m_this_offThen), (h_this_paidThen, ia G 16 m_this_paidThen), (h_this_s, ia G 313 f_this_s)] := by
  refine mFi.of (by decide +kernel) (Nat.le_of_ble_eq_true rfl) ?_
  intro p e s m below meth c A C hr hlk h ls hl
  obtain ⟨hx, hb, hml, hown, hts⟩ := id C
  replace hl : lv_has ls 3 [(0, .ref h_this), (1, .int p0)] := hl
  unfold f_X9_lone at hf
  refine with_K G A 3 (fun K hK1 hK2 => ?_)
  have B28 : ∀ (v2 : Int32) (y_this_firstFit : Int32) (g_this_offThen : Nat → Int32) (g_this_paidThen : Nat → Int32), f_X9_lone_b28 p0 v2 y_this_firstFit g_this_offThen g_this_paidThen = some (r, m_this_firstFit, m_this_offThen, m_this_paidThen) → K 28 ([] : List Value) [(h_this, ob 9 [.ref h_this_s, .ref h_this_kept, .ref h_this_laid, .int x_this_isKept, .ref h_this_pile, .ref h_this_tape, .int x_this_taped, .ref h_this_letters, .int x_this_at, .int x_this_begun, .int x_this_token, .int x_this_value, .int x_this_opened, .int x_this_steps, .ref h_this_code0, .ref h_this_read, .ref h_this_saved, .ref h_this_plan, .ref h_this_bestPlan, .int x_this_most, .int x_this_many, .int x_this_few, .int x_this_everHome, .ref h_this_offThen, .ref h_this_paidThen, .int y_this_firstFit, .ref h_this_rows, .int x_this_rowMany, .ref h_this_sorts, .ref h_this_sizes, .ref h_this_number, .ref h_this_holds, .ref h_this_heldOne, .ref h_this_trace, .int x_this_traced, .int x_this_own, .int x_this_isParted]), (h_this_offThen, ia G 16 g_this_offThen), (h_this_paidThen, ia G 16 g_this_paidThen), (h_this_s, ia G 313 f_this_s)] [(0, .ref h_this), (1, .int p0), (2, .int v2)] := by
    intro v2 y_this_firstFit g_this_offThen g_this_paidThen hf
    unfold f_X9_lone_b28 at hf
    refine hK1 _ _ _ _ (fun H locs ls h hl => ?_)
    refine lv_iload_n hx hb dX9_lone_28 rfl (lv_at hl 1 rfl) ?_
    refine lv_if_ne (tgt := 36) hx hb dX9_lone_29 rfl (fun c10 => ?_) (fun c10 => ?_)
    · replace hf := ifn c10 hf
      refine lv_iload_n hx hb dX9_lone_36 rfl (lv_at hl 1 rfl) ?_
      refine lv_iconst (v := (1 : Int32)) hx hb dX9_lone_37 rfl ?_
      refine lv_icmp_ne (tgt := 53) hx hb dX9_lone_38 rfl (fun c11 => ?_) (fun c11 => ?_)
      · replace hf := ifn c11 hf
        refine lv_iload_n hx hb dX9_lone_53 rfl (lv_at hl 1 rfl) ?_
        refine lv_iconst (v := (2 : Int32)) hx hb dX9_lone_54 rfl ?_
        refine lv_icmp_ne (tgt := 71) hx hb dX9_lone_55 rfl (fun c12 => ?_) (fun c12 => ?_)
        · replace hf := ifn c12 hf
          refine lv_bipush (v := (9 : Int32)) hx hb dX9_lone_71 rfl ?_
          refine lv_aload_n hx hb dX9_lone_73 rfl (lv_at hl 0 rfl) ?_
          refine r_get C h fk_X9_304 0 rfl rfl dX9_lone_74 ?_
          refine lv_bipush (v := (10 : Int32)) hx hb dX9_lone_77 rfl ?_
          refine lv_irem hx hb dX9_lone_79 (by decide) ?_
          refine lv_imul hx hb dX9_lone_80 ?_
          refine lv_bipush (v := (9 : Int32)) hx hb dX9_lone_81 rfl ?_
          refine lv_iadd hx hb dX9_lone_83 ?_
          cases hf
          exact r_iret C h hr hlk rfl dX9_lone_84
        · replace hf := ifp c12 hf
          refine lv_aload_n hx hb dX9_lone_58 rfl (lv_at hl 0 rfl) ?_
          refine r_get C h fk_X9_304 0 rfl rfl dX9_lone_59 ?_
          refine lv_bipush (v := (10 : Int32)) hx hb dX9_lone_62 rfl ?_
          refine lv_idiv hx hb dX9_lone_64 (by decide) ?_
          refine lv_bipush (v := (10 : Int32)) hx hb dX9_lone_65 rfl ?_
          refine lv_irem hx hb dX9_lone_67 (by decide) ?_
          refine lv_goto (tgt := 84) hx hb dX9_lone_68 rfl ?_
          cases hf
          exact r_iret C h hr hlk rfl dX9_lone_84
      · replace hf := ifp c11 hf
        refine lv_iconst (v := (1 : Int32)) hx hb dX9_lone_41 rfl ?_
        refine lv_aload_n hx hb dX9_lone_42 rfl (lv_at hl 0 rfl) ?_
        refine r_get C h fk_X9_304 0 rfl rfl dX9_lone_43 ?_
        refine lv_bipush (v := (100 : Int32)) hx hb dX9_lone_46 rfl ?_
        refine lv_idiv hx hb dX9_lone_48 (by decide) ?_
        refine lv_iadd hx hb dX9_lone_49 ?_
        refine lv_goto (tgt := 84) hx hb dX9_lone_50 rfl ?_
        cases hf
        exact r_iret C h hr hlk rfl dX9_lone_84
    · replace hf := ifp c10 hf
      refine lv_iload_n hx hb dX9_lone_32 rfl (lv_at hl 2 rfl) ?_
      refine lv_goto (tgt := 84) hx hb dX9_lone_33 rfl ?_
      cases hf
      exact r_iret C h hr hlk rfl dX9_lone_84
  refine lv_iload_n hx hb dX9_lone_0 rfl (lv_at hl 1 rfl) ?_
  refine lv_iconst (v := (0 : Int32)) hx hb dX9_lone_1 rfl ?_
  refine lv_iconst (v := (3 : Int32)) hx hb dX9_lone_2 rfl ?_
  replace hf := bd1_inv hf
  obtain ⟨r1, hc2, hf⟩ := hf
  refine r_ciS0 C h (c_X9_in1 hc2) ms_X9_71 rfl [] rfl rfl hl.1 rfl (Nat.le_of_ble_eq_true rfl) (rok (by decide)) dX9_lone_3 (fun H locs h => ?_)
  refine lv_if_ne (tgt := 11) hx hb dX9_lone_6 rfl (fun c3 => ?_) (fun c3 => ?_)
  · replace hf := ifn c3 hf
    refine lv_aload_n hx hb dX9_lone_11 rfl (lv_at hl 0 rfl) ?_
    refine lv_iconst (v := (-1 : Int32)) hx hb dX9_lone_12 rfl ?_
    replace hf := bd4_inv hf
    obtain ⟨r4, y5, g6, g7, hc8, hf⟩ := hf
    refine r_ciV (ws' := [(h_this, ob 9 [.ref h_this_s, .ref h_this_kept, .ref h_this_laid, .int x_this_isKept, .ref h_this_pile, .ref h_this_tape, .int x_this_taped, .ref h_this_letters, .int x_this_at, .int x_this_begun, .int x_this_token, .int x_this_value, .int x_this_opened, .int x_this_steps, .ref h_this_code0, .ref h_this_read, .ref h_this_saved, .ref h_this_plan, .ref h_this_bestPlan, .int x_this_most, .int x_this_many, .int x_this_few, .int x_this_everHome, .ref h_this_offThen, .ref h_this_paidThen, .int y5, .ref h_this_rows, .int x_this_rowMany, .ref h_this_sorts, .ref h_this_sizes, .ref h_this_number, .ref h_this_holds, .ref h_this_heldOne, .ref h_this_trace, .int x_this_traced, .int x_this_own, .int x_this_isParted]), (h_this_offThen, ia G 16 g6), (h_this_paidThen, ia G 16 g7), (h_this_s, ia G 313 f_this_s)]) C h (c_X9_fitting hc8) mv_X9_313 rfl 0 rfl [0, 1, 2, 3] rfl rfl rfl rfl rfl hl.1 rfl (Nat.le_of_ble_eq_true rfl) (rok (by decide)) dX9_lone_13 (fun H locs h => ?_)
    refine lv_istore_n (lv' := [(2, .int r4), (0, .ref h_this), (1, .int p0)]) hx hb dX9_lone_16 rfl hl (by decide) rfl (fun ls hl => ?_)
    refine lv_iload_n hx hb dX9_lone_17 rfl (lv_at hl 2 rfl) ?_
    refine lv_if_le (tgt := 28) hx hb dX9_lone_18 rfl (fun c9 => ?_) (fun c9 => ?_)
    · replace hf := ifp c9 hf
      exact hK2 _ _ _ _ (B28 r4 y5 g6 g7 hf) _ _ _ h (lv_sub hl [1, 2, 0] rfl)
    · replace hf := ifn c9 hf
      refine lv_iload_n hx hb dX9_lone_21 rfl (lv_at hl 0 rfl) ?_
      refine lv_if_ne (tgt := 28) hx hb dX9_lone_22 rfl (fun c13 => ?_) (fun c13 => ?_)
      · replace hf := ifn c13 hf
        exact hK2 _ _ _ _ (B28 r4 y5 g6 g7 hf) _ _ _ h (lv_sub hl [1, 2, 0] rfl)
      · replace hf := ifp c13 hf
        refine lv_bipush (v := (-3 : Int32)) hx hb dX9_lone_25 rfl ?_
        cases hf
        exact r_iret C h hr hlk rfl dX9_lone_27
  · replace hf := ifp c3 hf
    refine lv_iconst (v := (-1 : Int32)) hx hb dX9_lone_9 rfl ?_
    cases hf
    exact r_iret C h hr hlk rfl dX9_lone_10
def f_X9_liar_L13 (f_this_s : Nat → Int32) : Nat → Int32 → Int32 → (Nat → Int32) → (Nat → Int32) → Option (Int32 × Int32 × (Nat → Int32) × (Nat → Int32))
  | 0, _, _, _, _ => none
  | n + 1, v1, y_this_firstFit, g_this_offThen, g_this_paidThen => (if (f_this_s 6) ≤ v1 then some ((-3 : Int32), y_this_firstFit, g_this_offThen, g_this_paidThen) else bd4 (f_X9_fitting v1 g_this_offThen g_this_paidThen f_this_s) (fun r8 y9 g10 g11 => (if r8 ≤ 0 then lt1 (v1 + (1 : Int32)) (fun (t14 : Int32) => (f_X9_liar_L13 f_this_s n) t14 y9 g10 g11) else some (v1, y9, g10, g11))))
def f_X9_liar (f_this_offThen : Nat → Int32) (f_this_paidThen : Nat → Int32) (f_this_s : Nat → Int32) : Option (Int32 × Int32 × (Nat → Int32) × (Nat → Int32)) := bd4 (f_X9_fitting (-1 : Int32) f_this_offThen f_this_paidThen f_this_s) (fun r1 y2 g3 g4 => (if r1 ≤ 0 then f_X9_liar_L13 f_this_s 1000 (0 : Int32) y2 g3 g4 else some ((-3 : Int32), y2, g3, g4)))
set_option maxRecDepth 100000 in
set_option maxHeartbeats 4000000 in
theorem c_X9_liar {l : Launch} {G : Gt} {h_this h_this_s h_this_kept h_this_laid h_this_pile h_this_tape h_this_letters h_this_code0 h_this_read h_this_saved h_this_plan h_this_bestPlan h_this_offThen h_this_paidThen h_this_rows h_this_sorts h_this_sizes h_this_number h_this_holds h_this_heldOne h_this_trace : Nat} {x_this_isKept : Int32} {x_this_taped : Int32} {x_this_at : Int32} {x_this_begun : Int32} {x_this_token : Int32} {x_this_value : Int32} {x_this_opened : Int32} {x_this_steps : Int32} {x_this_most : Int32} {x_this_many : Int32} {x_this_few : Int32} {x_this_everHome : Int32} {x_this_firstFit : Int32} {x_this_rowMany : Int32} {x_this_traced : Int32} {x_this_own : Int32} {x_this_isParted : Int32} {f_this_offThen : Nat → Int32} {f_this_paidThen : Nat → Int32} {f_this_s : Nat → Int32} {r : Int32} {m_this_firstFit : Int32} {m_this_offThen : Nat → Int32} {m_this_paidThen : Nat → Int32} (hf : f_X9_liar f_this_offThen f_this_paidThen f_this_s = some (r, m_this_firstFit, m_this_offThen, m_this_paidThen)) : mFi l G yX9_liar cX9_liar 2 .int 3 [.ref h_this] [(h_this, ob 9 [.ref h_this_s, .ref h_this_kept, .ref h_this_laid, .int x_this_isKept, .ref h_this_pile, .ref h_this_tape, .int x_this_taped, .ref h_this_letters, .int x_this_at, .int x_this_begun, .int x_this_token, .int x_this_value, .int x_this_opened, .int x_this_steps, .ref h_this_code0, .ref h_this_read, .ref h_this_saved, .ref h_this_plan, .ref h_this_bestPlan, .int x_this_most, .int x_this_many, .int x_this_few, .int x_this_everHome, .ref h_this_offThen, .ref h_this_paidThen, .int x_this_firstFit, .ref h_this_rows, .int x_this_rowMany, .ref h_this_sorts, .ref h_this_sizes, .ref h_this_number, .ref h_this_holds, .ref h_this_heldOne, .ref h_this_trace, .int x_this_traced, .int x_this_own, .int x_this_isParted]), (h_this_offThen, ia G 16 f_this_offThen), (h_this_paidThen, ia G 16 f_this_paidThen), (h_this_s, ia G 313 f_this_s)] r [(h_this, ob 9 [.ref h_this_s, .ref h_this_kept, .ref h_this_laid, .int x_this_isKept, .ref h_this_pile, .ref h_this_tape, .int x_this_taped, .ref h_this_letters, .int x_this_at, .int x_this_begun, .int x_this_token, .int x_this_value, .int x_this_opened, .int x_this_steps, .ref h_this_code0, .ref h_this_read, .ref h_this_saved, .ref h_this_plan, .ref h_this_bestPlan, .int x_this_most, .int x_this_many, .int x_this_few, .int x_this_everHome, .ref h_this_offThen, .ref h_this_paidThen, .int m_this_firstFit, .ref h_this_rows, .int x_this_rowMany, .ref h_this_sorts, .ref h_this_sizes, .ref h_this_number, .ref h_this_holds, .ref h_this_heldOne, .ref h_this_trace, .int x_this_traced, .int x_this_own, .int x_this_isParted]), (h_this_offThen, ia G 16 m_this_offThen), (h_this_paidThen, ia G 16 m_this_paidThen), (h_this_s, ia G 313 f_this_s)] := by
  refine mFi.of (by decide +kernel) (Nat.le_of_ble_eq_true rfl) ?_
  intro p e s m below meth c A C hr hlk h ls hl
  obtain ⟨hx, hb, hml, hown, hts⟩ := id C
  replace hl : lv_has ls 2 [(0, .ref h_this)] := hl
  unfold f_X9_liar at hf
  refine with_K G A 2 (fun K hK1 hK2 => ?_)
  have L13 : ∀ (n : Nat) (v1 : Int32) (y_this_firstFit : Int32) (g_this_offThen : Nat → Int32) (g_this_paidThen : Nat → Int32), f_X9_liar_L13 f_this_s n v1 y_this_firstFit g_this_offThen g_this_paidThen = some (r, m_this_firstFit, m_this_offThen, m_this_paidThen) → K 13 ([] : List Value) [(h_this, ob 9 [.ref h_this_s, .ref h_this_kept, .ref h_this_laid, .int x_this_isKept, .ref h_this_pile, .ref h_this_tape, .int x_this_taped, .ref h_this_letters, .int x_this_at, .int x_this_begun, .int x_this_token, .int x_this_value, .int x_this_opened, .int x_this_steps, .ref h_this_code0, .ref h_this_read, .ref h_this_saved, .ref h_this_plan, .ref h_this_bestPlan, .int x_this_most, .int x_this_many, .int x_this_few, .int x_this_everHome, .ref h_this_offThen, .ref h_this_paidThen, .int y_this_firstFit, .ref h_this_rows, .int x_this_rowMany, .ref h_this_sorts, .ref h_this_sizes, .ref h_this_number, .ref h_this_holds, .ref h_this_heldOne, .ref h_this_trace, .int x_this_traced, .int x_this_own, .int x_this_isParted]), (h_this_offThen, ia G 16 g_this_offThen), (h_this_paidThen, ia G 16 g_this_paidThen), (h_this_s, ia G 313 f_this_s)] [(0, .ref h_this), (1, .int v1)] := by
    intro n
    induction n with
    | zero =>
      intro v1 y_this_firstFit g_this_offThen g_this_paidThen hf
      replace hf : (none : Option _) = some _ := hf
      cases hf
    | succ n ih =>
      intro v1 y_this_firstFit g_this_offThen g_this_paidThen hf
      rw [f_X9_liar_L13] at hf
      refine hK1 _ _ _ _ (fun H locs ls h hl => ?_)
      refine lv_iload_n hx hb dX9_liar_13 rfl (lv_at hl 1 rfl) ?_
      refine lv_aload_n hx hb dX9_liar_14 rfl (lv_at hl 0 rfl) ?_
      refine r_get C h fk_X9_9 0 rfl rfl dX9_liar_15 ?_
      refine lv_bipush (v := (6 : Int32)) hx hb dX9_liar_18 rfl ?_
      refine r_ialdL C h 3 rfl (vlit rfl) 6 rfl dX9_liar_20 ?_
      refine lv_icmp_ge (tgt := 40) hx hb dX9_liar_21 rfl (fun c7 => ?_) (fun c7 => ?_)
      · replace hf := ifp c7 hf
        refine lv_bipush (v := (-3 : Int32)) hx hb dX9_liar_40 rfl ?_
        cases hf
        exact r_iret C h hr hlk rfl dX9_liar_42
      · replace hf := ifn c7 hf
        refine lv_aload_n hx hb dX9_liar_24 rfl (lv_at hl 0 rfl) ?_
        refine lv_iload_n hx hb dX9_liar_25 rfl (lv_at hl 1 rfl) ?_
        replace hf := bd4_inv hf
        obtain ⟨r8, y9, g10, g11, hc12, hf⟩ := hf
        refine r_ciV (ws' := [(h_this, ob 9 [.ref h_this_s, .ref h_this_kept, .ref h_this_laid, .int x_this_isKept, .ref h_this_pile, .ref h_this_tape, .int x_this_taped, .ref h_this_letters, .int x_this_at, .int x_this_begun, .int x_this_token, .int x_this_value, .int x_this_opened, .int x_this_steps, .ref h_this_code0, .ref h_this_read, .ref h_this_saved, .ref h_this_plan, .ref h_this_bestPlan, .int x_this_most, .int x_this_many, .int x_this_few, .int x_this_everHome, .ref h_this_offThen, .ref h_this_paidThen, .int y9, .ref h_this_rows, .int x_this_rowMany, .ref h_this_sorts, .ref h_this_sizes, .ref h_this_number, .ref h_this_holds, .ref h_this_heldOne, .ref h_this_trace, .int x_this_traced, .int x_this_own, .int x_this_isParted]), (h_this_offThen, ia G 16 g10), (h_this_paidThen, ia G 16 g11), (h_this_s, ia G 313 f_this_s)]) C h (c_X9_fitting hc12) mv_X9_313 rfl 0 rfl [0, 1, 2, 3] rfl rfl rfl rfl rfl hl.1 rfl (Nat.le_of_ble_eq_true rfl) (rok (by decide)) dX9_liar_26 (fun H locs h => ?_)
        refine lv_if_le (tgt := 34) hx hb dX9_liar_29 rfl (fun c13 => ?_) (fun c13 => ?_)
        · replace hf := ifp c13 hf
          obtain ⟨t14, et14⟩ : ∃ y : Int32, y = v1 + (1 : Int32) := ⟨_, rfl⟩
          replace hf := lt1_inv et14 hf
          refine lv_iinc (v := t14) (lv' := [(1, .int t14), (0, .ref h_this)]) hx hb dX9_liar_34 hl (k := 1) rfl (by rw [et14]; rfl) (by decide) rfl (fun ls hl => ?_)
          refine lv_goto (tgt := 13) hx hb dX9_liar_37 rfl ?_
          exact hK2 _ _ _ _ (ih t14 y9 g10 g11 hf) _ _ _ h (lv_sub hl [1, 0] rfl)
        · replace hf := ifn c13 hf
          refine lv_iload_n hx hb dX9_liar_32 rfl (lv_at hl 1 rfl) ?_
          cases hf
          exact r_iret C h hr hlk rfl dX9_liar_33
  refine lv_aload_n hx hb dX9_liar_0 rfl (lv_at hl 0 rfl) ?_
  refine lv_iconst (v := (-1 : Int32)) hx hb dX9_liar_1 rfl ?_
  replace hf := bd4_inv hf
  obtain ⟨r1, y2, g3, g4, hc5, hf⟩ := hf
  refine r_ciV (ws' := [(h_this, ob 9 [.ref h_this_s, .ref h_this_kept, .ref h_this_laid, .int x_this_isKept, .ref h_this_pile, .ref h_this_tape, .int x_this_taped, .ref h_this_letters, .int x_this_at, .int x_this_begun, .int x_this_token, .int x_this_value, .int x_this_opened, .int x_this_steps, .ref h_this_code0, .ref h_this_read, .ref h_this_saved, .ref h_this_plan, .ref h_this_bestPlan, .int x_this_most, .int x_this_many, .int x_this_few, .int x_this_everHome, .ref h_this_offThen, .ref h_this_paidThen, .int y2, .ref h_this_rows, .int x_this_rowMany, .ref h_this_sorts, .ref h_this_sizes, .ref h_this_number, .ref h_this_holds, .ref h_this_heldOne, .ref h_this_trace, .int x_this_traced, .int x_this_own, .int x_this_isParted]), (h_this_offThen, ia G 16 g3), (h_this_paidThen, ia G 16 g4), (h_this_s, ia G 313 f_this_s)]) C h (c_X9_fitting hc5) mv_X9_313 rfl 0 rfl [0, 1, 2, 3] rfl rfl rfl rfl rfl hl.1 rfl (Nat.le_of_ble_eq_true rfl) (rok (by decide)) dX9_liar_2 (fun H locs h => ?_)
  refine lv_if_le (tgt := 11) hx hb dX9_liar_5 rfl (fun c6 => ?_) (fun c6 => ?_)
  · replace hf := ifp c6 hf
    refine lv_iconst (v := (0 : Int32)) hx hb dX9_liar_11 rfl ?_
    refine lv_istore_n (lv' := [(1, .int (0 : Int32)), (0, .ref h_this)]) hx hb dX9_liar_12 rfl hl (by decide) rfl (fun ls hl => ?_)
    exact hK2 _ _ _ _ (L13 1000 (0 : Int32) y2 g3 g4 hf) _ _ _ h (lv_sub hl [1, 0] rfl)
  · replace hf := ifn c6 hf
    refine lv_bipush (v := (-3 : Int32)) hx hb dX9_liar_8 rfl ?_
    cases hf
    exact r_iret C h hr hlk rfl dX9_liar_10
def f_X9_seed (p0 : Int32) (f_this_s : Nat → Int32) : Option (Int32 × (Nat → Int32)) := bd2 (f_X9_becomes (3 : Int32) p0 f_this_s) (fun r1 g2 => some (r1, g2))
set_option maxRecDepth 100000 in
set_option maxHeartbeats 4000000 in
theorem c_X9_seed {l : Launch} {G : Gt} {h_this h_this_s h_this_kept h_this_laid h_this_pile h_this_tape h_this_letters h_this_code0 h_this_read h_this_saved h_this_plan h_this_bestPlan h_this_offThen h_this_paidThen h_this_rows h_this_sorts h_this_sizes h_this_number h_this_holds h_this_heldOne h_this_trace : Nat} {p0 : Int32} {x_this_isKept : Int32} {x_this_taped : Int32} {x_this_at : Int32} {x_this_begun : Int32} {x_this_token : Int32} {x_this_value : Int32} {x_this_opened : Int32} {x_this_steps : Int32} {x_this_most : Int32} {x_this_many : Int32} {x_this_few : Int32} {x_this_everHome : Int32} {x_this_firstFit : Int32} {x_this_rowMany : Int32} {x_this_traced : Int32} {x_this_own : Int32} {x_this_isParted : Int32} {f_this_s : Nat → Int32} {r : Int32} {m_this_s : Nat → Int32} (hf : f_X9_seed p0 f_this_s = some (r, m_this_s)) : mFi l G yX9_seed cX9_seed 2 .int 1 [.ref h_this, .int p0] [(h_this, ob 9 [.ref h_this_s, .ref h_this_kept, .ref h_this_laid, .int x_this_isKept, .ref h_this_pile, .ref h_this_tape, .int x_this_taped, .ref h_this_letters, .int x_this_at, .int x_this_begun, .int x_this_token, .int x_this_value, .int x_this_opened, .int x_this_steps, .ref h_this_code0, .ref h_this_read, .ref h_this_saved, .ref h_this_plan, .ref h_this_bestPlan, .int x_this_most, .int x_this_many, .int x_this_few, .int x_this_everHome, .ref h_this_offThen, .ref h_this_paidThen, .int x_this_firstFit, .ref h_this_rows, .int x_this_rowMany, .ref h_this_sorts, .ref h_this_sizes, .ref h_this_number, .ref h_this_holds, .ref h_this_heldOne, .ref h_this_trace, .int x_this_traced, .int x_this_own, .int x_this_isParted]), (h_this_s, ia G 313 f_this_s)] r [(h_this, ob 9 [.ref h_this_s, .ref h_this_kept, .ref h_this_laid, .int x_this_isKept, .ref h_this_pile, .ref h_this_tape, .int x_this_taped, .ref h_this_letters, .int x_this_at, .int x_this_begun, .int x_this_token, .int x_this_value, .int x_this_opened, .int x_this_steps, .ref h_this_code0, .ref h_this_read, .ref h_this_saved, .ref h_this_plan, .ref h_this_bestPlan, .int x_this_most, .int x_this_many, .int x_this_few, .int x_this_everHome, .ref h_this_offThen, .ref h_this_paidThen, .int x_this_firstFit, .ref h_this_rows, .int x_this_rowMany, .ref h_this_sorts, .ref h_this_sizes, .ref h_this_number, .ref h_this_holds, .ref h_this_heldOne, .ref h_this_trace, .int x_this_traced, .int x_this_own, .int x_this_isParted]), (h_this_s, ia G 313 m_this_s)] := by
  refine mFi.of (by decide +kernel) (Nat.le_of_ble_eq_true rfl) ?_
  intro p e s m below meth c A C hr hlk h ls hl
  obtain ⟨hx, hb, hml, hown, hts⟩ := id C
  replace hl : lv_has ls 2 [(0, .ref h_this), (1, .int p0)] := hl
  unfold f_X9_seed at hf
  refine lv_aload_n hx hb dX9_seed_0 rfl (lv_at hl 0 rfl) ?_
  refine lv_iconst (v := (3 : Int32)) hx hb dX9_seed_1 rfl ?_
  refine lv_iload_n hx hb dX9_seed_2 rfl (lv_at hl 1 rfl) ?_
  replace hf := bd2_inv hf
  obtain ⟨r1, g2, hc3, hf⟩ := hf
  refine r_ciV (ws' := [(h_this, ob 9 [.ref h_this_s, .ref h_this_kept, .ref h_this_laid, .int x_this_isKept, .ref h_this_pile, .ref h_this_tape, .int x_this_taped, .ref h_this_letters, .int x_this_at, .int x_this_begun, .int x_this_token, .int x_this_value, .int x_this_opened, .int x_this_steps, .ref h_this_code0, .ref h_this_read, .ref h_this_saved, .ref h_this_plan, .ref h_this_bestPlan, .int x_this_most, .int x_this_many, .int x_this_few, .int x_this_everHome, .ref h_this_offThen, .ref h_this_paidThen, .int x_this_firstFit, .ref h_this_rows, .int x_this_rowMany, .ref h_this_sorts, .ref h_this_sizes, .ref h_this_number, .ref h_this_holds, .ref h_this_heldOne, .ref h_this_trace, .int x_this_traced, .int x_this_own, .int x_this_isParted]), (h_this_s, ia G 313 g2)]) C h (c_X9_becomes hc3) mv_X9_229 rfl 0 rfl [0, 1] rfl rfl rfl rfl rfl hl.1 rfl (Nat.le_of_ble_eq_true rfl) (rok (by decide)) dX9_seed_3 (fun H locs h => ?_)
  cases hf
  exact r_iret C h hr hlk rfl dX9_seed_6
def f_X9_byLot (f_this_pile : Nat → Int32) (f_this_s : Nat → Int32) : Option (Int32 × (Nat → Int32) × (Nat → Int32)) := lt1 (((f_this_s 3) * (1103515245 : Int32)) + (12345 : Int32)) (fun (t1 : Int32) => chkD (((upd f_this_s 3 t1) 4) + (1 : Int32)) (bd3 (f_X9_goesBy ((iushr ((upd f_this_s 3 t1) 3) (16 : Int32)) - (iushr ((upd f_this_s 3 t1) 3) (16 : Int32)) / (((upd f_this_s 3 t1) 4) + (1 : Int32)) * (((upd f_this_s 3 t1) 4) + (1 : Int32))) f_this_pile (upd f_this_s 3 t1)) (fun r3 g4 g5 => some (r3, g4, g5))))
set_option maxRecDepth 100000 in
set_option maxHeartbeats 4000000 in
theorem c_X9_byLot {l : Launch} {G : Gt} {h_this h_this_s h_this_kept h_this_laid h_this_pile h_this_tape h_this_letters h_this_code0 h_this_read h_this_saved h_this_plan h_this_bestPlan h_this_offThen h_this_paidThen h_this_rows h_this_sorts h_this_sizes h_this_number h_this_holds h_this_heldOne h_this_trace : Nat} {x_this_isKept : Int32} {x_this_taped : Int32} {x_this_at : Int32} {x_this_begun : Int32} {x_this_token : Int32} {x_this_value : Int32} {x_this_opened : Int32} {x_this_steps : Int32} {x_this_most : Int32} {x_this_many : Int32} {x_this_few : Int32} {x_this_everHome : Int32} {x_this_firstFit : Int32} {x_this_rowMany : Int32} {x_this_traced : Int32} {x_this_own : Int32} {x_this_isParted : Int32} {f_this_pile : Nat → Int32} {f_this_s : Nat → Int32} {r : Int32} {m_this_pile : Nat → Int32} {m_this_s : Nat → Int32} (hf : f_X9_byLot f_this_pile f_this_s = some (r, m_this_pile, m_this_s)) : mFi l G yX9_byLot cX9_byLot 1 .int 7 [.ref h_this] [(h_this, ob 9 [.ref h_this_s, .ref h_this_kept, .ref h_this_laid, .int x_this_isKept, .ref h_this_pile, .ref h_this_tape, .int x_this_taped, .ref h_this_letters, .int x_this_at, .int x_this_begun, .int x_this_token, .int x_this_value, .int x_this_opened, .int x_this_steps, .ref h_this_code0, .ref h_this_read, .ref h_this_saved, .ref h_this_plan, .ref h_this_bestPlan, .int x_this_most, .int x_this_many, .int x_this_few, .int x_this_everHome, .ref h_this_offThen, .ref h_this_paidThen, .int x_this_firstFit, .ref h_this_rows, .int x_this_rowMany, .ref h_this_sorts, .ref h_this_sizes, .ref h_this_number, .ref h_this_holds, .ref h_this_heldOne, .ref h_this_trace, .int x_this_traced, .int x_this_own, .int x_this_isParted]), (h_this_pile, ia G 200 f_this_pile), (h_this_s, ia G 313 f_this_s)] r [(h_this, ob 9 [.ref h_this_s, .ref h_this_kept, .ref h_this_laid, .int x_this_isKept, .ref h_this_pile, .ref h_this_tape, .int x_this_taped, .ref h_this_letters, .int x_this_at, .int x_this_begun, .int x_this_token, .int x_this_value, .int x_this_opened, .int x_this_steps, .ref h_this_code0, .ref h_this_read, .ref h_this_saved, .ref h_this_plan, .ref h_this_bestPlan, .int x_this_most, .int x_this_many, .int x_this_few, .int x_this_everHome, .ref h_this_offThen, .ref h_this_paidThen, .int x_this_firstFit, .ref h_this_rows, .int x_this_rowMany, .ref h_this_sorts, .ref h_this_sizes, .ref h_this_number, .ref h_this_holds, .ref h_this_heldOne, .ref h_this_trace, .int x_this_traced, .int x_this_own, .int x_this_isParted]), (h_this_pile, ia G 200 m_this_pile), (h_this_s, ia G 313 m_this_s)] := by
  refine mFi.of (by decide +kernel) (Nat.le_of_ble_eq_true rfl) ?_
  intro p e s m below meth c A C hr hlk h ls hl
  obtain ⟨hx, hb, hml, hown, hts⟩ := id C
  replace hl : lv_has ls 1 [(0, .ref h_this)] := hl
  unfold f_X9_byLot at hf
  refine lv_aload_n hx hb dX9_byLot_0 rfl (lv_at hl 0 rfl) ?_
  refine r_get C h fk_X9_9 0 rfl rfl dX9_byLot_1 ?_
  refine lv_iconst (v := (3 : Int32)) hx hb dX9_byLot_4 rfl ?_
  refine lv_aload_n hx hb dX9_byLot_5 rfl (lv_at hl 0 rfl) ?_
  refine r_get C h fk_X9_9 0 rfl rfl dX9_byLot_6 ?_
  refine lv_iconst (v := (3 : Int32)) hx hb dX9_byLot_9 rfl ?_
  refine r_ialdL C h 2 rfl (vlit rfl) 3 rfl dX9_byLot_10 ?_
  refine lv_ldcw hx hb hown (hts _ cw_X9_316) dX9_byLot_11 ?_
  refine lv_imul hx hb dX9_byLot_14 ?_
  refine lv_sipush (v := (12345 : Int32)) hx hb dX9_byLot_15 rfl ?_
  refine lv_iadd hx hb dX9_byLot_18 ?_
  refine lv_topi (fun t1 et1 => ?_)
  replace hf := lt1_inv et1 hf
  refine r_iastL (ws' := [(h_this, ob 9 [.ref h_this_s, .ref h_this_kept, .ref h_this_laid, .int x_this_isKept, .ref h_this_pile, .ref h_this_tape, .int x_this_taped, .ref h_this_letters, .int x_this_at, .int x_this_begun, .int x_this_token, .int x_this_value, .int x_this_opened, .int x_this_steps, .ref h_this_code0, .ref h_this_read, .ref h_this_saved, .ref h_this_plan, .ref h_this_bestPlan, .int x_this_most, .int x_this_many, .int x_this_few, .int x_this_everHome, .ref h_this_offThen, .ref h_this_paidThen, .int x_this_firstFit, .ref h_this_rows, .int x_this_rowMany, .ref h_this_sorts, .ref h_this_sizes, .ref h_this_number, .ref h_this_holds, .ref h_this_heldOne, .ref h_this_trace, .int x_this_traced, .int x_this_own, .int x_this_isParted]), (h_this_pile, ia G 200 f_this_pile), (h_this_s, ia G 313 (upd f_this_s 3 t1))]) C h 2 rfl (vlit rfl) 3 rfl dX9_byLot_19 rfl (fun H locs h => ?_)
  refine lv_aload_n hx hb dX9_byLot_20 rfl (lv_at hl 0 rfl) ?_
  refine lv_aload_n hx hb dX9_byLot_21 rfl (lv_at hl 0 rfl) ?_
  refine r_get C h fk_X9_9 0 rfl rfl dX9_byLot_22 ?_
  refine lv_iconst (v := (3 : Int32)) hx hb dX9_byLot_25 rfl ?_
  refine r_ialdL C h 2 rfl (vlit rfl) 3 rfl dX9_byLot_26 ?_
  refine lv_bipush (v := (16 : Int32)) hx hb dX9_byLot_27 rfl ?_
  refine lv_iushr (v := iushr ((upd f_this_s 3 t1) 3) (16 : Int32)) hx hb dX9_byLot_29 rfl ?_
  refine lv_aload_n hx hb dX9_byLot_30 rfl (lv_at hl 0 rfl) ?_
  refine r_get C h fk_X9_9 0 rfl rfl dX9_byLot_31 ?_
  refine lv_iconst (v := (4 : Int32)) hx hb dX9_byLot_34 rfl ?_
  refine r_ialdL C h 2 rfl (vlit rfl) 4 rfl dX9_byLot_35 ?_
  refine lv_iconst (v := (1 : Int32)) hx hb dX9_byLot_36 rfl ?_
  refine lv_iadd hx hb dX9_byLot_37 ?_
  replace hf := chkD_inv hf
  obtain ⟨hd2, hf⟩ := hf
  refine lv_irem hx hb dX9_byLot_38 hd2 ?_
  replace hf := bd3_inv hf
  obtain ⟨r3, g4, g5, hc6, hf⟩ := hf
  refine r_ciV (ws' := [(h_this, ob 9 [.ref h_this_s, .ref h_this_kept, .ref h_this_laid, .int x_this_isKept, .ref h_this_pile, .ref h_this_tape, .int x_this_taped, .ref h_this_letters, .int x_this_at, .int x_this_begun, .int x_this_token, .int x_this_value, .int x_this_opened, .int x_this_steps, .ref h_this_code0, .ref h_this_read, .ref h_this_saved, .ref h_this_plan, .ref h_this_bestPlan, .int x_this_most, .int x_this_many, .int x_this_few, .int x_this_everHome, .ref h_this_offThen, .ref h_this_paidThen, .int x_this_firstFit, .ref h_this_rows, .int x_this_rowMany, .ref h_this_sorts, .ref h_this_sizes, .ref h_this_number, .ref h_this_holds, .ref h_this_heldOne, .ref h_this_trace, .int x_this_traced, .int x_this_own, .int x_this_isParted]), (h_this_pile, ia G 200 g4), (h_this_s, ia G 313 g5)]) C h (c_X9_goesBy hc6) mv_X9_238 rfl 0 rfl [0, 1, 2] rfl rfl rfl rfl rfl hl.1 rfl (Nat.le_of_ble_eq_true rfl) (rok (by decide)) dX9_byLot_39 (fun H locs h => ?_)
  cases hf
  exact r_iret C h hr hlk rfl dX9_byLot_42
def f_X9_lot (f_this_pile : Nat → Int32) (f_this_s : Nat → Int32) : Option (Int32 × (Nat → Int32) × (Nat → Int32)) := bd1 (f_X9_isOver f_this_s) (fun r1 => (if r1 = 0 then bd3 (f_X9_byLot f_this_pile f_this_s) (fun r4 g5 g6 => some (r4, g5, g6)) else some ((-4 : Int32), f_this_pile, f_this_s)))
set_option maxRecDepth 100000 in
set_option maxHeartbeats 4000000 in
theorem c_X9_lot {l : Launch} {G : Gt} {h_this h_this_s h_this_kept h_this_laid h_this_pile h_this_tape h_this_letters h_this_code0 h_this_read h_this_saved h_this_plan h_this_bestPlan h_this_offThen h_this_paidThen h_this_rows h_this_sorts h_this_sizes h_this_number h_this_holds h_this_heldOne h_this_trace : Nat} {x_this_isKept : Int32} {x_this_taped : Int32} {x_this_at : Int32} {x_this_begun : Int32} {x_this_token : Int32} {x_this_value : Int32} {x_this_opened : Int32} {x_this_steps : Int32} {x_this_most : Int32} {x_this_many : Int32} {x_this_few : Int32} {x_this_everHome : Int32} {x_this_firstFit : Int32} {x_this_rowMany : Int32} {x_this_traced : Int32} {x_this_own : Int32} {x_this_isParted : Int32} {f_this_pile : Nat → Int32} {f_this_s : Nat → Int32} {r : Int32} {m_this_pile : Nat → Int32} {m_this_s : Nat → Int32} (hf : f_X9_lot f_this_pile f_this_s = some (r, m_this_pile, m_this_s)) : mFi l G yX9_lot cX9_lot 1 .int 8 [.ref h_this] [(h_this, ob 9 [.ref h_this_s, .ref h_this_kept, .ref h_this_laid, .int x_this_isKept, .ref h_this_pile, .ref h_this_tape, .int x_this_taped, .ref h_this_letters, .int x_this_at, .int x_this_begun, .int x_this_token, .int x_this_value, .int x_this_opened, .int x_this_steps, .ref h_this_code0, .ref h_this_read, .ref h_this_saved, .ref h_this_plan, .ref h_this_bestPlan, .int x_this_most, .int x_this_many, .int x_this_few, .int x_this_everHome, .ref h_this_offThen, .ref h_this_paidThen, .int x_this_firstFit, .ref h_this_rows, .int x_this_rowMany, .ref h_this_sorts, .ref h_this_sizes, .ref h_this_number, .ref h_this_holds, .ref h_this_heldOne, .ref h_this_trace, .int x_this_traced, .int x_this_own, .int x_this_isParted]), (h_this_pile, ia G 200 f_this_pile), (h_this_s, ia G 313 f_this_s)] r [(h_this, ob 9 [.ref h_this_s, .ref h_this_kept, .ref h_this_laid, .int x_this_isKept, .ref h_this_pile, .ref h_this_tape, .int x_this_taped, .ref h_this_letters, .int x_this_at, .int x_this_begun, .int x_this_token, .int x_this_value, .int x_this_opened, .int x_this_steps, .ref h_this_code0, .ref h_this_read, .ref h_this_saved, .ref h_this_plan, .ref h_this_bestPlan, .int x_this_most, .int x_this_many, .int x_this_few, .int x_this_everHome, .ref h_this_offThen, .ref h_this_paidThen, .int x_this_firstFit, .ref h_this_rows, .int x_this_rowMany, .ref h_this_sorts, .ref h_this_sizes, .ref h_this_number, .ref h_this_holds, .ref h_this_heldOne, .ref h_this_trace, .int x_this_traced, .int x_this_own, .int x_this_isParted]), (h_this_pile, ia G 200 m_this_pile), (h_this_s, ia G 313 m_this_s)] := by
  refine mFi.of (by decide +kernel) (Nat.le_of_ble_eq_true rfl) ?_
  intro p e s m below meth c A C hr hlk h ls hl
  obtain ⟨hx, hb, hml, hown, hts⟩ := id C
  replace hl : lv_has ls 1 [(0, .ref h_this)] := hl
  unfold f_X9_lot at hf
  refine lv_aload_n hx hb dX9_lot_0 rfl (lv_at hl 0 rfl) ?_
  replace hf := bd1_inv hf
  obtain ⟨r1, hc2, hf⟩ := hf
  refine r_ciV0 C h (c_X9_isOver hc2) mv_X9_232 rfl 0 rfl [0, 2] rfl rfl hl.1 rfl (Nat.le_of_ble_eq_true rfl) (rok (by decide)) dX9_lot_1 (fun H locs h => ?_)
  refine lv_if_eq (tgt := 12) hx hb dX9_lot_4 rfl (fun c3 => ?_) (fun c3 => ?_)
  · replace hf := ifp c3 hf
    refine lv_aload_n hx hb dX9_lot_12 rfl (lv_at hl 0 rfl) ?_
    replace hf := bd3_inv hf
    obtain ⟨r4, g5, g6, hc7, hf⟩ := hf
    refine r_ciV (ws' := [(h_this, ob 9 [.ref h_this_s, .ref h_this_kept, .ref h_this_laid, .int x_this_isKept, .ref h_this_pile, .ref h_this_tape, .int x_this_taped, .ref h_this_letters, .int x_this_at, .int x_this_begun, .int x_this_token, .int x_this_value, .int x_this_opened, .int x_this_steps, .ref h_this_code0, .ref h_this_read, .ref h_this_saved, .ref h_this_plan, .ref h_this_bestPlan, .int x_this_most, .int x_this_many, .int x_this_few, .int x_this_everHome, .ref h_this_offThen, .ref h_this_paidThen, .int x_this_firstFit, .ref h_this_rows, .int x_this_rowMany, .ref h_this_sorts, .ref h_this_sizes, .ref h_this_number, .ref h_this_holds, .ref h_this_heldOne, .ref h_this_trace, .int x_this_traced, .int x_this_own, .int x_this_isParted]), (h_this_pile, ia G 200 g5), (h_this_s, ia G 313 g6)]) C h (c_X9_byLot hc7) mv_X9_317 rfl 0 rfl [0, 1, 2] rfl rfl rfl rfl rfl hl.1 rfl (Nat.le_of_ble_eq_true rfl) (rok (by decide)) dX9_lot_13 (fun H locs h => ?_)
    cases hf
    exact r_iret C h hr hlk rfl dX9_lot_16
  · replace hf := ifn c3 hf
    refine lv_bipush (v := (-4 : Int32)) hx hb dX9_lot_7 rfl ?_
    refine lv_goto (tgt := 16) hx hb dX9_lot_9 rfl ?_
    cases hf
    exact r_iret C h hr hlk rfl dX9_lot_16
def f_X9_times_b72 (rec32 : Int32 → Int32 → (Nat → Int32) → (Nat → Int32) → (Nat → Int32) → Option (Int32 × (Nat → Int32) × (Nat → Int32) × (Nat → Int32))) (v4 : Int32) (s0 : Int32) (s1 : Int32) (g_this_laid : Nat → Int32) (g_this_pile : Nat → Int32) (g_this_s : Nat → Int32) : Option (Int32 × (Nat → Int32) × (Nat → Int32) × (Nat → Int32)) := lt1 (s0 + s1) (fun (t16 : Int32) => lt1 (g_this_s 3) (fun (t17 : Int32) => bd1 (f_X9_layBack g_this_laid g_this_s) (fun g18 => lt1 (v4 + (1 : Int32)) (fun (t20 : Int32) => rec32 t16 t20 g_this_laid g_this_pile (upd g18 3 t17)))))
def f_X9_times_b60 (rec32 : Int32 → Int32 → (Nat → Int32) → (Nat → Int32) → (Nat → Int32) → Option (Int32 × (Nat → Int32) × (Nat → Int32) × (Nat → Int32))) (p1 : Int32) (v3 : Int32) (v4 : Int32) (v5 : Int32) (g_this_laid : Nat → Int32) (g_this_pile : Nat → Int32) (g_this_s : Nat → Int32) : Option (Int32 × (Nat → Int32) × (Nat → Int32) × (Nat → Int32)) := (if v5 < p1 then f_X9_times_b72 rec32 v4 v3 (0 : Int32) g_this_laid g_this_pile g_this_s else f_X9_times_b72 rec32 v4 v3 (1 : Int32) g_this_laid g_this_pile g_this_s)
def f_X9_times_L41 (rec32 : Int32 → Int32 → (Nat → Int32) → (Nat → Int32) → (Nat → Int32) → Option (Int32 × (Nat → Int32) × (Nat → Int32) × (Nat → Int32))) (p1 : Int32) : Nat → Int32 → Int32 → Int32 → (Nat → Int32) → (Nat → Int32) → (Nat → Int32) → Option (Int32 × (Nat → Int32) × (Nat → Int32) × (Nat → Int32))
  | 0, _, _, _, _, _, _ => none
  | n + 1, v3, v4, v5, g_this_laid, g_this_pile, g_this_s => bd1 (f_X9_isOver g_this_s) (fun r12 => (if r12 = 0 then bd3 (f_X9_byLot g_this_pile g_this_s) (fun r21 g22 g23 => lt1 (v5 + r21) (fun (t25 : Int32) => (f_X9_times_L41 rec32 p1 n) v3 v4 t25 g_this_laid g22 g23)) else f_X9_times_b60 rec32 p1 v3 v4 v5 g_this_laid g_this_pile g_this_s))
def f_X9_times_L32 (p0 : Int32) (p1 : Int32) : Nat → Int32 → Int32 → (Nat → Int32) → (Nat → Int32) → (Nat → Int32) → Option (Int32 × (Nat → Int32) × (Nat → Int32) × (Nat → Int32))
  | 0, _, _, _, _, _ => none
  | n + 1, v3, v4, g_this_laid, g_this_pile, g_this_s => (if p0 ≤ v4 then bd1 (f_X9_layBack g_this_laid g_this_s) (fun g10 => some (v3, g_this_laid, g_this_pile, g10)) else f_X9_times_L41 (f_X9_times_L32 p0 p1 n) p1 1000 v3 v4 (0 : Int32) g_this_laid g_this_pile g_this_s)
def f_X9_times (p0 : Int32) (p1 : Int32) (f_this_laid : Nat → Int32) (f_this_pile : Nat → Int32) (f_this_s : Nat → Int32) : Option (Int32 × (Nat → Int32) × (Nat → Int32) × (Nat → Int32)) := bd1 (f_X9_in1 p0 (1 : Int32) (40 : Int32)) (fun r1 => (if r1 = 0 then some ((-1 : Int32), f_this_laid, f_this_pile, f_this_s) else bd1 (f_X9_in1 p1 (0 : Int32) (999 : Int32)) (fun r4 => (if r4 = 0 then some ((-1 : Int32), f_this_laid, f_this_pile, f_this_s) else bd1 (f_X9_layDown f_this_laid f_this_s) (fun g7 => f_X9_times_L32 p0 p1 1000 (0 : Int32) (0 : Int32) g7 f_this_pile f_this_s)))))
set_option maxRecDepth 100000 in
set_option maxHeartbeats 4000000 in
theorem c_X9_times {l : Launch} {G : Gt} {h_this h_this_s h_this_kept h_this_laid h_this_pile h_this_tape h_this_letters h_this_code0 h_this_read h_this_saved h_this_plan h_this_bestPlan h_this_offThen h_this_paidThen h_this_rows h_this_sorts h_this_sizes h_this_number h_this_holds h_this_heldOne h_this_trace : Nat} {p0 : Int32} {p1 : Int32} {x_this_isKept : Int32} {x_this_taped : Int32} {x_this_at : Int32} {x_this_begun : Int32} {x_this_token : Int32} {x_this_value : Int32} {x_this_opened : Int32} {x_this_steps : Int32} {x_this_most : Int32} {x_this_many : Int32} {x_this_few : Int32} {x_this_everHome : Int32} {x_this_firstFit : Int32} {x_this_rowMany : Int32} {x_this_traced : Int32} {x_this_own : Int32} {x_this_isParted : Int32} {f_this_laid : Nat → Int32} {f_this_pile : Nat → Int32} {f_this_s : Nat → Int32} {r : Int32} {m_this_laid : Nat → Int32} {m_this_pile : Nat → Int32} {m_this_s : Nat → Int32} (hf : f_X9_times p0 p1 f_this_laid f_this_pile f_this_s = some (r, m_this_laid, m_this_pile, m_this_s)) : mFi l G yX9_times cX9_times 7 .int 8 [.ref h_this, .int p0, .int p1] [(h_this, ob 9 [.ref h_this_s, .ref h_this_kept, .ref h_this_laid, .int x_this_isKept, .ref h_this_pile, .ref h_this_tape, .int x_this_taped, .ref h_this_letters, .int x_this_at, .int x_this_begun, .int x_this_token, .int x_this_value, .int x_this_opened, .int x_this_steps, .ref h_this_code0, .ref h_this_read, .ref h_this_saved, .ref h_this_plan, .ref h_this_bestPlan, .int x_this_most, .int x_this_many, .int x_this_few, .int x_this_everHome, .ref h_this_offThen, .ref h_this_paidThen, .int x_this_firstFit, .ref h_this_rows, .int x_this_rowMany, .ref h_this_sorts, .ref h_this_sizes, .ref h_this_number, .ref h_this_holds, .ref h_this_heldOne, .ref h_this_trace, .int x_this_traced, .int x_this_own, .int x_this_isParted]), (h_this_laid, ia G 65 f_this_laid), (h_this_pile, ia G 200 f_this_pile), (h_this_s, ia G 313 f_this_s)] r [(h_this, ob 9 [.ref h_this_s, .ref h_this_kept, .ref h_this_laid, .int x_this_isKept, .ref h_this_pile, .ref h_this_tape, .int x_this_taped, .ref h_this_letters, .int x_this_at, .int x_this_begun, .int x_this_token, .int x_this_value, .int x_this_opened, .int x_this_steps, .ref h_this_code0, .ref h_this_read, .ref h_this_saved, .ref h_this_plan, .ref h_this_bestPlan, .int x_this_most, .int x_this_many, .int x_this_few, .int x_this_everHome, .ref h_this_offThen, .ref h_this_paidThen, .int x_this_firstFit, .ref h_this_rows, .int x_this_rowMany, .ref h_this_sorts, .ref h_this_sizes, .ref h_this_number, .ref h_this_holds, .ref h_this_heldOne, .ref h_this_trace, .int x_this_traced, .int x_this_own, .int x_this_isParted]), (h_this_laid, ia G 65 m_this_laid), (h_this_pile, ia G 200 m_this_pile), (h_this_s, ia G 313 m_this_s)] := by
  refine mFi.of (by decide +kernel) (Nat.le_of_ble_eq_true rfl) ?_
  intro p e s m below meth c A C hr hlk h ls hl
  obtain ⟨hx, hb, hml, hown, hts⟩ := id C
  replace hl : lv_has ls 7 [(0, .ref h_this), (1, .int p0), (2, .int p1)] := hl
  unfold f_X9_times at hf
  refine with_K G A 7 (fun K hK1 hK2 => ?_)
  have B72 : ∀ (rec32 : Int32 → Int32 → (Nat → Int32) → (Nat → Int32) → (Nat → Int32) → Option (Int32 × (Nat → Int32) × (Nat → Int32) × (Nat → Int32))) (hrec32 : ∀ (v3 : Int32) (v4 : Int32) (g_this_laid : Nat → Int32) (g_this_pile : Nat → Int32) (g_this_s : Nat → Int32), rec32 v3 v4 g_this_laid g_this_pile g_this_s = some (r, m_this_laid, m_this_pile, m_this_s) → K 32 ([] : List Value) [(h_this, ob 9 [.ref h_this_s, .ref h_this_kept, .ref h_this_laid, .int x_this_isKept, .ref h_this_pile, .ref h_this_tape, .int x_this_taped, .ref h_this_letters, .int x_this_at, .int x_this_begun, .int x_this_token, .int x_this_value, .int x_this_opened, .int x_this_steps, .ref h_this_code0, .ref h_this_read, .ref h_this_saved, .ref h_this_plan, .ref h_this_bestPlan, .int x_this_most, .int x_this_many, .int x_this_few, .int x_this_everHome, .ref h_this_offThen, .ref h_this_paidThen, .int x_this_firstFit, .ref h_this_rows, .int x_this_rowMany, .ref h_this_sorts, .ref h_this_sizes, .ref h_this_number, .ref h_this_holds, .ref h_this_heldOne, .ref h_this_trace, .int x_this_traced, .int x_this_own, .int x_this_isParted]), (h_this_laid, ia G 65 g_this_laid), (h_this_pile, ia G 200 g_this_pile), (h_this_s, ia G 313 g_this_s)] [(0, .ref h_this), (1, .int p0), (2, .int p1), (3, .int v3), (4, .int v4)]) (v4 : Int32) (s0 : Int32) (s1 : Int32) (g_this_laid : Nat → Int32) (g_this_pile : Nat → Int32) (g_this_s : Nat → Int32), f_X9_times_b72 rec32 v4 s0 s1 g_this_laid g_this_pile g_this_s = some (r, m_this_laid, m_this_pile, m_this_s) → K 72 [.int s1, .int s0] [(h_this, ob 9 [.ref h_this_s, .ref h_this_kept, .ref h_this_laid, .int x_this_isKept, .ref h_this_pile, .ref h_this_tape, .int x_this_taped, .ref h_this_letters, .int x_this_at, .int x_this_begun, .int x_this_token, .int x_this_value, .int x_this_opened, .int x_this_steps, .ref h_this_code0, .ref h_this_read, .ref h_this_saved, .ref h_this_plan, .ref h_this_bestPlan, .int x_this_most, .int x_this_many, .int x_this_few, .int x_this_everHome, .ref h_this_offThen, .ref h_this_paidThen, .int x_this_firstFit, .ref h_this_rows, .int x_this_rowMany, .ref h_this_sorts, .ref h_this_sizes, .ref h_this_number, .ref h_this_holds, .ref h_this_heldOne, .ref h_this_trace, .int x_this_traced, .int x_this_own, .int x_this_isParted]), (h_this_laid, ia G 65 g_this_laid), (h_this_pile, ia G 200 g_this_pile), (h_this_s, ia G 313 g_this_s)] [(0, .ref h_this), (1, .int p0), (2, .int p1), (4, .int v4)] := by
    intro rec32 hrec32 v4 s0 s1 g_this_laid g_this_pile g_this_s hf
    unfold f_X9_times_b72 at hf
    refine hK1 _ _ _ _ (fun H locs ls h hl => ?_)
    refine lv_iadd hx hb dX9_times_72 ?_
    refine lv_topi (fun t16 et16 => ?_)
    replace hf := lt1_inv et16 hf
    refine lv_istore_n (lv' := [(3, .int t16), (0, .ref h_this), (1, .int p0), (2, .int p1), (4, .int v4)]) hx hb dX9_times_73 rfl hl (by decide) rfl (fun ls hl => ?_)
    refine lv_aload_n hx hb dX9_times_74 rfl (lv_at hl 1 rfl) ?_
    refine r_get C h fk_X9_9 0 rfl rfl dX9_times_75 ?_
    refine lv_iconst (v := (3 : Int32)) hx hb dX9_times_78 rfl ?_
    refine r_ialdL C h 3 rfl (vlit rfl) 3 rfl dX9_times_79 ?_
    refine lv_topi (fun t17 et17 => ?_)
    replace hf := lt1_inv et17 hf
    refine lv_istore (lv' := [(6, .int t17), (3, .int t16), (0, .ref h_this), (1, .int p0), (2, .int p1), (4, .int v4)]) hx hb dX9_times_80 hl (by decide) rfl (fun ls hl => ?_)
    refine lv_aload_n hx hb dX9_times_82 rfl (lv_at hl 2 rfl) ?_
    replace hf := bd1_inv hf
    obtain ⟨g18, hc19, hf⟩ := hf
    refine r_cvV (ws' := [(h_this, ob 9 [.ref h_this_s, .ref h_this_kept, .ref h_this_laid, .int x_this_isKept, .ref h_this_pile, .ref h_this_tape, .int x_this_taped, .ref h_this_letters, .int x_this_at, .int x_this_begun, .int x_this_token, .int x_this_value, .int x_this_opened, .int x_this_steps, .ref h_this_code0, .ref h_this_read, .ref h_this_saved, .ref h_this_plan, .ref h_this_bestPlan, .int x_this_most, .int x_this_many, .int x_this_few, .int x_this_everHome, .ref h_this_offThen, .ref h_this_paidThen, .int x_this_firstFit, .ref h_this_rows, .int x_this_rowMany, .ref h_this_sorts, .ref h_this_sizes, .ref h_this_number, .ref h_this_holds, .ref h_this_heldOne, .ref h_this_trace, .int x_this_traced, .int x_this_own, .int x_this_isParted]), (h_this_laid, ia G 65 g_this_laid), (h_this_pile, ia G 200 g_this_pile), (h_this_s, ia G 313 g18)]) C h (c_X9_layBack hc19) mv_X9_247 rfl 0 rfl [0, 1, 3] rfl rfl rfl rfl rfl hl.1 rfl (Nat.le_of_ble_eq_true rfl) (rok (by decide)) dX9_times_83 (fun H locs h => ?_)
    refine lv_aload_n hx hb dX9_times_86 rfl (lv_at hl 2 rfl) ?_
    refine r_get C h fk_X9_9 0 rfl rfl dX9_times_87 ?_
    refine lv_iconst (v := (3 : Int32)) hx hb dX9_times_90 rfl ?_
    refine lv_iload hx hb dX9_times_91 (lv_at hl 0 rfl) ?_
    refine r_iastL (ws' := [(h_this, ob 9 [.ref h_this_s, .ref h_this_kept, .ref h_this_laid, .int x_this_isKept, .ref h_this_pile, .ref h_this_tape, .int x_this_taped, .ref h_this_letters, .int x_this_at, .int x_this_begun, .int x_this_token, .int x_this_value, .int x_this_opened, .int x_this_steps, .ref h_this_code0, .ref h_this_read, .ref h_this_saved, .ref h_this_plan, .ref h_this_bestPlan, .int x_this_most, .int x_this_many, .int x_this_few, .int x_this_everHome, .ref h_this_offThen, .ref h_this_paidThen, .int x_this_firstFit, .ref h_this_rows, .int x_this_rowMany, .ref h_this_sorts, .ref h_this_sizes, .ref h_this_number, .ref h_this_holds, .ref h_this_heldOne, .ref h_this_trace, .int x_this_traced, .int x_this_own, .int x_this_isParted]), (h_this_laid, ia G 65 g_this_laid), (h_this_pile, ia G 200 g_this_pile), (h_this_s, ia G 313 (upd g18 3 t17))]) C h 3 rfl (vlit rfl) 3 rfl dX9_times_93 rfl (fun H locs h => ?_)
    obtain ⟨t20, et20⟩ : ∃ y : Int32, y = v4 + (1 : Int32) := ⟨_, rfl⟩
    replace hf := lt1_inv et20 hf
    refine lv_iinc (v := t20) (lv' := [(4, .int t20), (6, .int t17), (3, .int t16), (0, .ref h_this), (1, .int p0), (2, .int p1)]) hx hb dX9_times_94 hl (k := 5) rfl (by rw [et20]; rfl) (by decide) rfl (fun ls hl => ?_)
    refine lv_goto (tgt := 32) hx hb dX9_times_97 rfl ?_
    exact hK2 _ _ _ _ (hrec32 t16 t20 g_this_laid g_this_pile (upd g18 3 t17) hf) _ _ _ h (lv_sub hl [3, 4, 5, 2, 0] rfl)
  have B60 : ∀ (rec32 : Int32 → Int32 → (Nat → Int32) → (Nat → Int32) → (Nat → Int32) → Option (Int32 × (Nat → Int32) × (Nat → Int32) × (Nat → Int32))) (hrec32 : ∀ (v3 : Int32) (v4 : Int32) (g_this_laid : Nat → Int32) (g_this_pile : Nat → Int32) (g_this_s : Nat → Int32), rec32 v3 v4 g_this_laid g_this_pile g_this_s = some (r, m_this_laid, m_this_pile, m_this_s) → K 32 ([] : List Value) [(h_this, ob 9 [.ref h_this_s, .ref h_this_kept, .ref h_this_laid, .int x_this_isKept, .ref h_this_pile, .ref h_this_tape, .int x_this_taped, .ref h_this_letters, .int x_this_at, .int x_this_begun, .int x_this_token, .int x_this_value, .int x_this_opened, .int x_this_steps, .ref h_this_code0, .ref h_this_read, .ref h_this_saved, .ref h_this_plan, .ref h_this_bestPlan, .int x_this_most, .int x_this_many, .int x_this_few, .int x_this_everHome, .ref h_this_offThen, .ref h_this_paidThen, .int x_this_firstFit, .ref h_this_rows, .int x_this_rowMany, .ref h_this_sorts, .ref h_this_sizes, .ref h_this_number, .ref h_this_holds, .ref h_this_heldOne, .ref h_this_trace, .int x_this_traced, .int x_this_own, .int x_this_isParted]), (h_this_laid, ia G 65 g_this_laid), (h_this_pile, ia G 200 g_this_pile), (h_this_s, ia G 313 g_this_s)] [(0, .ref h_this), (1, .int p0), (2, .int p1), (3, .int v3), (4, .int v4)]) (v3 : Int32) (v4 : Int32) (v5 : Int32) (g_this_laid : Nat → Int32) (g_this_pile : Nat → Int32) (g_this_s : Nat → Int32), f_X9_times_b60 rec32 p1 v3 v4 v5 g_this_laid g_this_pile g_this_s = some (r, m_this_laid, m_this_pile, m_this_s) → K 60 ([] : List Value) [(h_this, ob 9 [.ref h_this_s, .ref h_this_kept, .ref h_this_laid, .int x_this_isKept, .ref h_this_pile, .ref h_this_tape, .int x_this_taped, .ref h_this_letters, .int x_this_at, .int x_this_begun, .int x_this_token, .int x_this_value, .int x_this_opened, .int x_this_steps, .ref h_this_code0, .ref h_this_read, .ref h_this_saved, .ref h_this_plan, .ref h_this_bestPlan, .int x_this_most, .int x_this_many, .int x_this_few, .int x_this_everHome, .ref h_this_offThen, .ref h_this_paidThen, .int x_this_firstFit, .ref h_this_rows, .int x_this_rowMany, .ref h_this_sorts, .ref h_this_sizes, .ref h_this_number, .ref h_this_holds, .ref h_this_heldOne, .ref h_this_trace, .int x_this_traced, .int x_this_own, .int x_this_isParted]), (h_this_laid, ia G 65 g_this_laid), (h_this_pile, ia G 200 g_this_pile), (h_this_s, ia G 313 g_this_s)] [(0, .ref h_this), (1, .int p0), (2, .int p1), (3, .int v3), (4, .int v4), (5, .int v5)] := by
    intro rec32 hrec32 v3 v4 v5 g_this_laid g_this_pile g_this_s hf
    unfold f_X9_times_b60 at hf
    refine hK1 _ _ _ _ (fun H locs ls h hl => ?_)
    refine lv_iload_n hx hb dX9_times_60 rfl (lv_at hl 3 rfl) ?_
    refine lv_iload hx hb dX9_times_61 (lv_at hl 5 rfl) ?_
    refine lv_iload_n hx hb dX9_times_63 rfl (lv_at hl 2 rfl) ?_
    refine lv_icmp_lt (tgt := 71) hx hb dX9_times_64 rfl (fun c15 => ?_) (fun c15 => ?_)
    · replace hf := ifp c15 hf
      refine lv_iconst (v := (0 : Int32)) hx hb dX9_times_71 rfl ?_
      exact hK2 _ _ _ _ (B72 _ hrec32 v4 v3 (0 : Int32) g_this_laid g_this_pile g_this_s hf) _ _ _ h (lv_sub hl [0, 1, 2, 4] rfl)
    · replace hf := ifn c15 hf
      refine lv_iconst (v := (1 : Int32)) hx hb dX9_times_67 rfl ?_
      refine lv_goto (tgt := 72) hx hb dX9_times_68 rfl ?_
      exact hK2 _ _ _ _ (B72 _ hrec32 v4 v3 (1 : Int32) g_this_laid g_this_pile g_this_s hf) _ _ _ h (lv_sub hl [0, 1, 2, 4] rfl)
  have L41 : ∀ (rec32 : Int32 → Int32 → (Nat → Int32) → (Nat → Int32) → (Nat → Int32) → Option (Int32 × (Nat → Int32) × (Nat → Int32) × (Nat → Int32))) (hrec32 : ∀ (v3 : Int32) (v4 : Int32) (g_this_laid : Nat → Int32) (g_this_pile : Nat → Int32) (g_this_s : Nat → Int32), rec32 v3 v4 g_this_laid g_this_pile g_this_s = some (r, m_this_laid, m_this_pile, m_this_s) → K 32 ([] : List Value) [(h_this, ob 9 [.ref h_this_s, .ref h_this_kept, .ref h_this_laid, .int x_this_isKept, .ref h_this_pile, .ref h_this_tape, .int x_this_taped, .ref h_this_letters, .int x_this_at, .int x_this_begun, .int x_this_token, .int x_this_value, .int x_this_opened, .int x_this_steps, .ref h_this_code0, .ref h_this_read, .ref h_this_saved, .ref h_this_plan, .ref h_this_bestPlan, .int x_this_most, .int x_this_many, .int x_this_few, .int x_this_everHome, .ref h_this_offThen, .ref h_this_paidThen, .int x_this_firstFit, .ref h_this_rows, .int x_this_rowMany, .ref h_this_sorts, .ref h_this_sizes, .ref h_this_number, .ref h_this_holds, .ref h_this_heldOne, .ref h_this_trace, .int x_this_traced, .int x_this_own, .int x_this_isParted]), (h_this_laid, ia G 65 g_this_laid), (h_this_pile, ia G 200 g_this_pile), (h_this_s, ia G 313 g_this_s)] [(0, .ref h_this), (1, .int p0), (2, .int p1), (3, .int v3), (4, .int v4)]) (n : Nat) (v3 : Int32) (v4 : Int32) (v5 : Int32) (g_this_laid : Nat → Int32) (g_this_pile : Nat → Int32) (g_this_s : Nat → Int32), f_X9_times_L41 rec32 p1 n v3 v4 v5 g_this_laid g_this_pile g_this_s = some (r, m_this_laid, m_this_pile, m_this_s) → K 41 ([] : List Value) [(h_this, ob 9 [.ref h_this_s, .ref h_this_kept, .ref h_this_laid, .int x_this_isKept, .ref h_this_pile, .ref h_this_tape, .int x_this_taped, .ref h_this_letters, .int x_this_at, .int x_this_begun, .int x_this_token, .int x_this_value, .int x_this_opened, .int x_this_steps, .ref h_this_code0, .ref h_this_read, .ref h_this_saved, .ref h_this_plan, .ref h_this_bestPlan, .int x_this_most, .int x_this_many, .int x_this_few, .int x_this_everHome, .ref h_this_offThen, .ref h_this_paidThen, .int x_this_firstFit, .ref h_this_rows, .int x_this_rowMany, .ref h_this_sorts, .ref h_this_sizes, .ref h_this_number, .ref h_this_holds, .ref h_this_heldOne, .ref h_this_trace, .int x_this_traced, .int x_this_own, .int x_this_isParted]), (h_this_laid, ia G 65 g_this_laid), (h_this_pile, ia G 200 g_this_pile), (h_this_s, ia G 313 g_this_s)] [(0, .ref h_this), (1, .int p0), (2, .int p1), (3, .int v3), (4, .int v4), (5, .int v5)] := by
    intro rec32 hrec32 n
    induction n with
    | zero =>
      intro v3 v4 v5 g_this_laid g_this_pile g_this_s hf
      replace hf : (none : Option _) = some _ := hf
      cases hf
    | succ n ih =>
      intro v3 v4 v5 g_this_laid g_this_pile g_this_s hf
      rw [f_X9_times_L41] at hf
      refine hK1 _ _ _ _ (fun H locs ls h hl => ?_)
      refine lv_aload_n hx hb dX9_times_41 rfl (lv_at hl 0 rfl) ?_
      replace hf := bd1_inv hf
      obtain ⟨r12, hc13, hf⟩ := hf
      refine r_ciV0 C h (c_X9_isOver hc13) mv_X9_232 rfl 0 rfl [0, 3] rfl rfl hl.1 rfl (Nat.le_of_ble_eq_true rfl) (rok (by decide)) dX9_times_42 (fun H locs h => ?_)
      refine lv_if_ne (tgt := 60) hx hb dX9_times_45 rfl (fun c14 => ?_) (fun c14 => ?_)
      · replace hf := ifn c14 hf
        exact hK2 _ _ _ _ (B60 _ hrec32 v3 v4 v5 g_this_laid g_this_pile g_this_s hf) _ _ _ h (lv_sub hl [0, 1, 2, 3, 4, 5] rfl)
      · replace hf := ifp c14 hf
        refine lv_iload hx hb dX9_times_48 (lv_at hl 5 rfl) ?_
        refine lv_aload_n hx hb dX9_times_50 rfl (lv_at hl 0 rfl) ?_
        replace hf := bd3_inv hf
        obtain ⟨r21, g22, g23, hc24, hf⟩ := hf
        refine r_ciV (ws' := [(h_this, ob 9 [.ref h_this_s, .ref h_this_kept, .ref h_this_laid, .int x_this_isKept, .ref h_this_pile, .ref h_this_tape, .int x_this_taped, .ref h_this_letters, .int x_this_at, .int x_this_begun, .int x_this_token, .int x_this_value, .int x_this_opened, .int x_this_steps, .ref h_this_code0, .ref h_this_read, .ref h_this_saved, .ref h_this_plan, .ref h_this_bestPlan, .int x_this_most, .int x_this_many, .int x_this_few, .int x_this_everHome, .ref h_this_offThen, .ref h_this_paidThen, .int x_this_firstFit, .ref h_this_rows, .int x_this_rowMany, .ref h_this_sorts, .ref h_this_sizes, .ref h_this_number, .ref h_this_holds, .ref h_this_heldOne, .ref h_this_trace, .int x_this_traced, .int x_this_own, .int x_this_isParted]), (h_this_laid, ia G 65 g_this_laid), (h_this_pile, ia G 200 g22), (h_this_s, ia G 313 g23)]) C h (c_X9_byLot hc24) mv_X9_317 rfl 0 rfl [0, 2, 3] rfl rfl rfl rfl rfl hl.1 rfl (Nat.le_of_ble_eq_true rfl) (rok (by decide)) dX9_times_51 (fun H locs h => ?_)
        refine lv_iadd hx hb dX9_times_54 ?_
        refine lv_topi (fun t25 et25 => ?_)
        replace hf := lt1_inv et25 hf
        refine lv_istore (lv' := [(5, .int t25), (0, .ref h_this), (1, .int p0), (2, .int p1), (3, .int v3), (4, .int v4)]) hx hb dX9_times_55 hl (by decide) rfl (fun ls hl => ?_)
        refine lv_goto (tgt := 41) hx hb dX9_times_57 rfl ?_
        exact hK2 _ _ _ _ (ih v3 v4 t25 g_this_laid g22 g23 hf) _ _ _ h (lv_sub hl [1, 2, 3, 4, 5, 0] rfl)
  have L32 : ∀ (n : Nat) (v3 : Int32) (v4 : Int32) (g_this_laid : Nat → Int32) (g_this_pile : Nat → Int32) (g_this_s : Nat → Int32), f_X9_times_L32 p0 p1 n v3 v4 g_this_laid g_this_pile g_this_s = some (r, m_this_laid, m_this_pile, m_this_s) → K 32 ([] : List Value) [(h_this, ob 9 [.ref h_this_s, .ref h_this_kept, .ref h_this_laid, .int x_this_isKept, .ref h_this_pile, .ref h_this_tape, .int x_this_taped, .ref h_this_letters, .int x_this_at, .int x_this_begun, .int x_this_token, .int x_this_value, .int x_this_opened, .int x_this_steps, .ref h_this_code0, .ref h_this_read, .ref h_this_saved, .ref h_this_plan, .ref h_this_bestPlan, .int x_this_most, .int x_this_many, .int x_this_few, .int x_this_everHome, .ref h_this_offThen, .ref h_this_paidThen, .int x_this_firstFit, .ref h_this_rows, .int x_this_rowMany, .ref h_this_sorts, .ref h_this_sizes, .ref h_this_number, .ref h_this_holds, .ref h_this_heldOne, .ref h_this_trace, .int x_this_traced, .int x_this_own, .int x_this_isParted]), (h_this_laid, ia G 65 g_this_laid), (h_this_pile, ia G 200 g_this_pile), (h_this_s, ia G 313 g_this_s)] [(0, .ref h_this), (1, .int p0), (2, .int p1), (3, .int v3), (4, .int v4)] := by
    intro n
    induction n with
    | zero =>
      intro v3 v4 g_this_laid g_this_pile g_this_s hf
      replace hf : (none : Option _) = some _ := hf
      cases hf
    | succ n ih =>
      intro v3 v4 g_this_laid g_this_pile g_this_s hf
      rw [f_X9_times_L32] at hf
      refine hK1 _ _ _ _ (fun H locs ls h hl => ?_)
      refine lv_iload hx hb dX9_times_32 (lv_at hl 4 rfl) ?_
      refine lv_iload_n hx hb dX9_times_34 rfl (lv_at hl 1 rfl) ?_
      refine lv_icmp_ge (tgt := 100) hx hb dX9_times_35 rfl (fun c9 => ?_) (fun c9 => ?_)
      · replace hf := ifp c9 hf
        refine lv_aload_n hx hb dX9_times_100 rfl (lv_at hl 0 rfl) ?_
        replace hf := bd1_inv hf
        obtain ⟨g10, hc11, hf⟩ := hf
        refine r_cvV (ws' := [(h_this, ob 9 [.ref h_this_s, .ref h_this_kept, .ref h_this_laid, .int x_this_isKept, .ref h_this_pile, .ref h_this_tape, .int x_this_taped, .ref h_this_letters, .int x_this_at, .int x_this_begun, .int x_this_token, .int x_this_value, .int x_this_opened, .int x_this_steps, .ref h_this_code0, .ref h_this_read, .ref h_this_saved, .ref h_this_plan, .ref h_this_bestPlan, .int x_this_most, .int x_this_many, .int x_this_few, .int x_this_everHome, .ref h_this_offThen, .ref h_this_paidThen, .int x_this_firstFit, .ref h_this_rows, .int x_this_rowMany, .ref h_this_sorts, .ref h_this_sizes, .ref h_this_number, .ref h_this_holds, .ref h_this_heldOne, .ref h_this_trace, .int x_this_traced, .int x_this_own, .int x_this_isParted]), (h_this_laid, ia G 65 g_this_laid), (h_this_pile, ia G 200 g_this_pile), (h_this_s, ia G 313 g10)]) C h (c_X9_layBack hc11) mv_X9_247 rfl 0 rfl [0, 1, 3] rfl rfl rfl rfl rfl hl.1 rfl (Nat.le_of_ble_eq_true rfl) (rok (by decide)) dX9_times_101 (fun H locs h => ?_)
        refine lv_iload_n hx hb dX9_times_104 rfl (lv_at hl 3 rfl) ?_
        cases hf
        exact r_iret C h hr hlk rfl dX9_times_105
      · replace hf := ifn c9 hf
        refine lv_iconst (v := (0 : Int32)) hx hb dX9_times_38 rfl ?_
        refine lv_istore (lv' := [(5, .int (0 : Int32)), (0, .ref h_this), (1, .int p0), (2, .int p1), (3, .int v3), (4, .int v4)]) hx hb dX9_times_39 hl (by decide) rfl (fun ls hl => ?_)
        exact hK2 _ _ _ _ (L41 _ ih 1000 v3 v4 (0 : Int32) g_this_laid g_this_pile g_this_s hf) _ _ _ h (lv_sub hl [1, 2, 3, 4, 5, 0] rfl)
  refine lv_iload_n hx hb dX9_times_0 rfl (lv_at hl 1 rfl) ?_
  refine lv_iconst (v := (1 : Int32)) hx hb dX9_times_1 rfl ?_
  refine lv_bipush (v := (40 : Int32)) hx hb dX9_times_2 rfl ?_
  replace hf := bd1_inv hf
  obtain ⟨r1, hc2, hf⟩ := hf
  refine r_ciS0 C h (c_X9_in1 hc2) ms_X9_71 rfl [] rfl rfl hl.1 rfl (Nat.le_of_ble_eq_true rfl) (rok (by decide)) dX9_times_4 (fun H locs h => ?_)
  refine lv_if_eq (tgt := 21) hx hb dX9_times_7 rfl (fun c3 => ?_) (fun c3 => ?_)
  · replace hf := ifp c3 hf
    refine lv_iconst (v := (-1 : Int32)) hx hb dX9_times_21 rfl ?_
    cases hf
    exact r_iret C h hr hlk rfl dX9_times_22
  · replace hf := ifn c3 hf
    refine lv_iload_n hx hb dX9_times_10 rfl (lv_at hl 2 rfl) ?_
    refine lv_iconst (v := (0 : Int32)) hx hb dX9_times_11 rfl ?_
    refine lv_sipush (v := (999 : Int32)) hx hb dX9_times_12 rfl ?_
    replace hf := bd1_inv hf
    obtain ⟨r4, hc5, hf⟩ := hf
    refine r_ciS0 C h (c_X9_in1 hc5) ms_X9_71 rfl [] rfl rfl hl.1 rfl (Nat.le_of_ble_eq_true rfl) (rok (by decide)) dX9_times_15 (fun H locs h => ?_)
    refine lv_if_ne (tgt := 23) hx hb dX9_times_18 rfl (fun c6 => ?_) (fun c6 => ?_)
    · replace hf := ifn c6 hf
      refine lv_aload_n hx hb dX9_times_23 rfl (lv_at hl 0 rfl) ?_
      replace hf := bd1_inv hf
      obtain ⟨g7, hc8, hf⟩ := hf
      refine r_cvV (ws' := [(h_this, ob 9 [.ref h_this_s, .ref h_this_kept, .ref h_this_laid, .int x_this_isKept, .ref h_this_pile, .ref h_this_tape, .int x_this_taped, .ref h_this_letters, .int x_this_at, .int x_this_begun, .int x_this_token, .int x_this_value, .int x_this_opened, .int x_this_steps, .ref h_this_code0, .ref h_this_read, .ref h_this_saved, .ref h_this_plan, .ref h_this_bestPlan, .int x_this_most, .int x_this_many, .int x_this_few, .int x_this_everHome, .ref h_this_offThen, .ref h_this_paidThen, .int x_this_firstFit, .ref h_this_rows, .int x_this_rowMany, .ref h_this_sorts, .ref h_this_sizes, .ref h_this_number, .ref h_this_holds, .ref h_this_heldOne, .ref h_this_trace, .int x_this_traced, .int x_this_own, .int x_this_isParted]), (h_this_laid, ia G 65 g7), (h_this_pile, ia G 200 f_this_pile), (h_this_s, ia G 313 f_this_s)]) C h (c_X9_layDown hc8) mv_X9_241 rfl 0 rfl [0, 1, 3] rfl rfl rfl rfl rfl hl.1 rfl (Nat.le_of_ble_eq_true rfl) (rok (by decide)) dX9_times_24 (fun H locs h => ?_)
      refine lv_iconst (v := (0 : Int32)) hx hb dX9_times_27 rfl ?_
      refine lv_istore_n (lv' := [(3, .int (0 : Int32)), (0, .ref h_this), (1, .int p0), (2, .int p1)]) hx hb dX9_times_28 rfl hl (by decide) rfl (fun ls hl => ?_)
      refine lv_iconst (v := (0 : Int32)) hx hb dX9_times_29 rfl ?_
      refine lv_istore (lv' := [(4, .int (0 : Int32)), (3, .int (0 : Int32)), (0, .ref h_this), (1, .int p0), (2, .int p1)]) hx hb dX9_times_30 hl (by decide) rfl (fun ls hl => ?_)
      exact hK2 _ _ _ _ (L32 1000 (0 : Int32) (0 : Int32) g7 f_this_pile f_this_s hf) _ _ _ h (lv_sub hl [2, 3, 4, 1, 0] rfl)
    · replace hf := ifp c6 hf
      refine lv_iconst (v := (-1 : Int32)) hx hb dX9_times_21 rfl ?_
      cases hf
      exact r_iret C h hr hlk rfl dX9_times_22
def f_X9_prove_L30 : Nat → Int32 → Int32 → Int32 → Int32 → Int32 → Int32 → (Nat → Int32) → (Nat → Int32) → (Nat → Int32) → (Nat → Int32) → (Nat → Int32) → (Nat → Int32) → (Nat → Int32) → Option (Int32 × Int32 × Int32 × Int32 × Int32 × Int32 × (Nat → Int32) × (Nat → Int32) × (Nat → Int32) × (Nat → Int32) × (Nat → Int32) × (Nat → Int32) × (Nat → Int32))
  | 0, _, _, _, _, _, _, _, _, _, _, _, _, _ => none
  | n + 1, v2, y_this_most, y_this_many, y_this_few, y_this_everHome, y_this_rowMany, g_this_bestPlan, g_this_laid, g_this_pile, g_this_plan, g_this_rows, g_this_s, g_this_saved => (if y_this_rowMany ≤ v2 then bd1 (f_X9_layBack g_this_laid g_this_s) (fun g19 => some (y_this_rowMany, y_this_most, y_this_many, y_this_few, y_this_everHome, y_this_rowMany, g_this_bestPlan, g_this_laid, g_this_pile, g_this_plan, g_this_rows, g19, g_this_saved)) else chkI v2 4 (lt1 (g_this_bestPlan v2.toNatClampNeg) (fun (t22 : Int32) => chkI ((3 : Int32) * v2) 12 (chkI v2 4 (bd3 (f_X9_goesBy (g_this_bestPlan v2.toNatClampNeg) g_this_pile g_this_s) (fun r25 g26 g27 => chkI (((3 : Int32) * v2) + (1 : Int32)) 12 (bd1 (f_X9_those (4 : Int32) g27) (fun r30 => chkI (((3 : Int32) * v2) + (2 : Int32)) 12 (lt1 (v2 + (1 : Int32)) (fun (t33 : Int32) => (f_X9_prove_L30 n) t33 y_this_most y_this_many y_this_few y_this_everHome y_this_rowMany g_this_bestPlan g_this_laid g26 g_this_plan (upd (upd (upd g_this_rows ((3 : Int32) * v2).toNatClampNeg t22) (((3 : Int32) * v2) + (1 : Int32)).toNatClampNeg r25) (((3 : Int32) * v2) + (2 : Int32)).toNatClampNeg r30) g27 g_this_saved))))))))))
def f_X9_prove (p0 : Int32) (x_this_most : Int32) (x_this_many : Int32) (x_this_few : Int32) (x_this_everHome : Int32) (x_this_rowMany : Int32) (f_this_bestPlan : Nat → Int32) (f_this_laid : Nat → Int32) (f_this_pile : Nat → Int32) (f_this_plan : Nat → Int32) (f_this_rows : Nat → Int32) (f_this_s : Nat → Int32) (f_this_saved : Nat → Int32) : Option (Int32 × Int32 × Int32 × Int32 × Int32 × Int32 × (Nat → Int32) × (Nat → Int32) × (Nat → Int32) × (Nat → Int32) × (Nat → Int32) × (Nat → Int32) × (Nat → Int32)) := bd1 (f_X9_isPlan p0) (fun r1 => (if r1 = 0 then some ((-1 : Int32), x_this_most, x_this_many, x_this_few, x_this_everHome, x_this_rowMany, f_this_bestPlan, f_this_laid, f_this_pile, f_this_plan, f_this_rows, f_this_s, f_this_saved) else bd9 (f_X9_triesAll p0 (0 : Int32) f_this_bestPlan f_this_pile f_this_plan f_this_s f_this_saved) (fun y4 y5 y6 y7 g8 g9 g10 g11 g12 => bd1 (f_X9_daysOf p0 g11) (fun r14 => bd1 (f_X9_layDown f_this_laid g11) (fun g16 => f_X9_prove_L30 1000 (0 : Int32) y4 y5 y6 y7 r14 g8 g16 g9 g10 f_this_rows g11 g12)))))
set_option maxRecDepth 100000 in
set_option maxHeartbeats 4000000 in
theorem c_X9_prove {l : Launch} {G : Gt} {h_this h_this_s h_this_kept h_this_laid h_this_pile h_this_tape h_this_letters h_this_code0 h_this_read h_this_saved h_this_plan h_this_bestPlan h_this_offThen h_this_paidThen h_this_rows h_this_sorts h_this_sizes h_this_number h_this_holds h_this_heldOne h_this_trace : Nat} {p0 : Int32} {x_this_isKept : Int32} {x_this_taped : Int32} {x_this_at : Int32} {x_this_begun : Int32} {x_this_token : Int32} {x_this_value : Int32} {x_this_opened : Int32} {x_this_steps : Int32} {x_this_most : Int32} {x_this_many : Int32} {x_this_few : Int32} {x_this_everHome : Int32} {x_this_firstFit : Int32} {x_this_rowMany : Int32} {x_this_traced : Int32} {x_this_own : Int32} {x_this_isParted : Int32} {f_this_bestPlan : Nat → Int32} {f_this_laid : Nat → Int32} {f_this_pile : Nat → Int32} {f_this_plan : Nat → Int32} {f_this_rows : Nat → Int32} {f_this_s : Nat → Int32} {f_this_saved : Nat → Int32} {r : Int32} {m_this_most : Int32} {m_this_many : Int32} {m_this_few : Int32} {m_this_everHome : Int32} {m_this_rowMany : Int32} {m_this_bestPlan : Nat → Int32} {m_this_laid : Nat → Int32} {m_this_pile : Nat → Int32} {m_this_plan : Nat → Int32} {m_this_rows : Nat → Int32} {m_this_s : Nat → Int32} {m_this_saved : Nat → Int32} (hf : f_X9_prove p0 x_this_most x_this_many x_this_few x_this_everHome x_this_rowMany f_this_bestPlan f_this_laid f_this_pile f_this_plan f_this_rows f_this_s f_this_saved = some (r, m_this_most, m_this_many, m_this_few, m_this_everHome, m_this_rowMany, m_this_bestPlan, m_this_laid, m_this_pile, m_this_plan, m_this_rows, m_this_s, m_this_saved)) : mFi l G yX9_prove cX9_prove 3 .int 44 [.ref h_this, .int p0] [(h_this, ob 9 [.ref h_this_s, .ref h_this_kept, .ref h_this_laid, .int x_this_isKept, .ref h_this_pile, .ref h_this_tape, .int x_this_taped, .ref h_this_letters, .int x_this_at, .int x_this_begun, .int x_this_token, .int x_this_value, .int x_this_opened, .int x_this_steps, .ref h_this_code0, .ref h_this_read, .ref h_this_saved, .ref h_this_plan, .ref h_this_bestPlan, .int x_this_most, .int x_this_many, .int x_this_few, .int x_this_everHome, .ref h_this_offThen, .ref h_this_paidThen, .int x_this_firstFit, .ref h_this_rows, .int x_this_rowMany, .ref h_this_sorts, .ref h_this_sizes, .ref h_this_number, .ref h_this_holds, .ref h_this_heldOne, .ref h_this_trace, .int x_this_traced, .int x_this_own, .int x_this_isParted]), (h_this_bestPlan, ia G 4 f_this_bestPlan), (h_this_laid, ia G 65 f_this_laid), (h_this_pile, ia G 200 f_this_pile), (h_this_plan, ia G 4 f_this_plan), (h_this_rows, ia G 12 f_this_rows), (h_this_s, ia G 313 f_this_s), (h_this_saved, ia G 325 f_this_saved)] r [(h_this, ob 9 [.ref h_this_s, .ref h_this_kept, .ref h_this_laid, .int x_this_isKept, .ref h_this_pile, .ref h_this_tape, .int x_this_taped, .ref h_this_letters, .int x_this_at, .int x_this_begun, .int x_this_token, .int x_this_value, .int x_this_opened, .int x_this_steps, .ref h_this_code0, .ref h_this_read, .ref h_this_saved, .ref h_this_plan, .ref h_this_bestPlan, .int m_this_most, .int m_this_many, .int m_this_few, .int m_this_everHome, .ref h_this_offThen, .ref h_this_paidThen, .int x_this_firstFit, .ref h_this_rows, .int m_this_rowMany, .ref h_this_sorts, .ref h_this_sizes, .ref h_this_number, .ref h_this_holds, .ref h_this_heldOne, .ref h_this_trace, .int x_this_traced, .int x_this_own, .int x_this_isParted]), (h_this_bestPlan, ia G 4 m_this_bestPlan), (h_this_laid, ia G 65 m_this_laid), (h_this_pile, ia G 200 m_this_pile), (h_this_plan, ia G 4 m_this_plan), (h_this_rows, ia G 12 m_this_rows), (h_this_s, ia G 313 m_this_s), (h_this_saved, ia G 325 m_this_saved)] := by
  refine mFi.of (by decide +kernel) (Nat.le_of_ble_eq_true rfl) ?_
  intro p e s m below meth c A C hr hlk h ls hl
  obtain ⟨hx, hb, hml, hown, hts⟩ := id C
  replace hl : lv_has ls 3 [(0, .ref h_this), (1, .int p0)] := hl
  unfold f_X9_prove at hf
  refine with_K G A 3 (fun K hK1 hK2 => ?_)
  have L30 : ∀ (n : Nat) (v2 : Int32) (y_this_most : Int32) (y_this_many : Int32) (y_this_few : Int32) (y_this_everHome : Int32) (y_this_rowMany : Int32) (g_this_bestPlan : Nat → Int32) (g_this_laid : Nat → Int32) (g_this_pile : Nat → Int32) (g_this_plan : Nat → Int32) (g_this_rows : Nat → Int32) (g_this_s : Nat → Int32) (g_this_saved : Nat → Int32), f_X9_prove_L30 n v2 y_this_most y_this_many y_this_few y_this_everHome y_this_rowMany g_this_bestPlan g_this_laid g_this_pile g_this_plan g_this_rows g_this_s g_this_saved = some (r, m_this_most, m_this_many, m_this_few, m_this_everHome, m_this_rowMany, m_this_bestPlan, m_this_laid, m_this_pile, m_this_plan, m_this_rows, m_this_s, m_this_saved) → K 30 ([] : List Value) [(h_this, ob 9 [.ref h_this_s, .ref h_this_kept, .ref h_this_laid, .int x_this_isKept, .ref h_this_pile, .ref h_this_tape, .int x_this_taped, .ref h_this_letters, .int x_this_at, .int x_this_begun, .int x_this_token, .int x_this_value, .int x_this_opened, .int x_this_steps, .ref h_this_code0, .ref h_this_read, .ref h_this_saved, .ref h_this_plan, .ref h_this_bestPlan, .int y_this_most, .int y_this_many, .int y_this_few, .int y_this_everHome, .ref h_this_offThen, .ref h_this_paidThen, .int x_this_firstFit, .ref h_this_rows, .int y_this_rowMany, .ref h_this_sorts, .ref h_this_sizes, .ref h_this_number, .ref h_this_holds, .ref h_this_heldOne, .ref h_this_trace, .int x_this_traced, .int x_this_own, .int x_this_isParted]), (h_this_bestPlan, ia G 4 g_this_bestPlan), (h_this_laid, ia G 65 g_this_laid), (h_this_pile, ia G 200 g_this_pile), (h_this_plan, ia G 4 g_this_plan), (h_this_rows, ia G 12 g_this_rows), (h_this_s, ia G 313 g_this_s), (h_this_saved, ia G 325 g_this_saved)] [(0, .ref h_this), (2, .int v2)] := by
    intro n
    induction n with
    | zero =>
      intro v2 y_this_most y_this_many y_this_few y_this_everHome y_this_rowMany g_this_bestPlan g_this_laid g_this_pile g_this_plan g_this_rows g_this_s g_this_saved hf
      replace hf : (none : Option _) = some _ := hf
      cases hf
    | succ n ih =>
      intro v2 y_this_most y_this_many y_this_few y_this_everHome y_this_rowMany g_this_bestPlan g_this_laid g_this_pile g_this_plan g_this_rows g_this_s g_this_saved hf
      rw [f_X9_prove_L30] at hf
      refine hK1 _ _ _ _ (fun H locs ls h hl => ?_)
      refine lv_iload_n hx hb dX9_prove_30 rfl (lv_at hl 1 rfl) ?_
      refine lv_aload_n hx hb dX9_prove_31 rfl (lv_at hl 0 rfl) ?_
      refine r_get C h fk_X9_320 0 rfl rfl dX9_prove_32 ?_
      refine lv_icmp_ge (tgt := 93) hx hb dX9_prove_35 rfl (fun c18 => ?_) (fun c18 => ?_)
      · replace hf := ifp c18 hf
        refine lv_aload_n hx hb dX9_prove_93 rfl (lv_at hl 0 rfl) ?_
        replace hf := bd1_inv hf
        obtain ⟨g19, hc20, hf⟩ := hf
        refine r_cvV (ws' := [(h_this, ob 9 [.ref h_this_s, .ref h_this_kept, .ref h_this_laid, .int x_this_isKept, .ref h_this_pile, .ref h_this_tape, .int x_this_taped, .ref h_this_letters, .int x_this_at, .int x_this_begun, .int x_this_token, .int x_this_value, .int x_this_opened, .int x_this_steps, .ref h_this_code0, .ref h_this_read, .ref h_this_saved, .ref h_this_plan, .ref h_this_bestPlan, .int y_this_most, .int y_this_many, .int y_this_few, .int y_this_everHome, .ref h_this_offThen, .ref h_this_paidThen, .int x_this_firstFit, .ref h_this_rows, .int y_this_rowMany, .ref h_this_sorts, .ref h_this_sizes, .ref h_this_number, .ref h_this_holds, .ref h_this_heldOne, .ref h_this_trace, .int x_this_traced, .int x_this_own, .int x_this_isParted]), (h_this_bestPlan, ia G 4 g_this_bestPlan), (h_this_laid, ia G 65 g_this_laid), (h_this_pile, ia G 200 g_this_pile), (h_this_plan, ia G 4 g_this_plan), (h_this_rows, ia G 12 g_this_rows), (h_this_s, ia G 313 g19), (h_this_saved, ia G 325 g_this_saved)]) C h (c_X9_layBack hc20) mv_X9_247 rfl 0 rfl [0, 2, 6] rfl rfl rfl rfl rfl hl.1 rfl (Nat.le_of_ble_eq_true rfl) (rok (by decide)) dX9_prove_94 (fun H locs h => ?_)
        refine lv_aload_n hx hb dX9_prove_97 rfl (lv_at hl 0 rfl) ?_
        refine r_get C h fk_X9_320 0 rfl rfl dX9_prove_98 ?_
        cases hf
        exact r_iret C h hr hlk rfl dX9_prove_101
      · replace hf := ifn c18 hf
        refine lv_aload_n hx hb dX9_prove_38 rfl (lv_at hl 0 rfl) ?_
        refine r_get C h fk_X9_50 0 rfl rfl dX9_prove_39 ?_
        refine lv_iconst (v := (3 : Int32)) hx hb dX9_prove_42 rfl ?_
        refine lv_iload_n hx hb dX9_prove_43 rfl (lv_at hl 1 rfl) ?_
        refine lv_imul hx hb dX9_prove_44 ?_
        refine lv_aload_n hx hb dX9_prove_45 rfl (lv_at hl 0 rfl) ?_
        refine r_get C h fk_X9_41 0 rfl rfl dX9_prove_46 ?_
        refine lv_iload_n hx hb dX9_prove_49 rfl (lv_at hl 1 rfl) ?_
        replace hf := chkI_inv hf
        obtain ⟨hi21, hf⟩ := hf
        refine r_iald C h 1 rfl hi21 dX9_prove_50 ?_
        refine lv_topi (fun t22 et22 => ?_)
        replace hf := lt1_inv et22 hf
        replace hf := chkI_inv hf
        obtain ⟨hi23, hf⟩ := hf
        refine r_iast (ws' := [(h_this, ob 9 [.ref h_this_s, .ref h_this_kept, .ref h_this_laid, .int x_this_isKept, .ref h_this_pile, .ref h_this_tape, .int x_this_taped, .ref h_this_letters, .int x_this_at, .int x_this_begun, .int x_this_token, .int x_this_value, .int x_this_opened, .int x_this_steps, .ref h_this_code0, .ref h_this_read, .ref h_this_saved, .ref h_this_plan, .ref h_this_bestPlan, .int y_this_most, .int y_this_many, .int y_this_few, .int y_this_everHome, .ref h_this_offThen, .ref h_this_paidThen, .int x_this_firstFit, .ref h_this_rows, .int y_this_rowMany, .ref h_this_sorts, .ref h_this_sizes, .ref h_this_number, .ref h_this_holds, .ref h_this_heldOne, .ref h_this_trace, .int x_this_traced, .int x_this_own, .int x_this_isParted]), (h_this_bestPlan, ia G 4 g_this_bestPlan), (h_this_laid, ia G 65 g_this_laid), (h_this_pile, ia G 200 g_this_pile), (h_this_plan, ia G 4 g_this_plan), (h_this_rows, ia G 12 (upd g_this_rows ((3 : Int32) * v2).toNatClampNeg t22)), (h_this_s, ia G 313 g_this_s), (h_this_saved, ia G 325 g_this_saved)]) C h 5 rfl hi23 dX9_prove_51 rfl (fun H locs h => ?_)
        refine lv_aload_n hx hb dX9_prove_52 rfl (lv_at hl 0 rfl) ?_
        refine r_get C h fk_X9_50 0 rfl rfl dX9_prove_53 ?_
        refine lv_iconst (v := (3 : Int32)) hx hb dX9_prove_56 rfl ?_
        refine lv_iload_n hx hb dX9_prove_57 rfl (lv_at hl 1 rfl) ?_
        refine lv_imul hx hb dX9_prove_58 ?_
        refine lv_iconst (v := (1 : Int32)) hx hb dX9_prove_59 rfl ?_
        refine lv_iadd hx hb dX9_prove_60 ?_
        refine lv_aload_n hx hb dX9_prove_61 rfl (lv_at hl 0 rfl) ?_
        refine lv_aload_n hx hb dX9_prove_62 rfl (lv_at hl 0 rfl) ?_
        refine r_get C h fk_X9_41 0 rfl rfl dX9_prove_63 ?_
        refine lv_iload_n hx hb dX9_prove_66 rfl (lv_at hl 1 rfl) ?_
        replace hf := chkI_inv hf
        obtain ⟨hi24, hf⟩ := hf
        refine r_iald C h 1 rfl hi24 dX9_prove_67 ?_
        replace hf := bd3_inv hf
        obtain ⟨r25, g26, g27, hc28, hf⟩ := hf
        refine r_ciV (ws' := [(h_this, ob 9 [.ref h_this_s, .ref h_this_kept, .ref h_this_laid, .int x_this_isKept, .ref h_this_pile, .ref h_this_tape, .int x_this_taped, .ref h_this_letters, .int x_this_at, .int x_this_begun, .int x_this_token, .int x_this_value, .int x_this_opened, .int x_this_steps, .ref h_this_code0, .ref h_this_read, .ref h_this_saved, .ref h_this_plan, .ref h_this_bestPlan, .int y_this_most, .int y_this_many, .int y_this_few, .int y_this_everHome, .ref h_this_offThen, .ref h_this_paidThen, .int x_this_firstFit, .ref h_this_rows, .int y_this_rowMany, .ref h_this_sorts, .ref h_this_sizes, .ref h_this_number, .ref h_this_holds, .ref h_this_heldOne, .ref h_this_trace, .int x_this_traced, .int x_this_own, .int x_this_isParted]), (h_this_bestPlan, ia G 4 g_this_bestPlan), (h_this_laid, ia G 65 g_this_laid), (h_this_pile, ia G 200 g26), (h_this_plan, ia G 4 g_this_plan), (h_this_rows, ia G 12 (upd g_this_rows ((3 : Int32) * v2).toNatClampNeg t22)), (h_this_s, ia G 313 g27), (h_this_saved, ia G 325 g_this_saved)]) C h (c_X9_goesBy hc28) mv_X9_238 rfl 0 rfl [0, 3, 6] rfl rfl rfl rfl rfl hl.1 rfl (Nat.le_of_ble_eq_true rfl) (rok (by decide)) dX9_prove_68 (fun H locs h => ?_)
        replace hf := chkI_inv hf
        obtain ⟨hi29, hf⟩ := hf
        refine r_iast (ws' := [(h_this, ob 9 [.ref h_this_s, .ref h_this_kept, .ref h_this_laid, .int x_this_isKept, .ref h_this_pile, .ref h_this_tape, .int x_this_taped, .ref h_this_letters, .int x_this_at, .int x_this_begun, .int x_this_token, .int x_this_value, .int x_this_opened, .int x_this_steps, .ref h_this_code0, .ref h_this_read, .ref h_this_saved, .ref h_this_plan, .ref h_this_bestPlan, .int y_this_most, .int y_this_many, .int y_this_few, .int y_this_everHome, .ref h_this_offThen, .ref h_this_paidThen, .int x_this_firstFit, .ref h_this_rows, .int y_this_rowMany, .ref h_this_sorts, .ref h_this_sizes, .ref h_this_number, .ref h_this_holds, .ref h_this_heldOne, .ref h_this_trace, .int x_this_traced, .int x_this_own, .int x_this_isParted]), (h_this_bestPlan, ia G 4 g_this_bestPlan), (h_this_laid, ia G 65 g_this_laid), (h_this_pile, ia G 200 g26), (h_this_plan, ia G 4 g_this_plan), (h_this_rows, ia G 12 (upd (upd g_this_rows ((3 : Int32) * v2).toNatClampNeg t22) (((3 : Int32) * v2) + (1 : Int32)).toNatClampNeg r25)), (h_this_s, ia G 313 g27), (h_this_saved, ia G 325 g_this_saved)]) C h 5 rfl hi29 dX9_prove_71 rfl (fun H locs h => ?_)
        refine lv_aload_n hx hb dX9_prove_72 rfl (lv_at hl 0 rfl) ?_
        refine r_get C h fk_X9_50 0 rfl rfl dX9_prove_73 ?_
        refine lv_iconst (v := (3 : Int32)) hx hb dX9_prove_76 rfl ?_
        refine lv_iload_n hx hb dX9_prove_77 rfl (lv_at hl 1 rfl) ?_
        refine lv_imul hx hb dX9_prove_78 ?_
        refine lv_iconst (v := (2 : Int32)) hx hb dX9_prove_79 rfl ?_
        refine lv_iadd hx hb dX9_prove_80 ?_
        refine lv_aload_n hx hb dX9_prove_81 rfl (lv_at hl 0 rfl) ?_
        refine lv_iconst (v := (4 : Int32)) hx hb dX9_prove_82 rfl ?_
        replace hf := bd1_inv hf
        obtain ⟨r30, hc31, hf⟩ := hf
        refine r_ciV0 C h (c_X9_those hc31) mv_X9_235 rfl 0 rfl [0, 6] rfl rfl hl.1 rfl (Nat.le_of_ble_eq_true rfl) (rok (by decide)) dX9_prove_83 (fun H locs h => ?_)
        replace hf := chkI_inv hf
        obtain ⟨hi32, hf⟩ := hf
        refine r_iast (ws' := [(h_this, ob 9 [.ref h_this_s, .ref h_this_kept, .ref h_this_laid, .int x_this_isKept, .ref h_this_pile, .ref h_this_tape, .int x_this_taped, .ref h_this_letters, .int x_this_at, .int x_this_begun, .int x_this_token, .int x_this_value, .int x_this_opened, .int x_this_steps, .ref h_this_code0, .ref h_this_read, .ref h_this_saved, .ref h_this_plan, .ref h_this_bestPlan, .int y_this_most, .int y_this_many, .int y_this_few, .int y_this_everHome, .ref h_this_offThen, .ref h_this_paidThen, .int x_this_firstFit, .ref h_this_rows, .int y_this_rowMany, .ref h_this_sorts, .ref h_this_sizes, .ref h_this_number, .ref h_this_holds, .ref h_this_heldOne, .ref h_this_trace, .int x_this_traced, .int x_this_own, .int x_this_isParted]), (h_this_bestPlan, ia G 4 g_this_bestPlan), (h_this_laid, ia G 65 g_this_laid), (h_this_pile, ia G 200 g26), (h_this_plan, ia G 4 g_this_plan), (h_this_rows, ia G 12 (upd (upd (upd g_this_rows ((3 : Int32) * v2).toNatClampNeg t22) (((3 : Int32) * v2) + (1 : Int32)).toNatClampNeg r25) (((3 : Int32) * v2) + (2 : Int32)).toNatClampNeg r30)), (h_this_s, ia G 313 g27), (h_this_saved, ia G 325 g_this_saved)]) C h 5 rfl hi32 dX9_prove_86 rfl (fun H locs h => ?_)
        obtain ⟨t33, et33⟩ : ∃ y : Int32, y = v2 + (1 : Int32) := ⟨_, rfl⟩
        replace hf := lt1_inv et33 hf
        refine lv_iinc (v := t33) (lv' := [(2, .int t33), (0, .ref h_this)]) hx hb dX9_prove_87 hl (k := 1) rfl (by rw [et33]; rfl) (by decide) rfl (fun ls hl => ?_)
        refine lv_goto (tgt := 30) hx hb dX9_prove_90 rfl ?_
        exact hK2 _ _ _ _ (ih t33 y_this_most y_this_many y_this_few y_this_everHome y_this_rowMany g_this_bestPlan g_this_laid g26 g_this_plan (upd (upd (upd g_this_rows ((3 : Int32) * v2).toNatClampNeg t22) (((3 : Int32) * v2) + (1 : Int32)).toNatClampNeg r25) (((3 : Int32) * v2) + (2 : Int32)).toNatClampNeg r30) g27 g_this_saved hf) _ _ _ h (lv_sub hl [1, 0] rfl)
  refine lv_iload_n hx hb dX9_prove_0 rfl (lv_at hl 1 rfl) ?_
  replace hf := bd1_inv hf
  obtain ⟨r1, hc2, hf⟩ := hf
  refine r_ciS0 C h (c_X9_isPlan hc2) ms_X9_291 rfl [] rfl rfl hl.1 rfl (Nat.le_of_ble_eq_true rfl) (rok (by decide)) dX9_prove_1 (fun H locs h => ?_)
  refine lv_if_ne (tgt := 9) hx hb dX9_prove_4 rfl (fun c3 => ?_) (fun c3 => ?_)
  · replace hf := ifn c3 hf
    refine lv_aload_n hx hb dX9_prove_9 rfl (lv_at hl 0 rfl) ?_
    refine lv_iload_n hx hb dX9_prove_10 rfl (lv_at hl 1 rfl) ?_
    refine lv_iconst (v := (0 : Int32)) hx hb dX9_prove_11 rfl ?_
    replace hf := bd9_inv hf
    obtain ⟨y4, y5, y6, y7, g8, g9, g10, g11, g12, hc13, hf⟩ := hf
    refine r_cvV (ws' := [(h_this, ob 9 [.ref h_this_s, .ref h_this_kept, .ref h_this_laid, .int x_this_isKept, .ref h_this_pile, .ref h_this_tape, .int x_this_taped, .ref h_this_letters, .int x_this_at, .int x_this_begun, .int x_this_token, .int x_this_value, .int x_this_opened, .int x_this_steps, .ref h_this_code0, .ref h_this_read, .ref h_this_saved, .ref h_this_plan, .ref h_this_bestPlan, .int y4, .int y5, .int y6, .int y7, .ref h_this_offThen, .ref h_this_paidThen, .int x_this_firstFit, .ref h_this_rows, .int x_this_rowMany, .ref h_this_sorts, .ref h_this_sizes, .ref h_this_number, .ref h_this_holds, .ref h_this_heldOne, .ref h_this_trace, .int x_this_traced, .int x_this_own, .int x_this_isParted]), (h_this_bestPlan, ia G 4 g8), (h_this_laid, ia G 65 f_this_laid), (h_this_pile, ia G 200 g9), (h_this_plan, ia G 4 g10), (h_this_rows, ia G 12 f_this_rows), (h_this_s, ia G 313 g11), (h_this_saved, ia G 325 g12)]) C h (c_X9_triesAll hc13) mv_X9_294 rfl 0 rfl [0, 1, 3, 4, 6, 7] rfl rfl rfl rfl rfl hl.1 rfl (Nat.le_of_ble_eq_true rfl) (rok (by decide)) dX9_prove_12 (fun H locs h => ?_)
    refine lv_aload_n hx hb dX9_prove_15 rfl (lv_at hl 0 rfl) ?_
    refine lv_aload_n hx hb dX9_prove_16 rfl (lv_at hl 0 rfl) ?_
    refine lv_iload_n hx hb dX9_prove_17 rfl (lv_at hl 1 rfl) ?_
    replace hf := bd1_inv hf
    obtain ⟨r14, hc15, hf⟩ := hf
    refine r_ciV0 C h (c_X9_daysOf hc15) mv_X9_288 rfl 0 rfl [0, 6] rfl rfl hl.1 rfl (Nat.le_of_ble_eq_true rfl) (rok (by decide)) dX9_prove_18 (fun H locs h => ?_)
    refine r_put (ws' := [(h_this, ob 9 [.ref h_this_s, .ref h_this_kept, .ref h_this_laid, .int x_this_isKept, .ref h_this_pile, .ref h_this_tape, .int x_this_taped, .ref h_this_letters, .int x_this_at, .int x_this_begun, .int x_this_token, .int x_this_value, .int x_this_opened, .int x_this_steps, .ref h_this_code0, .ref h_this_read, .ref h_this_saved, .ref h_this_plan, .ref h_this_bestPlan, .int y4, .int y5, .int y6, .int y7, .ref h_this_offThen, .ref h_this_paidThen, .int x_this_firstFit, .ref h_this_rows, .int r14, .ref h_this_sorts, .ref h_this_sizes, .ref h_this_number, .ref h_this_holds, .ref h_this_heldOne, .ref h_this_trace, .int x_this_traced, .int x_this_own, .int x_this_isParted]), (h_this_bestPlan, ia G 4 g8), (h_this_laid, ia G 65 f_this_laid), (h_this_pile, ia G 200 g9), (h_this_plan, ia G 4 g10), (h_this_rows, ia G 12 f_this_rows), (h_this_s, ia G 313 g11), (h_this_saved, ia G 325 g12)]) C h fw_X9_320 0 rfl rfl rfl (Nat.le_of_ble_eq_true rfl) dX9_prove_21 rfl (fun H locs h => ?_)
    refine lv_aload_n hx hb dX9_prove_24 rfl (lv_at hl 0 rfl) ?_
    replace hf := bd1_inv hf
    obtain ⟨g16, hc17, hf⟩ := hf
    refine r_cvV (ws' := [(h_this, ob 9 [.ref h_this_s, .ref h_this_kept, .ref h_this_laid, .int x_this_isKept, .ref h_this_pile, .ref h_this_tape, .int x_this_taped, .ref h_this_letters, .int x_this_at, .int x_this_begun, .int x_this_token, .int x_this_value, .int x_this_opened, .int x_this_steps, .ref h_this_code0, .ref h_this_read, .ref h_this_saved, .ref h_this_plan, .ref h_this_bestPlan, .int y4, .int y5, .int y6, .int y7, .ref h_this_offThen, .ref h_this_paidThen, .int x_this_firstFit, .ref h_this_rows, .int r14, .ref h_this_sorts, .ref h_this_sizes, .ref h_this_number, .ref h_this_holds, .ref h_this_heldOne, .ref h_this_trace, .int x_this_traced, .int x_this_own, .int x_this_isParted]), (h_this_bestPlan, ia G 4 g8), (h_this_laid, ia G 65 g16), (h_this_pile, ia G 200 g9), (h_this_plan, ia G 4 g10), (h_this_rows, ia G 12 f_this_rows), (h_this_s, ia G 313 g11), (h_this_saved, ia G 325 g12)]) C h (c_X9_layDown hc17) mv_X9_241 rfl 0 rfl [0, 2, 6] rfl rfl rfl rfl rfl hl.1 rfl (Nat.le_of_ble_eq_true rfl) (rok (by decide)) dX9_prove_25 (fun H locs h => ?_)
    refine lv_iconst (v := (0 : Int32)) hx hb dX9_prove_28 rfl ?_
    refine lv_istore_n (lv' := [(2, .int (0 : Int32)), (0, .ref h_this), (1, .int p0)]) hx hb dX9_prove_29 rfl hl (by decide) rfl (fun ls hl => ?_)
    exact hK2 _ _ _ _ (L30 1000 (0 : Int32) y4 y5 y6 y7 r14 g8 g16 g9 g10 f_this_rows g11 g12 hf) _ _ _ h (lv_sub hl [1, 0] rfl)
  · replace hf := ifp c3 hf
    refine lv_iconst (v := (-1 : Int32)) hx hb dX9_prove_7 rfl ?_
    cases hf
    exact r_iret C h hr hlk rfl dX9_prove_8
def f_X9_isRow (p0 : Int32) (p1 : Int32) (x_this_rowMany : Int32) : Option (Int32) := bd1 (f_X9_in1 p0 (0 : Int32) (x_this_rowMany - (1 : Int32))) (fun r1 => (if r1 = 0 then some (0 : Int32) else bd1 (f_X9_in1 p1 (0 : Int32) (2 : Int32)) (fun r4 => (if r4 = 0 then some (0 : Int32) else some (1 : Int32)))))
set_option maxRecDepth 100000 in
set_option maxHeartbeats 4000000 in
theorem c_X9_isRow {l : Launch} {G : Gt} {h_this h_this_s h_this_kept h_this_laid h_this_pile h_this_tape h_this_letters h_this_code0 h_this_read h_this_saved h_this_plan h_this_bestPlan h_this_offThen h_this_paidThen h_this_rows h_this_sorts h_this_sizes h_this_number h_this_holds h_this_heldOne h_this_trace : Nat} {p0 : Int32} {p1 : Int32} {x_this_isKept : Int32} {x_this_taped : Int32} {x_this_at : Int32} {x_this_begun : Int32} {x_this_token : Int32} {x_this_value : Int32} {x_this_opened : Int32} {x_this_steps : Int32} {x_this_most : Int32} {x_this_many : Int32} {x_this_few : Int32} {x_this_everHome : Int32} {x_this_firstFit : Int32} {x_this_rowMany : Int32} {x_this_traced : Int32} {x_this_own : Int32} {x_this_isParted : Int32} {r : Int32} (hf : f_X9_isRow p0 p1 x_this_rowMany = some r) : mFi l G yX9_isRow cX9_isRow 3 .boolean 1 [.ref h_this, .int p0, .int p1] [(h_this, ob 9 [.ref h_this_s, .ref h_this_kept, .ref h_this_laid, .int x_this_isKept, .ref h_this_pile, .ref h_this_tape, .int x_this_taped, .ref h_this_letters, .int x_this_at, .int x_this_begun, .int x_this_token, .int x_this_value, .int x_this_opened, .int x_this_steps, .ref h_this_code0, .ref h_this_read, .ref h_this_saved, .ref h_this_plan, .ref h_this_bestPlan, .int x_this_most, .int x_this_many, .int x_this_few, .int x_this_everHome, .ref h_this_offThen, .ref h_this_paidThen, .int x_this_firstFit, .ref h_this_rows, .int x_this_rowMany, .ref h_this_sorts, .ref h_this_sizes, .ref h_this_number, .ref h_this_holds, .ref h_this_heldOne, .ref h_this_trace, .int x_this_traced, .int x_this_own, .int x_this_isParted])] r [(h_this, ob 9 [.ref h_this_s, .ref h_this_kept, .ref h_this_laid, .int x_this_isKept, .ref h_this_pile, .ref h_this_tape, .int x_this_taped, .ref h_this_letters, .int x_this_at, .int x_this_begun, .int x_this_token, .int x_this_value, .int x_this_opened, .int x_this_steps, .ref h_this_code0, .ref h_this_read, .ref h_this_saved, .ref h_this_plan, .ref h_this_bestPlan, .int x_this_most, .int x_this_many, .int x_this_few, .int x_this_everHome, .ref h_this_offThen, .ref h_this_paidThen, .int x_this_firstFit, .ref h_this_rows, .int x_this_rowMany, .ref h_this_sorts, .ref h_this_sizes, .ref h_this_number, .ref h_this_holds, .ref h_this_heldOne, .ref h_this_trace, .int x_this_traced, .int x_this_own, .int x_this_isParted])] := by
  refine mFi.of (by decide +kernel) (Nat.le_of_ble_eq_true rfl) ?_
  intro p e s m below meth c A C hr hlk h ls hl
  obtain ⟨hx, hb, hml, hown, hts⟩ := id C
  replace hl : lv_has ls 3 [(0, .ref h_this), (1, .int p0), (2, .int p1)] := hl
  unfold f_X9_isRow at hf
  refine lv_iload_n hx hb dX9_isRow_0 rfl (lv_at hl 1 rfl) ?_
  refine lv_iconst (v := (0 : Int32)) hx hb dX9_isRow_1 rfl ?_
  refine lv_aload_n hx hb dX9_isRow_2 rfl (lv_at hl 0 rfl) ?_
  refine r_get C h fk_X9_320 0 rfl rfl dX9_isRow_3 ?_
  refine lv_iconst (v := (1 : Int32)) hx hb dX9_isRow_6 rfl ?_
  refine lv_isub hx hb dX9_isRow_7 ?_
  replace hf := bd1_inv hf
  obtain ⟨r1, hc2, hf⟩ := hf
  refine r_ciS0 C h (c_X9_in1 hc2) ms_X9_71 rfl [] rfl rfl hl.1 rfl (Nat.le_of_ble_eq_true rfl) (rok (by decide)) dX9_isRow_8 (fun H locs h => ?_)
  refine lv_if_eq (tgt := 27) hx hb dX9_isRow_11 rfl (fun c3 => ?_) (fun c3 => ?_)
  · replace hf := ifp c3 hf
    refine lv_iconst (v := (0 : Int32)) hx hb dX9_isRow_27 rfl ?_
    cases hf
    exact r_iret C h hr hlk rfl dX9_isRow_28
  · replace hf := ifn c3 hf
    refine lv_iload_n hx hb dX9_isRow_14 rfl (lv_at hl 2 rfl) ?_
    refine lv_iconst (v := (0 : Int32)) hx hb dX9_isRow_15 rfl ?_
    refine lv_iconst (v := (2 : Int32)) hx hb dX9_isRow_16 rfl ?_
    replace hf := bd1_inv hf
    obtain ⟨r4, hc5, hf⟩ := hf
    refine r_ciS0 C h (c_X9_in1 hc5) ms_X9_71 rfl [] rfl rfl hl.1 rfl (Nat.le_of_ble_eq_true rfl) (rok (by decide)) dX9_isRow_17 (fun H locs h => ?_)
    refine lv_if_eq (tgt := 27) hx hb dX9_isRow_20 rfl (fun c6 => ?_) (fun c6 => ?_)
    · replace hf := ifp c6 hf
      refine lv_iconst (v := (0 : Int32)) hx hb dX9_isRow_27 rfl ?_
      cases hf
      exact r_iret C h hr hlk rfl dX9_isRow_28
    · replace hf := ifn c6 hf
      refine lv_iconst (v := (1 : Int32)) hx hb dX9_isRow_23 rfl ?_
      refine lv_goto (tgt := 28) hx hb dX9_isRow_24 rfl ?_
      cases hf
      exact r_iret C h hr hlk rfl dX9_isRow_28
def f_X9_row (p0 : Int32) (p1 : Int32) (x_this_rowMany : Int32) (f_this_rows : Nat → Int32) : Option (Int32) := bd1 (f_X9_isRow p0 p1 x_this_rowMany) (fun r1 => (if r1 = 0 then some (-9 : Int32) else chkI (((3 : Int32) * p0) + p1) 12 (some (f_this_rows (((3 : Int32) * p0) + p1).toNatClampNeg))))
set_option maxRecDepth 100000 in
set_option maxHeartbeats 4000000 in
theorem c_X9_row {l : Launch} {G : Gt} {h_this h_this_s h_this_kept h_this_laid h_this_pile h_this_tape h_this_letters h_this_code0 h_this_read h_this_saved h_this_plan h_this_bestPlan h_this_offThen h_this_paidThen h_this_rows h_this_sorts h_this_sizes h_this_number h_this_holds h_this_heldOne h_this_trace : Nat} {p0 : Int32} {p1 : Int32} {x_this_isKept : Int32} {x_this_taped : Int32} {x_this_at : Int32} {x_this_begun : Int32} {x_this_token : Int32} {x_this_value : Int32} {x_this_opened : Int32} {x_this_steps : Int32} {x_this_most : Int32} {x_this_many : Int32} {x_this_few : Int32} {x_this_everHome : Int32} {x_this_firstFit : Int32} {x_this_rowMany : Int32} {x_this_traced : Int32} {x_this_own : Int32} {x_this_isParted : Int32} {f_this_rows : Nat → Int32} {r : Int32} (hf : f_X9_row p0 p1 x_this_rowMany f_this_rows = some r) : mFi l G yX9_row cX9_row 3 .int 2 [.ref h_this, .int p0, .int p1] [(h_this, ob 9 [.ref h_this_s, .ref h_this_kept, .ref h_this_laid, .int x_this_isKept, .ref h_this_pile, .ref h_this_tape, .int x_this_taped, .ref h_this_letters, .int x_this_at, .int x_this_begun, .int x_this_token, .int x_this_value, .int x_this_opened, .int x_this_steps, .ref h_this_code0, .ref h_this_read, .ref h_this_saved, .ref h_this_plan, .ref h_this_bestPlan, .int x_this_most, .int x_this_many, .int x_this_few, .int x_this_everHome, .ref h_this_offThen, .ref h_this_paidThen, .int x_this_firstFit, .ref h_this_rows, .int x_this_rowMany, .ref h_this_sorts, .ref h_this_sizes, .ref h_this_number, .ref h_this_holds, .ref h_this_heldOne, .ref h_this_trace, .int x_this_traced, .int x_this_own, .int x_this_isParted]), (h_this_rows, ia G 12 f_this_rows)] r [(h_this, ob 9 [.ref h_this_s, .ref h_this_kept, .ref h_this_laid, .int x_this_isKept, .ref h_this_pile, .ref h_this_tape, .int x_this_taped, .ref h_this_letters, .int x_this_at, .int x_this_begun, .int x_this_token, .int x_this_value, .int x_this_opened, .int x_this_steps, .ref h_this_code0, .ref h_this_read, .ref h_this_saved, .ref h_this_plan, .ref h_this_bestPlan, .int x_this_most, .int x_this_many, .int x_this_few, .int x_this_everHome, .ref h_this_offThen, .ref h_this_paidThen, .int x_this_firstFit, .ref h_this_rows, .int x_this_rowMany, .ref h_this_sorts, .ref h_this_sizes, .ref h_this_number, .ref h_this_holds, .ref h_this_heldOne, .ref h_this_trace, .int x_this_traced, .int x_this_own, .int x_this_isParted]), (h_this_rows, ia G 12 f_this_rows)] := by
  refine mFi.of (by decide +kernel) (Nat.le_of_ble_eq_true rfl) ?_
  intro p e s m below meth c A C hr hlk h ls hl
  obtain ⟨hx, hb, hml, hown, hts⟩ := id C
  replace hl : lv_has ls 3 [(0, .ref h_this), (1, .int p0), (2, .int p1)] := hl
  unfold f_X9_row at hf
  refine lv_aload_n hx hb dX9_row_0 rfl (lv_at hl 0 rfl) ?_
  refine lv_iload_n hx hb dX9_row_1 rfl (lv_at hl 1 rfl) ?_
  refine lv_iload_n hx hb dX9_row_2 rfl (lv_at hl 2 rfl) ?_
  replace hf := bd1_inv hf
  obtain ⟨r1, hc2, hf⟩ := hf
  refine r_ciV0 C h (c_X9_isRow hc2) mv_X9_323 rfl 0 rfl [0] rfl rfl hl.1 rfl (Nat.le_of_ble_eq_true rfl) (rok (by decide)) dX9_row_3 (fun H locs h => ?_)
  refine lv_if_eq (tgt := 22) hx hb dX9_row_6 rfl (fun c3 => ?_) (fun c3 => ?_)
  · replace hf := ifp c3 hf
    refine lv_bipush (v := (-9 : Int32)) hx hb dX9_row_22 rfl ?_
    cases hf
    exact r_iret C h hr hlk rfl dX9_row_24
  · replace hf := ifn c3 hf
    refine lv_aload_n hx hb dX9_row_9 rfl (lv_at hl 0 rfl) ?_
    refine r_get C h fk_X9_50 0 rfl rfl dX9_row_10 ?_
    refine lv_iconst (v := (3 : Int32)) hx hb dX9_row_13 rfl ?_
    refine lv_iload_n hx hb dX9_row_14 rfl (lv_at hl 1 rfl) ?_
    refine lv_imul hx hb dX9_row_15 ?_
    refine lv_iload_n hx hb dX9_row_16 rfl (lv_at hl 2 rfl) ?_
    refine lv_iadd hx hb dX9_row_17 ?_
    replace hf := chkI_inv hf
    obtain ⟨hi4, hf⟩ := hf
    refine r_iald C h 1 rfl hi4 dX9_row_18 ?_
    refine lv_goto (tgt := 24) hx hb dX9_row_19 rfl ?_
    cases hf
    exact r_iret C h hr hlk rfl dX9_row_24
