set_option maxRecDepth 100000 in
set_option maxHeartbeats 4000000 in
theorem c_X9_least {l : Launch} {G : Gt} {h_this h_this_s h_this_kept h_this_laid h_this_pile h_this_tape h_this_letters h_this_code0 h_this_read h_this_saved h_this_plan h_this_bestPlan h_this_offThen h_this_paidThen h_this_rows h_this_sorts h_this_sizes h_this_number h_this_holds h_this_heldOne h_this_trace : Nat} {p0 : Int32} {x_this_isKept : Int32} {x_this_taped : Int32} {x_this_at : Int32} {x_this_begun : Int32} {x_this_token : Int32} {x_this_value : Int32} {x_this_opened : Int32} {x_this_steps : Int32} {x_this_most : Int32} {x_this_many : Int32} {x_this_few : Int32} {x_this_everHome : Int32} {x_this_firstFit : Int32} {x_this_rowMany : Int32} {x_this_traced : Int32} {x_this_own : Int32} {x_this_isParted : Int32} {f_this_s : Nat → Int32} {r : Int32} (hf : f_X9_least p0 f_this_s = some r) : mFi l G yX9_least cX9_least 3 .int 3 [.ref h_this, .int p0] [(h_this, ob 9 [.ref h_this_s, .ref h_this_kept, .ref h_this_laid, .int x_this_isKept, .ref h_this_pile, .ref h_this_tape, .int x_this_taped, .ref h_this_letters, .int x_this_at, .int x_this_begun, .int x_this_token, .int x_this_value, .int x_this_opened, .int x_this_steps, .ref h_this_code0, .ref h_this_read, .ref h_this_saved, .ref h_this_plan, .ref h_this_bestPlan, .int x_this_most, .int x_this_many, .int x_this_few, .int x_this_everHome, .ref h_this_offThen, .ref h_this_paidThen, .int x_this_firstFit, .ref h_this_rows, .int x_this_rowMany, .ref h_this_sorts, .ref h_this_sizes, .ref h_this_number, .ref h_this_holds, .ref h_this_heldOne, .ref h_this_trace, .int x_this_traced, .int x_this_own, .int x_this_isParted]), (h_this_s, ia G 313 f_this_s)] r [(h_this, ob 9 [.ref h_this_s, .ref h_this_kept, .ref h_this_laid, .int x_this_isKept, .ref h_this_pile, .ref h_this_tape, .int x_this_taped, .ref h_this_letters, .int x_this_at, .int x_this_begun, .int x_this_token, .int x_this_value, .int x_this_opened, .int x_this_steps, .ref h_this_code0, .ref h_this_read, .ref h_this_saved, .ref h_this_plan, .ref h_this_bestPlan, .int x_this_most, .int x_this_many, .int x_this_few, .int x_this_everHome, .ref h_this_offThen, .ref h_this_paidThen, .int x_this_firstFit, .ref h_this_rows, .int x_this_rowMany, .ref h_this_sorts, .ref h_this_sizes, .ref h_this_number, .ref h_this_holds, .ref h_this_heldOne, .ref h_this_trace, .int x_this_traced, .int x_this_own, .int x_this_isParted]), (h_this_s, ia G 313 f_this_s)] := by
  refine mFi.of (by decide +kernel) (Nat.le_of_ble_eq_true rfl) ?_
  intro p e s m below meth c A C hr hlk h ls hl
  obtain ⟨hx, hb, hml, hown, hts⟩ := id C
  replace hl : lv_has ls 3 [(0, .ref h_this), (1, .int p0)] := hl
  unfold f_X9_least at hf
  refine with_K G A 3 (fun K hK1 hK2 => ?_)
  have L12 : ∀ (n : Nat) (v2 : Int32), f_X9_least_L12 p0 f_this_s n v2 = some r → K 12 ([] : List Value) [(h_this, ob 9 [.ref h_this_s, .ref h_this_kept, .ref h_this_laid, .int x_this_isKept, .ref h_this_pile, .ref h_this_tape, .int x_this_taped, .ref h_this_letters, .int x_this_at, .int x_this_begun, .int x_this_token, .int x_this_value, .int x_this_opened, .int x_this_steps, .ref h_this_code0, .ref h_this_read, .ref h_this_saved, .ref h_this_plan, .ref h_this_bestPlan, .int x_this_most, .int x_this_many, .int x_this_few, .int x_this_everHome, .ref h_this_offThen, .ref h_this_paidThen, .int x_this_firstFit, .ref h_this_rows, .int x_this_rowMany, .ref h_this_sorts, .ref h_this_sizes, .ref h_this_number, .ref h_this_holds, .ref h_this_heldOne, .ref h_this_trace, .int x_this_traced, .int x_this_own, .int x_this_isParted]), (h_this_s, ia G 313 f_this_s)] [(0, .ref h_this), (1, .int p0), (2, .int v2)] := by
    intro n
    induction n with
    | zero =>
      intro v2 hf
      replace hf : (none : Option _) = some _ := hf
      cases hf
    | succ n ih =>
      intro v2 hf
      rw [f_X9_least_L12] at hf
      refine hK1 _ _ _ _ (fun H locs ls h hl => ?_)
      refine lv_iload_n hx hb dX9_least_12 rfl (lv_at hl 2 rfl) ?_
      refine lv_bipush (v := (9 : Int32)) hx hb dX9_least_13 rfl ?_
      refine lv_icmp_gt (tgt := 35) hx hb dX9_least_15 rfl (fun c4 => ?_) (fun c4 => ?_)
      · replace hf := ifp c4 hf
        refine lv_bipush (v := (-3 : Int32)) hx hb dX9_least_35 rfl ?_
        cases hf
        exact r_iret C h hr hlk rfl dX9_least_37
      · replace hf := ifn c4 hf
        refine lv_aload_n hx hb dX9_least_18 rfl (lv_at hl 0 rfl) ?_
        refine lv_iload_n hx hb dX9_least_19 rfl (lv_at hl 1 rfl) ?_
        refine lv_iload_n hx hb dX9_least_20 rfl (lv_at hl 2 rfl) ?_
        replace hf := bd1_inv hf
        obtain ⟨r5, hc6, hf⟩ := hf
        refine r_ciV0 C h (c_X9_isReachedWith hc6) mv_X9_98 rfl 0 rfl [0, 1] rfl rfl hl.1 rfl (Nat.le_of_ble_eq_true rfl) (rok (by decide)) dX9_least_21 (fun H locs h => ?_)
        refine lv_if_eq (tgt := 29) hx hb dX9_least_24 rfl (fun c7 => ?_) (fun c7 => ?_)
        · replace hf := ifp c7 hf
          obtain ⟨t8, et8⟩ : ∃ y : Int32, y = v2 + (1 : Int32) := ⟨_, rfl⟩
          replace hf := lt1_inv et8 hf
          refine lv_iinc (v := t8) (lv' := [(2, .int t8), (0, .ref h_this), (1, .int p0)]) hx hb dX9_least_29 hl (k := 2) rfl (by rw [et8]; rfl) (by decide) rfl (fun ls hl => ?_)
          refine lv_goto (tgt := 12) hx hb dX9_least_32 rfl ?_
          exact hK2 _ _ _ _ (ih t8 hf) _ _ _ h (lv_sub hl [1, 2, 0] rfl)
        · replace hf := ifn c7 hf
          refine lv_iload_n hx hb dX9_least_27 rfl (lv_at hl 2 rfl) ?_
          cases hf
          exact r_iret C h hr hlk rfl dX9_least_28
  refine lv_aload_n hx hb dX9_least_0 rfl (lv_at hl 0 rfl) ?_
  refine lv_iload_n hx hb dX9_least_1 rfl (lv_at hl 1 rfl) ?_
  replace hf := bd1_inv hf
  obtain ⟨r1, hc2, hf⟩ := hf
  refine r_ciV0 C h (c_X9_isShip hc2) mv_X9_226 rfl 0 rfl [0, 1] rfl rfl hl.1 rfl (Nat.le_of_ble_eq_true rfl) (rok (by decide)) dX9_least_2 (fun H locs h => ?_)
  refine lv_if_ne (tgt := 10) hx hb dX9_least_5 rfl (fun c3 => ?_) (fun c3 => ?_)
  · replace hf := ifn c3 hf
    refine lv_iconst (v := (0 : Int32)) hx hb dX9_least_10 rfl ?_
    refine lv_istore_n (lv' := [(2, .int (0 : Int32)), (0, .ref h_this), (1, .int p0)]) hx hb dX9_least_11 rfl hl (by decide) rfl (fun ls hl => ?_)
    exact hK2 _ _ _ _ (L12 1000 (0 : Int32) hf) _ _ _ h (lv_sub hl [1, 2, 0] rfl)
  · replace hf := ifp c3 hf
    refine lv_iconst (v := (-1 : Int32)) hx hb dX9_least_8 rfl ?_
    clear L12 hK2 hK1
    cases hf
    exact r_iret C h hr hlk rfl dX9_least_9
