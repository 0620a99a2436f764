set_option maxRecDepth 100000 in
set_option maxHeartbeats 4000000 in
theorem c_X9_readsName {l : Launch} {G : Gt} {h_this h_this_s h_this_kept h_this_laid h_this_pile h_this_tape h_this_letters h_this_code0 h_this_read h_this_saved h_this_plan h_this_bestPlan h_this_offThen h_this_paidThen h_this_rows h_this_sorts h_this_sizes h_this_number h_this_holds h_this_heldOne h_this_trace : Nat} {x_this_isKept : Int32} {x_this_taped : Int32} {x_this_at : Int32} {x_this_begun : Int32} {x_this_token : Int32} {x_this_value : Int32} {x_this_opened : Int32} {x_this_steps : Int32} {x_this_most : Int32} {x_this_many : Int32} {x_this_few : Int32} {x_this_everHome : Int32} {x_this_firstFit : Int32} {x_this_rowMany : Int32} {x_this_traced : Int32} {x_this_own : Int32} {x_this_isParted : Int32} {f_this_letters : Nat → Int32} {f_this_tape : Nat → Int32} {m_this_at : Int32} {m_this_token : Int32} (hf : f_X9_readsName x_this_taped x_this_at x_this_begun f_this_letters f_this_tape = some (m_this_at, m_this_token)) : mFv l G yX9_readsName cX9_readsName 2 2 [.ref h_this] [(h_this, ob 9 [.ref h_this_s, .ref h_this_kept, .ref h_this_laid, .int x_this_isKept, .ref h_this_pile, .ref h_this_tape, .int x_this_taped, .ref h_this_letters, .int x_this_at, .int x_this_begun, .int x_this_token, .int x_this_value, .int x_this_opened, .int x_this_steps, .ref h_this_code0, .ref h_this_read, .ref h_this_saved, .ref h_this_plan, .ref h_this_bestPlan, .int x_this_most, .int x_this_many, .int x_this_few, .int x_this_everHome, .ref h_this_offThen, .ref h_this_paidThen, .int x_this_firstFit, .ref h_this_rows, .int x_this_rowMany, .ref h_this_sorts, .ref h_this_sizes, .ref h_this_number, .ref h_this_holds, .ref h_this_heldOne, .ref h_this_trace, .int x_this_traced, .int x_this_own, .int x_this_isParted]), (h_this_letters, ca G 144 f_this_letters), (h_this_tape, ia G 200 f_this_tape)] [(h_this, ob 9 [.ref h_this_s, .ref h_this_kept, .ref h_this_laid, .int x_this_isKept, .ref h_this_pile, .ref h_this_tape, .int x_this_taped, .ref h_this_letters, .int m_this_at, .int x_this_begun, .int m_this_token, .int x_this_value, .int x_this_opened, .int x_this_steps, .ref h_this_code0, .ref h_this_read, .ref h_this_saved, .ref h_this_plan, .ref h_this_bestPlan, .int x_this_most, .int x_this_many, .int x_this_few, .int x_this_everHome, .ref h_this_offThen, .ref h_this_paidThen, .int x_this_firstFit, .ref h_this_rows, .int x_this_rowMany, .ref h_this_sorts, .ref h_this_sizes, .ref h_this_number, .ref h_this_holds, .ref h_this_heldOne, .ref h_this_trace, .int x_this_traced, .int x_this_own, .int x_this_isParted]), (h_this_letters, ca G 144 f_this_letters), (h_this_tape, ia G 200 f_this_tape)] := by
  refine mFv.of (by decide +kernel) (Nat.le_of_ble_eq_true rfl) ?_
  intro p e s m below meth c A C hr hlk h ls hl
  obtain ⟨hx, hb, hml, hown, hts⟩ := id C
  replace hl : lv_has ls 2 [(0, .ref h_this)] := hl
  unfold f_X9_readsName at hf
  refine with_K G A 2 (fun K hK1 hK2 => ?_)
  have L39 : ∀ (n : Nat) (v1 : Int32) (y_this_at : Int32) (y_this_token : Int32), f_X9_readsName_L39 x_this_taped x_this_begun f_this_letters f_this_tape n v1 y_this_at y_this_token = some (m_this_at, m_this_token) → K 39 ([] : List Value) [(h_this, ob 9 [.ref h_this_s, .ref h_this_kept, .ref h_this_laid, .int x_this_isKept, .ref h_this_pile, .ref h_this_tape, .int x_this_taped, .ref h_this_letters, .int y_this_at, .int x_this_begun, .int y_this_token, .int x_this_value, .int x_this_opened, .int x_this_steps, .ref h_this_code0, .ref h_this_read, .ref h_this_saved, .ref h_this_plan, .ref h_this_bestPlan, .int x_this_most, .int x_this_many, .int x_this_few, .int x_this_everHome, .ref h_this_offThen, .ref h_this_paidThen, .int x_this_firstFit, .ref h_this_rows, .int x_this_rowMany, .ref h_this_sorts, .ref h_this_sizes, .ref h_this_number, .ref h_this_holds, .ref h_this_heldOne, .ref h_this_trace, .int x_this_traced, .int x_this_own, .int x_this_isParted]), (h_this_letters, ca G 144 f_this_letters), (h_this_tape, ia G 200 f_this_tape)] [(0, .ref h_this), (1, .int v1)] := by
    intro n
    induction n with
    | zero =>
      intro v1 y_this_at y_this_token hf
      replace hf : (none : Option _) = some _ := hf
      cases hf
    | succ n ih =>
      intro v1 y_this_at y_this_token hf
      rw [f_X9_readsName_L39] at hf
      refine hK1 _ _ _ _ (fun H locs ls h hl => ?_)
      refine lv_iload_n hx hb dX9_readsName_39 rfl (lv_at hl 1 rfl) ?_
      refine lv_bipush (v := (18 : Int32)) hx hb dX9_readsName_40 rfl ?_
      refine lv_icmp_ge (tgt := 71) hx hb dX9_readsName_42 rfl (fun c6 => ?_) (fun c6 => ?_)
      · replace hf := ifp c6 hf
        cases hf
        exact r_vret C h hr hlk dX9_readsName_71
      · replace hf := ifn c6 hf
        refine lv_aload_n hx hb dX9_readsName_45 rfl (lv_at hl 0 rfl) ?_
        refine lv_aload_n hx hb dX9_readsName_46 rfl (lv_at hl 0 rfl) ?_
        refine lv_iload_n hx hb dX9_readsName_47 rfl (lv_at hl 1 rfl) ?_
        replace hf := bd1_inv hf
        obtain ⟨r7, hc8, hf⟩ := hf
        refine r_ciV0 C h (c_X9_isNameOf hc8) mv_X9_143 rfl 0 rfl [0, 1, 2] rfl rfl hl.1 rfl (Nat.le_of_ble_eq_true rfl) (rok (by decide)) dX9_readsName_48 (fun H locs h => ?_)
        refine lv_if_eq (tgt := 58) hx hb dX9_readsName_51 rfl (fun c9 => ?_) (fun c9 => ?_)
        · replace hf := ifp c9 hf
          refine lv_aload_n hx hb dX9_readsName_58 rfl (lv_at hl 0 rfl) ?_
          refine r_get C h fk_X9_140 0 rfl rfl dX9_readsName_59 ?_
          refine r_put (ws' := [(h_this, ob 9 [.ref h_this_s, .ref h_this_kept, .ref h_this_laid, .int x_this_isKept, .ref h_this_pile, .ref h_this_tape, .int x_this_taped, .ref h_this_letters, .int y_this_at, .int x_this_begun, .int y_this_token, .int x_this_value, .int x_this_opened, .int x_this_steps, .ref h_this_code0, .ref h_this_read, .ref h_this_saved, .ref h_this_plan, .ref h_this_bestPlan, .int x_this_most, .int x_this_many, .int x_this_few, .int x_this_everHome, .ref h_this_offThen, .ref h_this_paidThen, .int x_this_firstFit, .ref h_this_rows, .int x_this_rowMany, .ref h_this_sorts, .ref h_this_sizes, .ref h_this_number, .ref h_this_holds, .ref h_this_heldOne, .ref h_this_trace, .int x_this_traced, .int x_this_own, .int x_this_isParted]), (h_this_letters, ca G 144 f_this_letters), (h_this_tape, ia G 200 f_this_tape)]) C h fw_X9_140 0 rfl rfl rfl (Nat.le_of_ble_eq_true rfl) dX9_readsName_62 rfl (fun H locs h => ?_)
          obtain ⟨t10, et10⟩ : ∃ y : Int32, y = v1 + (1 : Int32) := ⟨_, rfl⟩
          replace hf := lt1_inv et10 hf
          refine lv_iinc (v := t10) (lv' := [(1, .int t10), (0, .ref h_this)]) hx hb dX9_readsName_65 hl (k := 1) rfl (by rw [et10]; rfl) (by decide) rfl (fun ls hl => ?_)
          refine lv_goto (tgt := 39) hx hb dX9_readsName_68 rfl ?_
          exact hK2 _ _ _ _ (ih t10 y_this_at y_this_token hf) _ _ _ h (lv_sub hl [1, 0] rfl)
        · replace hf := ifn c9 hf
          refine lv_iload_n hx hb dX9_readsName_54 rfl (lv_at hl 1 rfl) ?_
          refine lv_goto (tgt := 62) hx hb dX9_readsName_55 rfl ?_
          refine r_put (ws' := [(h_this, ob 9 [.ref h_this_s, .ref h_this_kept, .ref h_this_laid, .int x_this_isKept, .ref h_this_pile, .ref h_this_tape, .int x_this_taped, .ref h_this_letters, .int y_this_at, .int x_this_begun, .int v1, .int x_this_value, .int x_this_opened, .int x_this_steps, .ref h_this_code0, .ref h_this_read, .ref h_this_saved, .ref h_this_plan, .ref h_this_bestPlan, .int x_this_most, .int x_this_many, .int x_this_few, .int x_this_everHome, .ref h_this_offThen, .ref h_this_paidThen, .int x_this_firstFit, .ref h_this_rows, .int x_this_rowMany, .ref h_this_sorts, .ref h_this_sizes, .ref h_this_number, .ref h_this_holds, .ref h_this_heldOne, .ref h_this_trace, .int x_this_traced, .int x_this_own, .int x_this_isParted]), (h_this_letters, ca G 144 f_this_letters), (h_this_tape, ia G 200 f_this_tape)]) C h fw_X9_140 0 rfl rfl rfl (Nat.le_of_ble_eq_true rfl) dX9_readsName_62 rfl (fun H locs h => ?_)
          obtain ⟨t11, et11⟩ : ∃ y : Int32, y = v1 + (1 : Int32) := ⟨_, rfl⟩
          replace hf := lt1_inv et11 hf
          refine lv_iinc (v := t11) (lv' := [(1, .int t11), (0, .ref h_this)]) hx hb dX9_readsName_65 hl (k := 1) rfl (by rw [et11]; rfl) (by decide) rfl (fun ls hl => ?_)
          refine lv_goto (tgt := 39) hx hb dX9_readsName_68 rfl ?_
          exact hK2 _ _ _ _ (ih t11 y_this_at v1 hf) _ _ _ h (lv_sub hl [1, 0] rfl)
  have B31 : ∀ (y_this_at : Int32), f_X9_readsName_b31 x_this_taped x_this_begun f_this_letters f_this_tape y_this_at = some (m_this_at, m_this_token) → K 31 ([] : List Value) [(h_this, ob 9 [.ref h_this_s, .ref h_this_kept, .ref h_this_laid, .int x_this_isKept, .ref h_this_pile, .ref h_this_tape, .int x_this_taped, .ref h_this_letters, .int y_this_at, .int x_this_begun, .int x_this_token, .int x_this_value, .int x_this_opened, .int x_this_steps, .ref h_this_code0, .ref h_this_read, .ref h_this_saved, .ref h_this_plan, .ref h_this_bestPlan, .int x_this_most, .int x_this_many, .int x_this_few, .int x_this_everHome, .ref h_this_offThen, .ref h_this_paidThen, .int x_this_firstFit, .ref h_this_rows, .int x_this_rowMany, .ref h_this_sorts, .ref h_this_sizes, .ref h_this_number, .ref h_this_holds, .ref h_this_heldOne, .ref h_this_trace, .int x_this_traced, .int x_this_own, .int x_this_isParted]), (h_this_letters, ca G 144 f_this_letters), (h_this_tape, ia G 200 f_this_tape)] [(0, .ref h_this)] := by
    intro y_this_at hf
    unfold f_X9_readsName_b31 at hf
    refine hK1 _ _ _ _ (fun H locs ls h hl => ?_)
    refine lv_aload_n hx hb dX9_readsName_31 rfl (lv_at hl 0 rfl) ?_
    refine lv_bipush (v := (101 : Int32)) hx hb dX9_readsName_32 rfl ?_
    refine r_put (ws' := [(h_this, ob 9 [.ref h_this_s, .ref h_this_kept, .ref h_this_laid, .int x_this_isKept, .ref h_this_pile, .ref h_this_tape, .int x_this_taped, .ref h_this_letters, .int y_this_at, .int x_this_begun, .int (101 : Int32), .int x_this_value, .int x_this_opened, .int x_this_steps, .ref h_this_code0, .ref h_this_read, .ref h_this_saved, .ref h_this_plan, .ref h_this_bestPlan, .int x_this_most, .int x_this_many, .int x_this_few, .int x_this_everHome, .ref h_this_offThen, .ref h_this_paidThen, .int x_this_firstFit, .ref h_this_rows, .int x_this_rowMany, .ref h_this_sorts, .ref h_this_sizes, .ref h_this_number, .ref h_this_holds, .ref h_this_heldOne, .ref h_this_trace, .int x_this_traced, .int x_this_own, .int x_this_isParted]), (h_this_letters, ca G 144 f_this_letters), (h_this_tape, ia G 200 f_this_tape)]) C h fw_X9_140 0 rfl rfl rfl (Nat.le_of_ble_eq_true rfl) dX9_readsName_34 rfl (fun H locs h => ?_)
    refine lv_iconst (v := (0 : Int32)) hx hb dX9_readsName_37 rfl ?_
    refine lv_istore_n (lv' := [(1, .int (0 : Int32)), (0, .ref h_this)]) hx hb dX9_readsName_38 rfl hl (by decide) rfl (fun ls hl => ?_)
    exact hK2 _ _ _ _ (L39 1000 (0 : Int32) y_this_at (101 : Int32) hf) _ _ _ h (lv_sub hl [1, 0] rfl)
  have L0 : ∀ (n : Nat) (y_this_at : Int32), f_X9_readsName_L0 x_this_taped x_this_begun f_this_letters f_this_tape n y_this_at = some (m_this_at, m_this_token) → K 0 ([] : List Value) [(h_this, ob 9 [.ref h_this_s, .ref h_this_kept, .ref h_this_laid, .int x_this_isKept, .ref h_this_pile, .ref h_this_tape, .int x_this_taped, .ref h_this_letters, .int y_this_at, .int x_this_begun, .int x_this_token, .int x_this_value, .int x_this_opened, .int x_this_steps, .ref h_this_code0, .ref h_this_read, .ref h_this_saved, .ref h_this_plan, .ref h_this_bestPlan, .int x_this_most, .int x_this_many, .int x_this_few, .int x_this_everHome, .ref h_this_offThen, .ref h_this_paidThen, .int x_this_firstFit, .ref h_this_rows, .int x_this_rowMany, .ref h_this_sorts, .ref h_this_sizes, .ref h_this_number, .ref h_this_holds, .ref h_this_heldOne, .ref h_this_trace, .int x_this_traced, .int x_this_own, .int x_this_isParted]), (h_this_letters, ca G 144 f_this_letters), (h_this_tape, ia G 200 f_this_tape)] [(0, .ref h_this)] := by
    intro n
    induction n with
    | zero =>
      intro y_this_at hf
      replace hf : (none : Option _) = some _ := hf
      cases hf
    | succ n ih =>
      intro y_this_at hf
      rw [f_X9_readsName_L0] at hf
      refine hK1 _ _ _ _ (fun H locs ls h hl => ?_)
      refine lv_aload_n hx hb dX9_readsName_0 rfl (lv_at hl 0 rfl) ?_
      refine lv_aload_n hx hb dX9_readsName_1 rfl (lv_at hl 0 rfl) ?_
      refine r_get C h fk_X9_131 0 rfl rfl dX9_readsName_2 ?_
      replace hf := bd1_inv hf
      obtain ⟨r1, hc2, hf⟩ := hf
      refine r_ciV0 C h (c_X9_byteAt hc2) mv_X9_137 rfl 0 rfl [0, 2] rfl rfl hl.1 rfl (Nat.le_of_ble_eq_true rfl) (rok (by decide)) dX9_readsName_5 (fun H locs h => ?_)
      refine lv_bipush (v := (97 : Int32)) hx hb dX9_readsName_8 rfl ?_
      refine lv_bipush (v := (122 : Int32)) hx hb dX9_readsName_10 rfl ?_
      replace hf := bd1_inv hf
      obtain ⟨r3, hc4, hf⟩ := hf
      refine r_ciS0 C h (c_X9_in1 hc4) ms_X9_71 rfl [] rfl rfl hl.1 rfl (Nat.le_of_ble_eq_true rfl) (rok (by decide)) dX9_readsName_12 (fun H locs h => ?_)
      refine lv_if_eq (tgt := 31) hx hb dX9_readsName_15 rfl (fun c5 => ?_) (fun c5 => ?_)
      · replace hf := ifp c5 hf
        exact hK2 _ _ _ _ (B31 y_this_at hf) _ _ _ h (lv_sub hl [0] rfl)
      · replace hf := ifn c5 hf
        refine lv_aload_n hx hb dX9_readsName_18 rfl (lv_at hl 0 rfl) ?_
        refine lv_dup hx hb dX9_readsName_19 rfl ?_
        refine r_get C h fk_X9_131 0 rfl rfl dX9_readsName_20 ?_
        refine lv_iconst (v := (1 : Int32)) hx hb dX9_readsName_23 rfl ?_
        refine lv_iadd hx hb dX9_readsName_24 ?_
        refine lv_topi (fun t12 et12 => ?_)
        replace hf := lt1_inv et12 hf
        refine r_put (ws' := [(h_this, ob 9 [.ref h_this_s, .ref h_this_kept, .ref h_this_laid, .int x_this_isKept, .ref h_this_pile, .ref h_this_tape, .int x_this_taped, .ref h_this_letters, .int t12, .int x_this_begun, .int x_this_token, .int x_this_value, .int x_this_opened, .int x_this_steps, .ref h_this_code0, .ref h_this_read, .ref h_this_saved, .ref h_this_plan, .ref h_this_bestPlan, .int x_this_most, .int x_this_many, .int x_this_few, .int x_this_everHome, .ref h_this_offThen, .ref h_this_paidThen, .int x_this_firstFit, .ref h_this_rows, .int x_this_rowMany, .ref h_this_sorts, .ref h_this_sizes, .ref h_this_number, .ref h_this_holds, .ref h_this_heldOne, .ref h_this_trace, .int x_this_traced, .int x_this_own, .int x_this_isParted]), (h_this_letters, ca G 144 f_this_letters), (h_this_tape, ia G 200 f_this_tape)]) C h fw_X9_131 0 rfl rfl rfl (Nat.le_of_ble_eq_true rfl) dX9_readsName_25 rfl (fun H locs h => ?_)
        refine lv_goto (tgt := 0) hx hb dX9_readsName_28 rfl ?_
        exact hK2 _ _ _ _ (ih t12 hf) _ _ _ h (lv_sub hl [0] rfl)
  exact hK2 _ _ _ _ (L0 1000 x_this_at hf) _ _ _ h (lv_sub hl [0] rfl)
set_option maxRecDepth 100000 in
set_option maxHeartbeats 4000000 in
theorem c_X9_readsNumber {l : Launch} {G : Gt} {h_this h_this_s h_this_kept h_this_laid h_this_pile h_this_tape h_this_letters h_this_code0 h_this_read h_this_saved h_this_plan h_this_bestPlan h_this_offThen h_this_paidThen h_this_rows h_this_sorts h_this_sizes h_this_number h_this_holds h_this_heldOne h_this_trace : Nat} {x_this_isKept : Int32} {x_this_taped : Int32} {x_this_at : Int32} {x_this_begun : Int32} {x_this_token : Int32} {x_this_value : Int32} {x_this_opened : Int32} {x_this_steps : Int32} {x_this_most : Int32} {x_this_many : Int32} {x_this_few : Int32} {x_this_everHome : Int32} {x_this_firstFit : Int32} {x_this_rowMany : Int32} {x_this_traced : Int32} {x_this_own : Int32} {x_this_isParted : Int32} {f_this_tape : Nat → Int32} {m_this_at : Int32} {m_this_token : Int32} {m_this_value : Int32} (hf : f_X9_readsNumber x_this_taped x_this_at x_this_begun f_this_tape = some (m_this_at, m_this_token, m_this_value)) : mFv l G yX9_readsNumber cX9_readsNumber 1 1 [.ref h_this] [(h_this, ob 9 [.ref h_this_s, .ref h_this_kept, .ref h_this_laid, .int x_this_isKept, .ref h_this_pile, .ref h_this_tape, .int x_this_taped, .ref h_this_letters, .int x_this_at, .int x_this_begun, .int x_this_token, .int x_this_value, .int x_this_opened, .int x_this_steps, .ref h_this_code0, .ref h_this_read, .ref h_this_saved, .ref h_this_plan, .ref h_this_bestPlan, .int x_this_most, .int x_this_many, .int x_this_few, .int x_this_everHome, .ref h_this_offThen, .ref h_this_paidThen, .int x_this_firstFit, .ref h_this_rows, .int x_this_rowMany, .ref h_this_sorts, .ref h_this_sizes, .ref h_this_number, .ref h_this_holds, .ref h_this_heldOne, .ref h_this_trace, .int x_this_traced, .int x_this_own, .int x_this_isParted]), (h_this_tape, ia G 200 f_this_tape)] [(h_this, ob 9 [.ref h_this_s, .ref h_this_kept, .ref h_this_laid, .int x_this_isKept, .ref h_this_pile, .ref h_this_tape, .int x_this_taped, .ref h_this_letters, .int m_this_at, .int x_this_begun, .int m_this_token, .int m_this_value, .int x_this_opened, .int x_this_steps, .ref h_this_code0, .ref h_this_read, .ref h_this_saved, .ref h_this_plan, .ref h_this_bestPlan, .int x_this_most, .int x_this_many, .int x_this_few, .int x_this_everHome, .ref h_this_offThen, .ref h_this_paidThen, .int x_this_firstFit, .ref h_this_rows, .int x_this_rowMany, .ref h_this_sorts, .ref h_this_sizes, .ref h_this_number, .ref h_this_holds, .ref h_this_heldOne, .ref h_this_trace, .int x_this_traced, .int x_this_own, .int x_this_isParted]), (h_this_tape, ia G 200 f_this_tape)] := by
  refine mFv.of (by decide +kernel) (Nat.le_of_ble_eq_true rfl) ?_
  intro p e s m below meth c A C hr hlk h ls hl
  obtain ⟨hx, hb, hml, hown, hts⟩ := id C
  replace hl : lv_has ls 1 [(0, .ref h_this)] := hl
  unfold f_X9_readsNumber at hf
  refine with_K G A 1 (fun K hK1 hK2 => ?_)
  have B79 : ∀ (y_this_at : Int32) (y_this_value : Int32), f_X9_readsNumber_b79 x_this_begun y_this_at y_this_value = some (m_this_at, m_this_token, m_this_value) → K 79 ([] : List Value) [(h_this, ob 9 [.ref h_this_s, .ref h_this_kept, .ref h_this_laid, .int x_this_isKept, .ref h_this_pile, .ref h_this_tape, .int x_this_taped, .ref h_this_letters, .int y_this_at, .int x_this_begun, .int x_this_token, .int y_this_value, .int x_this_opened, .int x_this_steps, .ref h_this_code0, .ref h_this_read, .ref h_this_saved, .ref h_this_plan, .ref h_this_bestPlan, .int x_this_most, .int x_this_many, .int x_this_few, .int x_this_everHome, .ref h_this_offThen, .ref h_this_paidThen, .int x_this_firstFit, .ref h_this_rows, .int x_this_rowMany, .ref h_this_sorts, .ref h_this_sizes, .ref h_this_number, .ref h_this_holds, .ref h_this_heldOne, .ref h_this_trace, .int x_this_traced, .int x_this_own, .int x_this_isParted]), (h_this_tape, ia G 200 f_this_tape)] [(0, .ref h_this)] := by
    intro y_this_at y_this_value hf
    unfold f_X9_readsNumber_b79 at hf
    refine hK1 _ _ _ _ (fun H locs ls h hl => ?_)
    refine lv_aload_n hx hb dX9_readsNumber_79 rfl (lv_at hl 0 rfl) ?_
    refine lv_aload_n hx hb dX9_readsNumber_80 rfl (lv_at hl 0 rfl) ?_
    refine r_get C h fk_X9_131 0 rfl rfl dX9_readsNumber_81 ?_
    refine lv_aload_n hx hb dX9_readsNumber_84 rfl (lv_at hl 0 rfl) ?_
    refine r_get C h fk_X9_134 0 rfl rfl dX9_readsNumber_85 ?_
    refine lv_isub hx hb dX9_readsNumber_88 ?_
    refine lv_iconst (v := (4 : Int32)) hx hb dX9_readsNumber_89 rfl ?_
    refine lv_icmp_le (tgt := 98) hx hb dX9_readsNumber_90 rfl (fun c6 => ?_) (fun c6 => ?_)
    · replace hf := ifp c6 hf
      refine lv_bipush (v := (100 : Int32)) hx hb dX9_readsNumber_98 rfl ?_
      refine r_put (ws' := [(h_this, ob 9 [.ref h_this_s, .ref h_this_kept, .ref h_this_laid, .int x_this_isKept, .ref h_this_pile, .ref h_this_tape, .int x_this_taped, .ref h_this_letters, .int y_this_at, .int x_this_begun, .int (100 : Int32), .int y_this_value, .int x_this_opened, .int x_this_steps, .ref h_this_code0, .ref h_this_read, .ref h_this_saved, .ref h_this_plan, .ref h_this_bestPlan, .int x_this_most, .int x_this_many, .int x_this_few, .int x_this_everHome, .ref h_this_offThen, .ref h_this_paidThen, .int x_this_firstFit, .ref h_this_rows, .int x_this_rowMany, .ref h_this_sorts, .ref h_this_sizes, .ref h_this_number, .ref h_this_holds, .ref h_this_heldOne, .ref h_this_trace, .int x_this_traced, .int x_this_own, .int x_this_isParted]), (h_this_tape, ia G 200 f_this_tape)]) C h fw_X9_140 0 rfl rfl rfl (Nat.le_of_ble_eq_true rfl) dX9_readsNumber_100 rfl (fun H locs h => ?_)
      cases hf
      exact r_vret C h hr hlk dX9_readsNumber_103
    · replace hf := ifn c6 hf
      refine lv_bipush (v := (101 : Int32)) hx hb dX9_readsNumber_93 rfl ?_
      refine lv_goto (tgt := 100) hx hb dX9_readsNumber_95 rfl ?_
      refine r_put (ws' := [(h_this, ob 9 [.ref h_this_s, .ref h_this_kept, .ref h_this_laid, .int x_this_isKept, .ref h_this_pile, .ref h_this_tape, .int x_this_taped, .ref h_this_letters, .int y_this_at, .int x_this_begun, .int (101 : Int32), .int y_this_value, .int x_this_opened, .int x_this_steps, .ref h_this_code0, .ref h_this_read, .ref h_this_saved, .ref h_this_plan, .ref h_this_bestPlan, .int x_this_most, .int x_this_many, .int x_this_few, .int x_this_everHome, .ref h_this_offThen, .ref h_this_paidThen, .int x_this_firstFit, .ref h_this_rows, .int x_this_rowMany, .ref h_this_sorts, .ref h_this_sizes, .ref h_this_number, .ref h_this_holds, .ref h_this_heldOne, .ref h_this_trace, .int x_this_traced, .int x_this_own, .int x_this_isParted]), (h_this_tape, ia G 200 f_this_tape)]) C h fw_X9_140 0 rfl rfl rfl (Nat.le_of_ble_eq_true rfl) dX9_readsNumber_100 rfl (fun H locs h => ?_)
      cases hf
      exact r_vret C h hr hlk dX9_readsNumber_103
  have B63 : ∀ (rec5 : Int32 → Int32 → Option (Int32 × Int32 × Int32)) (hrec5 : ∀ (y_this_at : Int32) (y_this_value : Int32), rec5 y_this_at y_this_value = some (m_this_at, m_this_token, m_this_value) → K 5 ([] : List Value) [(h_this, ob 9 [.ref h_this_s, .ref h_this_kept, .ref h_this_laid, .int x_this_isKept, .ref h_this_pile, .ref h_this_tape, .int x_this_taped, .ref h_this_letters, .int y_this_at, .int x_this_begun, .int x_this_token, .int y_this_value, .int x_this_opened, .int x_this_steps, .ref h_this_code0, .ref h_this_read, .ref h_this_saved, .ref h_this_plan, .ref h_this_bestPlan, .int x_this_most, .int x_this_many, .int x_this_few, .int x_this_everHome, .ref h_this_offThen, .ref h_this_paidThen, .int x_this_firstFit, .ref h_this_rows, .int x_this_rowMany, .ref h_this_sorts, .ref h_this_sizes, .ref h_this_number, .ref h_this_holds, .ref h_this_heldOne, .ref h_this_trace, .int x_this_traced, .int x_this_own, .int x_this_isParted]), (h_this_tape, ia G 200 f_this_tape)] [(0, .ref h_this)]) (s1 : Int32) (y_this_at : Int32) (y_this_value : Int32), f_X9_readsNumber_b63 rec5 s1 y_this_at y_this_value = some (m_this_at, m_this_token, m_this_value) → K 63 [.int s1, .ref h_this] [(h_this, ob 9 [.ref h_this_s, .ref h_this_kept, .ref h_this_laid, .int x_this_isKept, .ref h_this_pile, .ref h_this_tape, .int x_this_taped, .ref h_this_letters, .int y_this_at, .int x_this_begun, .int x_this_token, .int y_this_value, .int x_this_opened, .int x_this_steps, .ref h_this_code0, .ref h_this_read, .ref h_this_saved, .ref h_this_plan, .ref h_this_bestPlan, .int x_this_most, .int x_this_many, .int x_this_few, .int x_this_everHome, .ref h_this_offThen, .ref h_this_paidThen, .int x_this_firstFit, .ref h_this_rows, .int x_this_rowMany, .ref h_this_sorts, .ref h_this_sizes, .ref h_this_number, .ref h_this_holds, .ref h_this_heldOne, .ref h_this_trace, .int x_this_traced, .int x_this_own, .int x_this_isParted]), (h_this_tape, ia G 200 f_this_tape)] [(0, .ref h_this)] := by
    intro rec5 hrec5 s1 y_this_at y_this_value hf
    unfold f_X9_readsNumber_b63 at hf
    refine hK1 _ _ _ _ (fun H locs ls h hl => ?_)
    refine r_put (ws' := [(h_this, ob 9 [.ref h_this_s, .ref h_this_kept, .ref h_this_laid, .int x_this_isKept, .ref h_this_pile, .ref h_this_tape, .int x_this_taped, .ref h_this_letters, .int y_this_at, .int x_this_begun, .int x_this_token, .int s1, .int x_this_opened, .int x_this_steps, .ref h_this_code0, .ref h_this_read, .ref h_this_saved, .ref h_this_plan, .ref h_this_bestPlan, .int x_this_most, .int x_this_many, .int x_this_few, .int x_this_everHome, .ref h_this_offThen, .ref h_this_paidThen, .int x_this_firstFit, .ref h_this_rows, .int x_this_rowMany, .ref h_this_sorts, .ref h_this_sizes, .ref h_this_number, .ref h_this_holds, .ref h_this_heldOne, .ref h_this_trace, .int x_this_traced, .int x_this_own, .int x_this_isParted]), (h_this_tape, ia G 200 f_this_tape)]) C h fw_X9_146 0 rfl rfl rfl (Nat.le_of_ble_eq_true rfl) dX9_readsNumber_63 rfl (fun H locs h => ?_)
    refine lv_aload_n hx hb dX9_readsNumber_66 rfl (lv_at hl 0 rfl) ?_
    refine lv_dup hx hb dX9_readsNumber_67 rfl ?_
    refine r_get C h fk_X9_131 0 rfl rfl dX9_readsNumber_68 ?_
    refine lv_iconst (v := (1 : Int32)) hx hb dX9_readsNumber_71 rfl ?_
    refine lv_iadd hx hb dX9_readsNumber_72 ?_
    refine lv_topi (fun t8 et8 => ?_)
    replace hf := lt1_inv et8 hf
    refine r_put (ws' := [(h_this, ob 9 [.ref h_this_s, .ref h_this_kept, .ref h_this_laid, .int x_this_isKept, .ref h_this_pile, .ref h_this_tape, .int x_this_taped, .ref h_this_letters, .int t8, .int x_this_begun, .int x_this_token, .int s1, .int x_this_opened, .int x_this_steps, .ref h_this_code0, .ref h_this_read, .ref h_this_saved, .ref h_this_plan, .ref h_this_bestPlan, .int x_this_most, .int x_this_many, .int x_this_few, .int x_this_everHome, .ref h_this_offThen, .ref h_this_paidThen, .int x_this_firstFit, .ref h_this_rows, .int x_this_rowMany, .ref h_this_sorts, .ref h_this_sizes, .ref h_this_number, .ref h_this_holds, .ref h_this_heldOne, .ref h_this_trace, .int x_this_traced, .int x_this_own, .int x_this_isParted]), (h_this_tape, ia G 200 f_this_tape)]) C h fw_X9_131 0 rfl rfl rfl (Nat.le_of_ble_eq_true rfl) dX9_readsNumber_73 rfl (fun H locs h => ?_)
    refine lv_goto (tgt := 5) hx hb dX9_readsNumber_76 rfl ?_
    exact hK2 _ _ _ _ (hrec5 t8 s1 hf) _ _ _ h (lv_sub hl [0] rfl)
  have L5 : ∀ (n : Nat) (y_this_at : Int32) (y_this_value : Int32), f_X9_readsNumber_L5 x_this_taped x_this_begun f_this_tape n y_this_at y_this_value = some (m_this_at, m_this_token, m_this_value) → K 5 ([] : List Value) [(h_this, ob 9 [.ref h_this_s, .ref h_this_kept, .ref h_this_laid, .int x_this_isKept, .ref h_this_pile, .ref h_this_tape, .int x_this_taped, .ref h_this_letters, .int y_this_at, .int x_this_begun, .int x_this_token, .int y_this_value, .int x_this_opened, .int x_this_steps, .ref h_this_code0, .ref h_this_read, .ref h_this_saved, .ref h_this_plan, .ref h_this_bestPlan, .int x_this_most, .int x_this_many, .int x_this_few, .int x_this_everHome, .ref h_this_offThen, .ref h_this_paidThen, .int x_this_firstFit, .ref h_this_rows, .int x_this_rowMany, .ref h_this_sorts, .ref h_this_sizes, .ref h_this_number, .ref h_this_holds, .ref h_this_heldOne, .ref h_this_trace, .int x_this_traced, .int x_this_own, .int x_this_isParted]), (h_this_tape, ia G 200 f_this_tape)] [(0, .ref h_this)] := by
    intro n
    induction n with
    | zero =>
      intro y_this_at y_this_value hf
      replace hf : (none : Option _) = some _ := hf
      cases hf
    | succ n ih =>
      intro y_this_at y_this_value hf
      rw [f_X9_readsNumber_L5] at hf
      refine hK1 _ _ _ _ (fun H locs ls h hl => ?_)
      refine lv_aload_n hx hb dX9_readsNumber_5 rfl (lv_at hl 0 rfl) ?_
      refine lv_aload_n hx hb dX9_readsNumber_6 rfl (lv_at hl 0 rfl) ?_
      refine r_get C h fk_X9_131 0 rfl rfl dX9_readsNumber_7 ?_
      replace hf := bd1_inv hf
      obtain ⟨r1, hc2, hf⟩ := hf
      refine r_ciV0 C h (c_X9_byteAt hc2) mv_X9_137 rfl 0 rfl [0, 1] rfl rfl hl.1 rfl (Nat.le_of_ble_eq_true rfl) (rok (by decide)) dX9_readsNumber_10 (fun H locs h => ?_)
      refine lv_bipush (v := (48 : Int32)) hx hb dX9_readsNumber_13 rfl ?_
      refine lv_bipush (v := (57 : Int32)) hx hb dX9_readsNumber_15 rfl ?_
      replace hf := bd1_inv hf
      obtain ⟨r3, hc4, hf⟩ := hf
      refine r_ciS0 C h (c_X9_in1 hc4) ms_X9_71 rfl [] rfl rfl hl.1 rfl (Nat.le_of_ble_eq_true rfl) (rok (by decide)) dX9_readsNumber_17 (fun H locs h => ?_)
      refine lv_if_eq (tgt := 79) hx hb dX9_readsNumber_20 rfl (fun c5 => ?_) (fun c5 => ?_)
      · replace hf := ifp c5 hf
        exact hK2 _ _ _ _ (B79 y_this_at y_this_value hf) _ _ _ h (lv_sub hl [0] rfl)
      · replace hf := ifn c5 hf
        refine lv_aload_n hx hb dX9_readsNumber_23 rfl (lv_at hl 0 rfl) ?_
        refine lv_aload_n hx hb dX9_readsNumber_24 rfl (lv_at hl 0 rfl) ?_
        refine r_get C h fk_X9_131 0 rfl rfl dX9_readsNumber_25 ?_
        refine lv_aload_n hx hb dX9_readsNumber_28 rfl (lv_at hl 0 rfl) ?_
        refine r_get C h fk_X9_134 0 rfl rfl dX9_readsNumber_29 ?_
        refine lv_isub hx hb dX9_readsNumber_32 ?_
        refine lv_iconst (v := (4 : Int32)) hx hb dX9_readsNumber_33 rfl ?_
        refine lv_icmp_ge (tgt := 59) hx hb dX9_readsNumber_34 rfl (fun c7 => ?_) (fun c7 => ?_)
        · replace hf := ifp c7 hf
          refine lv_aload_n hx hb dX9_readsNumber_59 rfl (lv_at hl 0 rfl) ?_
          refine r_get C h fk_X9_146 0 rfl rfl dX9_readsNumber_60 ?_
          exact hK2 _ _ _ _ (B63 _ ih y_this_value y_this_at y_this_value hf) _ _ _ h (lv_sub hl [0] rfl)
        · replace hf := ifn c7 hf
          refine lv_bipush (v := (10 : Int32)) hx hb dX9_readsNumber_37 rfl ?_
          refine lv_aload_n hx hb dX9_readsNumber_39 rfl (lv_at hl 0 rfl) ?_
          refine r_get C h fk_X9_146 0 rfl rfl dX9_readsNumber_40 ?_
          refine lv_imul hx hb dX9_readsNumber_43 ?_
          refine lv_aload_n hx hb dX9_readsNumber_44 rfl (lv_at hl 0 rfl) ?_
          refine lv_aload_n hx hb dX9_readsNumber_45 rfl (lv_at hl 0 rfl) ?_
          refine r_get C h fk_X9_131 0 rfl rfl dX9_readsNumber_46 ?_
          replace hf := bd1_inv hf
          obtain ⟨r9, hc10, hf⟩ := hf
          refine r_ciV0 C h (c_X9_byteAt hc10) mv_X9_137 rfl 0 rfl [0, 1] rfl rfl hl.1 rfl (Nat.le_of_ble_eq_true rfl) (rok (by decide)) dX9_readsNumber_49 (fun H locs h => ?_)
          refine lv_iadd hx hb dX9_readsNumber_52 ?_
          refine lv_bipush (v := (48 : Int32)) hx hb dX9_readsNumber_53 rfl ?_
          refine lv_isub hx hb dX9_readsNumber_55 ?_
          refine lv_goto (tgt := 63) hx hb dX9_readsNumber_56 rfl ?_
          exact hK2 _ _ _ _ (B63 _ ih ((((10 : Int32) * y_this_value) + r9) - (48 : Int32)) y_this_at y_this_value hf) _ _ _ h (lv_sub hl [0] rfl)
  refine lv_aload_n hx hb dX9_readsNumber_0 rfl (lv_at hl 0 rfl) ?_
  refine lv_iconst (v := (0 : Int32)) hx hb dX9_readsNumber_1 rfl ?_
  refine r_put (ws' := [(h_this, ob 9 [.ref h_this_s, .ref h_this_kept, .ref h_this_laid, .int x_this_isKept, .ref h_this_pile, .ref h_this_tape, .int x_this_taped, .ref h_this_letters, .int x_this_at, .int x_this_begun, .int x_this_token, .int (0 : Int32), .int x_this_opened, .int x_this_steps, .ref h_this_code0, .ref h_this_read, .ref h_this_saved, .ref h_this_plan, .ref h_this_bestPlan, .int x_this_most, .int x_this_many, .int x_this_few, .int x_this_everHome, .ref h_this_offThen, .ref h_this_paidThen, .int x_this_firstFit, .ref h_this_rows, .int x_this_rowMany, .ref h_this_sorts, .ref h_this_sizes, .ref h_this_number, .ref h_this_holds, .ref h_this_heldOne, .ref h_this_trace, .int x_this_traced, .int x_this_own, .int x_this_isParted]), (h_this_tape, ia G 200 f_this_tape)]) C h fw_X9_146 0 rfl rfl rfl (Nat.le_of_ble_eq_true rfl) dX9_readsNumber_2 rfl (fun H locs h => ?_)
  exact hK2 _ _ _ _ (L5 1000 x_this_at (0 : Int32) hf) _ _ _ h (lv_sub hl [0] rfl)
set_option maxRecDepth 100000 in
set_option maxHeartbeats 4000000 in
theorem c_X9_next {l : Launch} {G : Gt} {h_this h_this_s h_this_kept h_this_laid h_this_pile h_this_tape h_this_letters h_this_code0 h_this_read h_this_saved h_this_plan h_this_bestPlan h_this_offThen h_this_paidThen h_this_rows h_this_sorts h_this_sizes h_this_number h_this_holds h_this_heldOne h_this_trace : Nat} {x_this_isKept : Int32} {x_this_taped : Int32} {x_this_at : Int32} {x_this_begun : Int32} {x_this_token : Int32} {x_this_value : Int32} {x_this_opened : Int32} {x_this_steps : Int32} {x_this_most : Int32} {x_this_many : Int32} {x_this_few : Int32} {x_this_everHome : Int32} {x_this_firstFit : Int32} {x_this_rowMany : Int32} {x_this_traced : Int32} {x_this_own : Int32} {x_this_isParted : Int32} {f_this_letters : Nat → Int32} {f_this_tape : Nat → Int32} {m_this_at : Int32} {m_this_begun : Int32} {m_this_token : Int32} {m_this_value : Int32} (hf : f_X9_next x_this_taped x_this_at x_this_value f_this_letters f_this_tape = some (m_this_at, m_this_begun, m_this_token, m_this_value)) : mFv l G yX9_next cX9_next 2 3 [.ref h_this] [(h_this, ob 9 [.ref h_this_s, .ref h_this_kept, .ref h_this_laid, .int x_this_isKept, .ref h_this_pile, .ref h_this_tape, .int x_this_taped, .ref h_this_letters, .int x_this_at, .int x_this_begun, .int x_this_token, .int x_this_value, .int x_this_opened, .int x_this_steps, .ref h_this_code0, .ref h_this_read, .ref h_this_saved, .ref h_this_plan, .ref h_this_bestPlan, .int x_this_most, .int x_this_many, .int x_this_few, .int x_this_everHome, .ref h_this_offThen, .ref h_this_paidThen, .int x_this_firstFit, .ref h_this_rows, .int x_this_rowMany, .ref h_this_sorts, .ref h_this_sizes, .ref h_this_number, .ref h_this_holds, .ref h_this_heldOne, .ref h_this_trace, .int x_this_traced, .int x_this_own, .int x_this_isParted]), (h_this_letters, ca G 144 f_this_letters), (h_this_tape, ia G 200 f_this_tape)] [(h_this, ob 9 [.ref h_this_s, .ref h_this_kept, .ref h_this_laid, .int x_this_isKept, .ref h_this_pile, .ref h_this_tape, .int x_this_taped, .ref h_this_letters, .int m_this_at, .int m_this_begun, .int m_this_token, .int m_this_value, .int x_this_opened, .int x_this_steps, .ref h_this_code0, .ref h_this_read, .ref h_this_saved, .ref h_this_plan, .ref h_this_bestPlan, .int x_this_most, .int x_this_many, .int x_this_few, .int x_this_everHome, .ref h_this_offThen, .ref h_this_paidThen, .int x_this_firstFit, .ref h_this_rows, .int x_this_rowMany, .ref h_this_sorts, .ref h_this_sizes, .ref h_this_number, .ref h_this_holds, .ref h_this_heldOne, .ref h_this_trace, .int x_this_traced, .int x_this_own, .int x_this_isParted]), (h_this_letters, ca G 144 f_this_letters), (h_this_tape, ia G 200 f_this_tape)] := by
  refine mFv.of (by decide +kernel) (Nat.le_of_ble_eq_true rfl) ?_
  intro p e s m below meth c A C hr hlk h ls hl
  obtain ⟨hx, hb, hml, hown, hts⟩ := id C
  replace hl : lv_has ls 2 [(0, .ref h_this)] := hl
  unfold f_X9_next at hf
  refine with_K G A 2 (fun K hK1 hK2 => ?_)
  have B26 : ∀ (y_this_at : Int32), f_X9_next_b26 x_this_taped x_this_value f_this_letters f_this_tape y_this_at = some (m_this_at, m_this_begun, m_this_token, m_this_value) → K 26 ([] : List Value) [(h_this, ob 9 [.ref h_this_s, .ref h_this_kept, .ref h_this_laid, .int x_this_isKept, .ref h_this_pile, .ref h_this_tape, .int x_this_taped, .ref h_this_letters, .int y_this_at, .int x_this_begun, .int x_this_token, .int x_this_value, .int x_this_opened, .int x_this_steps, .ref h_this_code0, .ref h_this_read, .ref h_this_saved, .ref h_this_plan, .ref h_this_bestPlan, .int x_this_most, .int x_this_many, .int x_this_few, .int x_this_everHome, .ref h_this_offThen, .ref h_this_paidThen, .int x_this_firstFit, .ref h_this_rows, .int x_this_rowMany, .ref h_this_sorts, .ref h_this_sizes, .ref h_this_number, .ref h_this_holds, .ref h_this_heldOne, .ref h_this_trace, .int x_this_traced, .int x_this_own, .int x_this_isParted]), (h_this_letters, ca G 144 f_this_letters), (h_this_tape, ia G 200 f_this_tape)] [(0, .ref h_this)] := by
    intro y_this_at hf
    unfold f_X9_next_b26 at hf
    refine hK1 _ _ _ _ (fun H locs ls h hl => ?_)
    refine lv_aload_n hx hb dX9_next_26 rfl (lv_at hl 0 rfl) ?_
    refine lv_aload_n hx hb dX9_next_27 rfl (lv_at hl 0 rfl) ?_
    refine r_get C h fk_X9_131 0 rfl rfl dX9_next_28 ?_
    refine r_put (ws' := [(h_this, ob 9 [.ref h_this_s, .ref h_this_kept, .ref h_this_laid, .int x_this_isKept, .ref h_this_pile, .ref h_this_tape, .int x_this_taped, .ref h_this_letters, .int y_this_at, .int y_this_at, .int x_this_token, .int x_this_value, .int x_this_opened, .int x_this_steps, .ref h_this_code0, .ref h_this_read, .ref h_this_saved, .ref h_this_plan, .ref h_this_bestPlan, .int x_this_most, .int x_this_many, .int x_this_few, .int x_this_everHome, .ref h_this_offThen, .ref h_this_paidThen, .int x_this_firstFit, .ref h_this_rows, .int x_this_rowMany, .ref h_this_sorts, .ref h_this_sizes, .ref h_this_number, .ref h_this_holds, .ref h_this_heldOne, .ref h_this_trace, .int x_this_traced, .int x_this_own, .int x_this_isParted]), (h_this_letters, ca G 144 f_this_letters), (h_this_tape, ia G 200 f_this_tape)]) C h fw_X9_134 0 rfl rfl rfl (Nat.le_of_ble_eq_true rfl) dX9_next_31 rfl (fun H locs h => ?_)
    refine lv_aload_n hx hb dX9_next_34 rfl (lv_at hl 0 rfl) ?_
    refine lv_aload_n hx hb dX9_next_35 rfl (lv_at hl 0 rfl) ?_
    refine r_get C h fk_X9_131 0 rfl rfl dX9_next_36 ?_
    replace hf := bd1_inv hf
    obtain ⟨r4, hc5, hf⟩ := hf
    refine r_ciV0 C h (c_X9_byteAt hc5) mv_X9_137 rfl 0 rfl [0, 2] rfl rfl hl.1 rfl (Nat.le_of_ble_eq_true rfl) (rok (by decide)) dX9_next_39 (fun H locs h => ?_)
    refine lv_istore_n (lv' := [(1, .int r4), (0, .ref h_this)]) hx hb dX9_next_42 rfl hl (by decide) rfl (fun ls hl => ?_)
    refine lv_iload_n hx hb dX9_next_43 rfl (lv_at hl 0 rfl) ?_
    refine lv_if_ge (tgt := 55) hx hb dX9_next_44 rfl (fun c6 => ?_) (fun c6 => ?_)
    · replace hf := ifp c6 hf
      refine lv_iload_n hx hb dX9_next_55 rfl (lv_at hl 0 rfl) ?_
      refine lv_bipush (v := (97 : Int32)) hx hb dX9_next_56 rfl ?_
      refine lv_bipush (v := (122 : Int32)) hx hb dX9_next_58 rfl ?_
      replace hf := bd1_inv hf
      obtain ⟨r7, hc8, hf⟩ := hf
      refine r_ciS0 C h (c_X9_in1 hc8) ms_X9_71 rfl [] rfl rfl hl.1 rfl (Nat.le_of_ble_eq_true rfl) (rok (by decide)) dX9_next_60 (fun H locs h => ?_)
      refine lv_if_eq (tgt := 73) hx hb dX9_next_63 rfl (fun c9 => ?_) (fun c9 => ?_)
      · replace hf := ifp c9 hf
        refine lv_iload_n hx hb dX9_next_73 rfl (lv_at hl 0 rfl) ?_
        refine lv_bipush (v := (48 : Int32)) hx hb dX9_next_74 rfl ?_
        refine lv_bipush (v := (57 : Int32)) hx hb dX9_next_76 rfl ?_
        replace hf := bd1_inv hf
        obtain ⟨r10, hc11, hf⟩ := hf
        refine r_ciS0 C h (c_X9_in1 hc11) ms_X9_71 rfl [] rfl rfl hl.1 rfl (Nat.le_of_ble_eq_true rfl) (rok (by decide)) dX9_next_78 (fun H locs h => ?_)
        refine lv_if_eq (tgt := 91) hx hb dX9_next_81 rfl (fun c12 => ?_) (fun c12 => ?_)
        · replace hf := ifp c12 hf
          refine lv_aload_n hx hb dX9_next_91 rfl (lv_at hl 1 rfl) ?_
          refine lv_sipush (v := (200 : Int32)) hx hb dX9_next_92 rfl ?_
          refine lv_iload_n hx hb dX9_next_95 rfl (lv_at hl 0 rfl) ?_
          refine lv_iadd hx hb dX9_next_96 ?_
          refine lv_topi (fun t13 et13 => ?_)
          replace hf := lt1_inv et13 hf
          refine r_put (ws' := [(h_this, ob 9 [.ref h_this_s, .ref h_this_kept, .ref h_this_laid, .int x_this_isKept, .ref h_this_pile, .ref h_this_tape, .int x_this_taped, .ref h_this_letters, .int y_this_at, .int y_this_at, .int t13, .int x_this_value, .int x_this_opened, .int x_this_steps, .ref h_this_code0, .ref h_this_read, .ref h_this_saved, .ref h_this_plan, .ref h_this_bestPlan, .int x_this_most, .int x_this_many, .int x_this_few, .int x_this_everHome, .ref h_this_offThen, .ref h_this_paidThen, .int x_this_firstFit, .ref h_this_rows, .int x_this_rowMany, .ref h_this_sorts, .ref h_this_sizes, .ref h_this_number, .ref h_this_holds, .ref h_this_heldOne, .ref h_this_trace, .int x_this_traced, .int x_this_own, .int x_this_isParted]), (h_this_letters, ca G 144 f_this_letters), (h_this_tape, ia G 200 f_this_tape)]) C h fw_X9_140 0 rfl rfl rfl (Nat.le_of_ble_eq_true rfl) dX9_next_97 rfl (fun H locs h => ?_)
          refine lv_aload_n hx hb dX9_next_100 rfl (lv_at hl 1 rfl) ?_
          refine lv_dup hx hb dX9_next_101 rfl ?_
          refine r_get C h fk_X9_131 0 rfl rfl dX9_next_102 ?_
          refine lv_iconst (v := (1 : Int32)) hx hb dX9_next_105 rfl ?_
          refine lv_iadd hx hb dX9_next_106 ?_
          refine lv_topi (fun t14 et14 => ?_)
          replace hf := lt1_inv et14 hf
          refine r_put (ws' := [(h_this, ob 9 [.ref h_this_s, .ref h_this_kept, .ref h_this_laid, .int x_this_isKept, .ref h_this_pile, .ref h_this_tape, .int x_this_taped, .ref h_this_letters, .int t14, .int y_this_at, .int t13, .int x_this_value, .int x_this_opened, .int x_this_steps, .ref h_this_code0, .ref h_this_read, .ref h_this_saved, .ref h_this_plan, .ref h_this_bestPlan, .int x_this_most, .int x_this_many, .int x_this_few, .int x_this_everHome, .ref h_this_offThen, .ref h_this_paidThen, .int x_this_firstFit, .ref h_this_rows, .int x_this_rowMany, .ref h_this_sorts, .ref h_this_sizes, .ref h_this_number, .ref h_this_holds, .ref h_this_heldOne, .ref h_this_trace, .int x_this_traced, .int x_this_own, .int x_this_isParted]), (h_this_letters, ca G 144 f_this_letters), (h_this_tape, ia G 200 f_this_tape)]) C h fw_X9_131 0 rfl rfl rfl (Nat.le_of_ble_eq_true rfl) dX9_next_107 rfl (fun H locs h => ?_)
          cases hf
          exact r_vret C h hr hlk dX9_next_110
        · replace hf := ifn c12 hf
          refine lv_aload_n hx hb dX9_next_84 rfl (lv_at hl 1 rfl) ?_
          replace hf := bd3_inv hf
          obtain ⟨y15, y16, y17, hc18, hf⟩ := hf
          refine r_cvV (ws' := [(h_this, ob 9 [.ref h_this_s, .ref h_this_kept, .ref h_this_laid, .int x_this_isKept, .ref h_this_pile, .ref h_this_tape, .int x_this_taped, .ref h_this_letters, .int y15, .int y_this_at, .int y16, .int y17, .int x_this_opened, .int x_this_steps, .ref h_this_code0, .ref h_this_read, .ref h_this_saved, .ref h_this_plan, .ref h_this_bestPlan, .int x_this_most, .int x_this_many, .int x_this_few, .int x_this_everHome, .ref h_this_offThen, .ref h_this_paidThen, .int x_this_firstFit, .ref h_this_rows, .int x_this_rowMany, .ref h_this_sorts, .ref h_this_sizes, .ref h_this_number, .ref h_this_holds, .ref h_this_heldOne, .ref h_this_trace, .int x_this_traced, .int x_this_own, .int x_this_isParted]), (h_this_letters, ca G 144 f_this_letters), (h_this_tape, ia G 200 f_this_tape)]) C h (c_X9_readsNumber hc18) mv_X9_152 rfl 0 rfl [0, 2] rfl rfl [0] [(h_this, ob 9 [.ref h_this_s, .ref h_this_kept, .ref h_this_laid, .int x_this_isKept, .ref h_this_pile, .ref h_this_tape, .int x_this_taped, .ref h_this_letters, .int y15, .int y_this_at, .int y16, .int y17, .int x_this_opened, .int x_this_steps, .ref h_this_code0, .ref h_this_read, .ref h_this_saved, .ref h_this_plan, .ref h_this_bestPlan, .int x_this_most, .int x_this_many, .int x_this_few, .int x_this_everHome, .ref h_this_offThen, .ref h_this_paidThen, .int x_this_firstFit, .ref h_this_rows, .int x_this_rowMany, .ref h_this_sorts, .ref h_this_sizes, .ref h_this_number, .ref h_this_holds, .ref h_this_heldOne, .ref h_this_trace, .int x_this_traced, .int x_this_own, .int x_this_isParted])] rfl rfl (by decide +kernel) rfl hl.1 rfl (Nat.le_of_ble_eq_true rfl) (rok (by decide)) dX9_next_85 (fun H locs h => ?_)
          refine lv_goto (tgt := 110) hx hb dX9_next_88 rfl ?_
          cases hf
          exact r_vret C h hr hlk dX9_next_110
      · replace hf := ifn c9 hf
        refine lv_aload_n hx hb dX9_next_66 rfl (lv_at hl 1 rfl) ?_
        replace hf := bd2_inv hf
        obtain ⟨y19, y20, hc21, hf⟩ := hf
        refine r_cvV (ws' := [(h_this, ob 9 [.ref h_this_s, .ref h_this_kept, .ref h_this_laid, .int x_this_isKept, .ref h_this_pile, .ref h_this_tape, .int x_this_taped, .ref h_this_letters, .int y19, .int y_this_at, .int y20, .int x_this_value, .int x_this_opened, .int x_this_steps, .ref h_this_code0, .ref h_this_read, .ref h_this_saved, .ref h_this_plan, .ref h_this_bestPlan, .int x_this_most, .int x_this_many, .int x_this_few, .int x_this_everHome, .ref h_this_offThen, .ref h_this_paidThen, .int x_this_firstFit, .ref h_this_rows, .int x_this_rowMany, .ref h_this_sorts, .ref h_this_sizes, .ref h_this_number, .ref h_this_holds, .ref h_this_heldOne, .ref h_this_trace, .int x_this_traced, .int x_this_own, .int x_this_isParted]), (h_this_letters, ca G 144 f_this_letters), (h_this_tape, ia G 200 f_this_tape)]) C h (c_X9_readsName hc21) mv_X9_149 rfl 0 rfl [0, 1, 2] rfl rfl [0] [(h_this, ob 9 [.ref h_this_s, .ref h_this_kept, .ref h_this_laid, .int x_this_isKept, .ref h_this_pile, .ref h_this_tape, .int x_this_taped, .ref h_this_letters, .int y19, .int y_this_at, .int y20, .int x_this_value, .int x_this_opened, .int x_this_steps, .ref h_this_code0, .ref h_this_read, .ref h_this_saved, .ref h_this_plan, .ref h_this_bestPlan, .int x_this_most, .int x_this_many, .int x_this_few, .int x_this_everHome, .ref h_this_offThen, .ref h_this_paidThen, .int x_this_firstFit, .ref h_this_rows, .int x_this_rowMany, .ref h_this_sorts, .ref h_this_sizes, .ref h_this_number, .ref h_this_holds, .ref h_this_heldOne, .ref h_this_trace, .int x_this_traced, .int x_this_own, .int x_this_isParted])] rfl rfl (by decide +kernel) rfl hl.1 rfl (Nat.le_of_ble_eq_true rfl) (rok (by decide)) dX9_next_67 (fun H locs h => ?_)
        refine lv_goto (tgt := 110) hx hb dX9_next_70 rfl ?_
        cases hf
        exact r_vret C h hr hlk dX9_next_110
    · replace hf := ifn c6 hf
      refine lv_aload_n hx hb dX9_next_47 rfl (lv_at hl 1 rfl) ?_
      refine lv_iconst (v := (-1 : Int32)) hx hb dX9_next_48 rfl ?_
      refine r_put (ws' := [(h_this, ob 9 [.ref h_this_s, .ref h_this_kept, .ref h_this_laid, .int x_this_isKept, .ref h_this_pile, .ref h_this_tape, .int x_this_taped, .ref h_this_letters, .int y_this_at, .int y_this_at, .int (-1 : Int32), .int x_this_value, .int x_this_opened, .int x_this_steps, .ref h_this_code0, .ref h_this_read, .ref h_this_saved, .ref h_this_plan, .ref h_this_bestPlan, .int x_this_most, .int x_this_many, .int x_this_few, .int x_this_everHome, .ref h_this_offThen, .ref h_this_paidThen, .int x_this_firstFit, .ref h_this_rows, .int x_this_rowMany, .ref h_this_sorts, .ref h_this_sizes, .ref h_this_number, .ref h_this_holds, .ref h_this_heldOne, .ref h_this_trace, .int x_this_traced, .int x_this_own, .int x_this_isParted]), (h_this_letters, ca G 144 f_this_letters), (h_this_tape, ia G 200 f_this_tape)]) C h fw_X9_140 0 rfl rfl rfl (Nat.le_of_ble_eq_true rfl) dX9_next_49 rfl (fun H locs h => ?_)
      refine lv_goto (tgt := 110) hx hb dX9_next_52 rfl ?_
      cases hf
      exact r_vret C h hr hlk dX9_next_110
  have L0 : ∀ (n : Nat) (y_this_at : Int32), f_X9_next_L0 x_this_taped x_this_value f_this_letters f_this_tape n y_this_at = some (m_this_at, m_this_begun, m_this_token, m_this_value) → K 0 ([] : List Value) [(h_this, ob 9 [.ref h_this_s, .ref h_this_kept, .ref h_this_laid, .int x_this_isKept, .ref h_this_pile, .ref h_this_tape, .int x_this_taped, .ref h_this_letters, .int y_this_at, .int x_this_begun, .int x_this_token, .int x_this_value, .int x_this_opened, .int x_this_steps, .ref h_this_code0, .ref h_this_read, .ref h_this_saved, .ref h_this_plan, .ref h_this_bestPlan, .int x_this_most, .int x_this_many, .int x_this_few, .int x_this_everHome, .ref h_this_offThen, .ref h_this_paidThen, .int x_this_firstFit, .ref h_this_rows, .int x_this_rowMany, .ref h_this_sorts, .ref h_this_sizes, .ref h_this_number, .ref h_this_holds, .ref h_this_heldOne, .ref h_this_trace, .int x_this_traced, .int x_this_own, .int x_this_isParted]), (h_this_letters, ca G 144 f_this_letters), (h_this_tape, ia G 200 f_this_tape)] [(0, .ref h_this)] := by
    intro n
    induction n with
    | zero =>
      intro y_this_at hf
      replace hf : (none : Option _) = some _ := hf
      cases hf
    | succ n ih =>
      intro y_this_at hf
      rw [f_X9_next_L0] at hf
      refine hK1 _ _ _ _ (fun H locs ls h hl => ?_)
      refine lv_aload_n hx hb dX9_next_0 rfl (lv_at hl 0 rfl) ?_
      refine lv_aload_n hx hb dX9_next_1 rfl (lv_at hl 0 rfl) ?_
      refine r_get C h fk_X9_131 0 rfl rfl dX9_next_2 ?_
      replace hf := bd1_inv hf
      obtain ⟨r1, hc2, hf⟩ := hf
      refine r_ciV0 C h (c_X9_byteAt hc2) mv_X9_137 rfl 0 rfl [0, 2] rfl rfl hl.1 rfl (Nat.le_of_ble_eq_true rfl) (rok (by decide)) dX9_next_5 (fun H locs h => ?_)
      refine lv_bipush (v := (32 : Int32)) hx hb dX9_next_8 rfl ?_
      refine lv_icmp_ne (tgt := 26) hx hb dX9_next_10 rfl (fun c3 => ?_) (fun c3 => ?_)
      · replace hf := ifn c3 hf
        exact hK2 _ _ _ _ (B26 y_this_at hf) _ _ _ h (lv_sub hl [0] rfl)
      · replace hf := ifp c3 hf
        refine lv_aload_n hx hb dX9_next_13 rfl (lv_at hl 0 rfl) ?_
        refine lv_dup hx hb dX9_next_14 rfl ?_
        refine r_get C h fk_X9_131 0 rfl rfl dX9_next_15 ?_
        refine lv_iconst (v := (1 : Int32)) hx hb dX9_next_18 rfl ?_
        refine lv_iadd hx hb dX9_next_19 ?_
        refine lv_topi (fun t22 et22 => ?_)
        replace hf := lt1_inv et22 hf
        refine r_put (ws' := [(h_this, ob 9 [.ref h_this_s, .ref h_this_kept, .ref h_this_laid, .int x_this_isKept, .ref h_this_pile, .ref h_this_tape, .int x_this_taped, .ref h_this_letters, .int t22, .int x_this_begun, .int x_this_token, .int x_this_value, .int x_this_opened, .int x_this_steps, .ref h_this_code0, .ref h_this_read, .ref h_this_saved, .ref h_this_plan, .ref h_this_bestPlan, .int x_this_most, .int x_this_many, .int x_this_few, .int x_this_everHome, .ref h_this_offThen, .ref h_this_paidThen, .int x_this_firstFit, .ref h_this_rows, .int x_this_rowMany, .ref h_this_sorts, .ref h_this_sizes, .ref h_this_number, .ref h_this_holds, .ref h_this_heldOne, .ref h_this_trace, .int x_this_traced, .int x_this_own, .int x_this_isParted]), (h_this_letters, ca G 144 f_this_letters), (h_this_tape, ia G 200 f_this_tape)]) C h fw_X9_131 0 rfl rfl rfl (Nat.le_of_ble_eq_true rfl) dX9_next_20 rfl (fun H locs h => ?_)
        refine lv_goto (tgt := 0) hx hb dX9_next_23 rfl ?_
        exact hK2 _ _ _ _ (ih t22 hf) _ _ _ h (lv_sub hl [0] rfl)
  exact hK2 _ _ _ _ (L0 1000 x_this_at hf) _ _ _ h (lv_sub hl [0] rfl)
set_option maxRecDepth 100000 in
set_option maxHeartbeats 4000000 in
theorem c_X9_takes {l : Launch} {G : Gt} {h_this h_this_s h_this_kept h_this_laid h_this_pile h_this_tape h_this_letters h_this_code0 h_this_read h_this_saved h_this_plan h_this_bestPlan h_this_offThen h_this_paidThen h_this_rows h_this_sorts h_this_sizes h_this_number h_this_holds h_this_heldOne h_this_trace : Nat} {p0 : Int32} {x_this_isKept : Int32} {x_this_taped : Int32} {x_this_at : Int32} {x_this_begun : Int32} {x_this_token : Int32} {x_this_value : Int32} {x_this_opened : Int32} {x_this_steps : Int32} {x_this_most : Int32} {x_this_many : Int32} {x_this_few : Int32} {x_this_everHome : Int32} {x_this_firstFit : Int32} {x_this_rowMany : Int32} {x_this_traced : Int32} {x_this_own : Int32} {x_this_isParted : Int32} {f_this_letters : Nat → Int32} {f_this_tape : Nat → Int32} {r : Int32} {m_this_at : Int32} {m_this_begun : Int32} {m_this_token : Int32} {m_this_value : Int32} (hf : f_X9_takes p0 x_this_taped x_this_at x_this_begun x_this_token x_this_value f_this_letters f_this_tape = some (r, m_this_at, m_this_begun, m_this_token, m_this_value)) : mFi l G yX9_takes cX9_takes 3 .boolean 4 [.ref h_this, .int p0] [(h_this, ob 9 [.ref h_this_s, .ref h_this_kept, .ref h_this_laid, .int x_this_isKept, .ref h_this_pile, .ref h_this_tape, .int x_this_taped, .ref h_this_letters, .int x_this_at, .int x_this_begun, .int x_this_token, .int x_this_value, .int x_this_opened, .int x_this_steps, .ref h_this_code0, .ref h_this_read, .ref h_this_saved, .ref h_this_plan, .ref h_this_bestPlan, .int x_this_most, .int x_this_many, .int x_this_few, .int x_this_everHome, .ref h_this_offThen, .ref h_this_paidThen, .int x_this_firstFit, .ref h_this_rows, .int x_this_rowMany, .ref h_this_sorts, .ref h_this_sizes, .ref h_this_number, .ref h_this_holds, .ref h_this_heldOne, .ref h_this_trace, .int x_this_traced, .int x_this_own, .int x_this_isParted]), (h_this_letters, ca G 144 f_this_letters), (h_this_tape, ia G 200 f_this_tape)] r [(h_this, ob 9 [.ref h_this_s, .ref h_this_kept, .ref h_this_laid, .int x_this_isKept, .ref h_this_pile, .ref h_this_tape, .int x_this_taped, .ref h_this_letters, .int m_this_at, .int m_this_begun, .int m_this_token, .int m_this_value, .int x_this_opened, .int x_this_steps, .ref h_this_code0, .ref h_this_read, .ref h_this_saved, .ref h_this_plan, .ref h_this_bestPlan, .int x_this_most, .int x_this_many, .int x_this_few, .int x_this_everHome, .ref h_this_offThen, .ref h_this_paidThen, .int x_this_firstFit, .ref h_this_rows, .int x_this_rowMany, .ref h_this_sorts, .ref h_this_sizes, .ref h_this_number, .ref h_this_holds, .ref h_this_heldOne, .ref h_this_trace, .int x_this_traced, .int x_this_own, .int x_this_isParted]), (h_this_letters, ca G 144 f_this_letters), (h_this_tape, ia G 200 f_this_tape)] := by
  refine mFi.of (by decide +kernel) (Nat.le_of_ble_eq_true rfl) ?_
  intro p e s m below meth c A C hr hlk h ls hl
  obtain ⟨hx, hb, hml, hown, hts⟩ := id C
  replace hl : lv_has ls 3 [(0, .ref h_this), (1, .int p0)] := hl
  unfold f_X9_takes at hf
  refine with_K G A 3 (fun K hK1 hK2 => ?_)
  have B13 : ∀ (s0 : Int32), f_X9_takes_b13 x_this_taped x_this_at x_this_begun x_this_token x_this_value f_this_letters f_this_tape s0 = some (r, m_this_at, m_this_begun, m_this_token, m_this_value) → K 13 [.int s0] [(h_this, ob 9 [.ref h_this_s, .ref h_this_kept, .ref h_this_laid, .int x_this_isKept, .ref h_this_pile, .ref h_this_tape, .int x_this_taped, .ref h_this_letters, .int x_this_at, .int x_this_begun, .int x_this_token, .int x_this_value, .int x_this_opened, .int x_this_steps, .ref h_this_code0, .ref h_this_read, .ref h_this_saved, .ref h_this_plan, .ref h_this_bestPlan, .int x_this_most, .int x_this_many, .int x_this_few, .int x_this_everHome, .ref h_this_offThen, .ref h_this_paidThen, .int x_this_firstFit, .ref h_this_rows, .int x_this_rowMany, .ref h_this_sorts, .ref h_this_sizes, .ref h_this_number, .ref h_this_holds, .ref h_this_heldOne, .ref h_this_trace, .int x_this_traced, .int x_this_own, .int x_this_isParted]), (h_this_letters, ca G 144 f_this_letters), (h_this_tape, ia G 200 f_this_tape)] [(0, .ref h_this)] := by
    intro s0 hf
    unfold f_X9_takes_b13 at hf
    refine hK1 _ _ _ _ (fun H locs ls h hl => ?_)
    refine lv_istore_n (lv' := [(2, .int s0), (0, .ref h_this)]) hx hb dX9_takes_13 rfl hl (by decide) rfl (fun ls hl => ?_)
    refine lv_iload_n hx hb dX9_takes_14 rfl (lv_at hl 0 rfl) ?_
    refine lv_if_eq (tgt := 22) hx hb dX9_takes_15 rfl (fun c2 => ?_) (fun c2 => ?_)
    · replace hf := ifp c2 hf
      refine lv_iload_n hx hb dX9_takes_22 rfl (lv_at hl 0 rfl) ?_
      replace hf := chkB_inv hf
      obtain ⟨hb3, hf⟩ := hf
      cases hf
      exact r_iret C h hr hlk hb3 dX9_takes_23
    · replace hf := ifn c2 hf
      refine lv_aload_n hx hb dX9_takes_18 rfl (lv_at hl 1 rfl) ?_
      replace hf := bd4_inv hf
      obtain ⟨y4, y5, y6, y7, hc8, hf⟩ := hf
      refine r_cvV (ws' := [(h_this, ob 9 [.ref h_this_s, .ref h_this_kept, .ref h_this_laid, .int x_this_isKept, .ref h_this_pile, .ref h_this_tape, .int x_this_taped, .ref h_this_letters, .int y4, .int y5, .int y6, .int y7, .int x_this_opened, .int x_this_steps, .ref h_this_code0, .ref h_this_read, .ref h_this_saved, .ref h_this_plan, .ref h_this_bestPlan, .int x_this_most, .int x_this_many, .int x_this_few, .int x_this_everHome, .ref h_this_offThen, .ref h_this_paidThen, .int x_this_firstFit, .ref h_this_rows, .int x_this_rowMany, .ref h_this_sorts, .ref h_this_sizes, .ref h_this_number, .ref h_this_holds, .ref h_this_heldOne, .ref h_this_trace, .int x_this_traced, .int x_this_own, .int x_this_isParted]), (h_this_letters, ca G 144 f_this_letters), (h_this_tape, ia G 200 f_this_tape)]) C h (c_X9_next hc8) mv_X9_155 rfl 0 rfl [0, 1, 2] rfl rfl [0] [(h_this, ob 9 [.ref h_this_s, .ref h_this_kept, .ref h_this_laid, .int x_this_isKept, .ref h_this_pile, .ref h_this_tape, .int x_this_taped, .ref h_this_letters, .int y4, .int y5, .int y6, .int y7, .int x_this_opened, .int x_this_steps, .ref h_this_code0, .ref h_this_read, .ref h_this_saved, .ref h_this_plan, .ref h_this_bestPlan, .int x_this_most, .int x_this_many, .int x_this_few, .int x_this_everHome, .ref h_this_offThen, .ref h_this_paidThen, .int x_this_firstFit, .ref h_this_rows, .int x_this_rowMany, .ref h_this_sorts, .ref h_this_sizes, .ref h_this_number, .ref h_this_holds, .ref h_this_heldOne, .ref h_this_trace, .int x_this_traced, .int x_this_own, .int x_this_isParted])] rfl rfl (by decide +kernel) rfl hl.1 rfl (Nat.le_of_ble_eq_true rfl) (rok (by decide)) dX9_takes_19 (fun H locs h => ?_)
      refine lv_iload_n hx hb dX9_takes_22 rfl (lv_at hl 0 rfl) ?_
      replace hf := chkB_inv hf
      obtain ⟨hb9, hf⟩ := hf
      cases hf
      exact r_iret C h hr hlk hb9 dX9_takes_23
  refine lv_aload_n hx hb dX9_takes_0 rfl (lv_at hl 0 rfl) ?_
  refine r_get C h fk_X9_140 0 rfl rfl dX9_takes_1 ?_
  refine lv_iload_n hx hb dX9_takes_4 rfl (lv_at hl 1 rfl) ?_
  refine lv_icmp_ne (tgt := 12) hx hb dX9_takes_5 rfl (fun c1 => ?_) (fun c1 => ?_)
  · replace hf := ifn c1 hf
    refine lv_iconst (v := (0 : Int32)) hx hb dX9_takes_12 rfl ?_
    exact hK2 _ _ _ _ (B13 (0 : Int32) hf) _ _ _ h (lv_sub hl [0] rfl)
  · replace hf := ifp c1 hf
    refine lv_iconst (v := (1 : Int32)) hx hb dX9_takes_8 rfl ?_
    refine lv_goto (tgt := 13) hx hb dX9_takes_9 rfl ?_
    exact hK2 _ _ _ _ (B13 (1 : Int32) hf) _ _ _ h (lv_sub hl [0] rfl)
set_option maxRecDepth 100000 in
set_option maxHeartbeats 4000000 in
theorem c_X9_lays {l : Launch} {G : Gt} {h_this h_this_s h_this_kept h_this_laid h_this_pile h_this_tape h_this_letters h_this_code0 h_this_read h_this_saved h_this_plan h_this_bestPlan h_this_offThen h_this_paidThen h_this_rows h_this_sorts h_this_sizes h_this_number h_this_holds h_this_heldOne h_this_trace : Nat} {p0 : Int32} {x_this_isKept : Int32} {x_this_taped : Int32} {x_this_at : Int32} {x_this_begun : Int32} {x_this_token : Int32} {x_this_value : Int32} {x_this_opened : Int32} {x_this_steps : Int32} {x_this_most : Int32} {x_this_many : Int32} {x_this_few : Int32} {x_this_everHome : Int32} {x_this_firstFit : Int32} {x_this_rowMany : Int32} {x_this_traced : Int32} {x_this_own : Int32} {x_this_isParted : Int32} {f_this_code0 : Nat → Int32} {m_this_steps : Int32} {m_this_code0 : Nat → Int32} (hf : f_X9_lays p0 x_this_steps f_this_code0 = some (m_this_steps, m_this_code0)) : mFv l G yX9_lays cX9_lays 2 0 [.ref h_this, .int p0] [(h_this, ob 9 [.ref h_this_s, .ref h_this_kept, .ref h_this_laid, .int x_this_isKept, .ref h_this_pile, .ref h_this_tape, .int x_this_taped, .ref h_this_letters, .int x_this_at, .int x_this_begun, .int x_this_token, .int x_this_value, .int x_this_opened, .int x_this_steps, .ref h_this_code0, .ref h_this_read, .ref h_this_saved, .ref h_this_plan, .ref h_this_bestPlan, .int x_this_most, .int x_this_many, .int x_this_few, .int x_this_everHome, .ref h_this_offThen, .ref h_this_paidThen, .int x_this_firstFit, .ref h_this_rows, .int x_this_rowMany, .ref h_this_sorts, .ref h_this_sizes, .ref h_this_number, .ref h_this_holds, .ref h_this_heldOne, .ref h_this_trace, .int x_this_traced, .int x_this_own, .int x_this_isParted]), (h_this_code0, ia G 200 f_this_code0)] [(h_this, ob 9 [.ref h_this_s, .ref h_this_kept, .ref h_this_laid, .int x_this_isKept, .ref h_this_pile, .ref h_this_tape, .int x_this_taped, .ref h_this_letters, .int x_this_at, .int x_this_begun, .int x_this_token, .int x_this_value, .int x_this_opened, .int m_this_steps, .ref h_this_code0, .ref h_this_read, .ref h_this_saved, .ref h_this_plan, .ref h_this_bestPlan, .int x_this_most, .int x_this_many, .int x_this_few, .int x_this_everHome, .ref h_this_offThen, .ref h_this_paidThen, .int x_this_firstFit, .ref h_this_rows, .int x_this_rowMany, .ref h_this_sorts, .ref h_this_sizes, .ref h_this_number, .ref h_this_holds, .ref h_this_heldOne, .ref h_this_trace, .int x_this_traced, .int x_this_own, .int x_this_isParted]), (h_this_code0, ia G 200 m_this_code0)] := by
  refine mFv.of (by decide +kernel) (Nat.le_of_ble_eq_true rfl) ?_
  intro p e s m below meth c A C hr hlk h ls hl
  obtain ⟨hx, hb, hml, hown, hts⟩ := id C
  replace hl : lv_has ls 2 [(0, .ref h_this), (1, .int p0)] := hl
  unfold f_X9_lays at hf
  refine lv_aload_n hx hb dX9_lays_0 rfl (lv_at hl 0 rfl) ?_
  refine r_get C h fk_X9_29 0 rfl rfl dX9_lays_1 ?_
  refine lv_aload_n hx hb dX9_lays_4 rfl (lv_at hl 0 rfl) ?_
  refine r_get C h fk_X9_158 0 rfl rfl dX9_lays_5 ?_
  refine lv_iload_n hx hb dX9_lays_8 rfl (lv_at hl 1 rfl) ?_
  replace hf := chkI_inv hf
  obtain ⟨hi1, hf⟩ := hf
  refine r_iast (ws' := [(h_this, ob 9 [.ref h_this_s, .ref h_this_kept, .ref h_this_laid, .int x_this_isKept, .ref h_this_pile, .ref h_this_tape, .int x_this_taped, .ref h_this_letters, .int x_this_at, .int x_this_begun, .int x_this_token, .int x_this_value, .int x_this_opened, .int x_this_steps, .ref h_this_code0, .ref h_this_read, .ref h_this_saved, .ref h_this_plan, .ref h_this_bestPlan, .int x_this_most, .int x_this_many, .int x_this_few, .int x_this_everHome, .ref h_this_offThen, .ref h_this_paidThen, .int x_this_firstFit, .ref h_this_rows, .int x_this_rowMany, .ref h_this_sorts, .ref h_this_sizes, .ref h_this_number, .ref h_this_holds, .ref h_this_heldOne, .ref h_this_trace, .int x_this_traced, .int x_this_own, .int x_this_isParted]), (h_this_code0, ia G 200 (upd f_this_code0 x_this_steps.toNatClampNeg p0))]) C h 1 rfl hi1 dX9_lays_9 rfl (fun H locs h => ?_)
  refine lv_aload_n hx hb dX9_lays_10 rfl (lv_at hl 0 rfl) ?_
  refine lv_dup hx hb dX9_lays_11 rfl ?_
  refine r_get C h fk_X9_158 0 rfl rfl dX9_lays_12 ?_
  refine lv_iconst (v := (1 : Int32)) hx hb dX9_lays_15 rfl ?_
  refine lv_iadd hx hb dX9_lays_16 ?_
  refine lv_topi (fun t2 et2 => ?_)
  replace hf := lt1_inv et2 hf
  refine r_put (ws' := [(h_this, ob 9 [.ref h_this_s, .ref h_this_kept, .ref h_this_laid, .int x_this_isKept, .ref h_this_pile, .ref h_this_tape, .int x_this_taped, .ref h_this_letters, .int x_this_at, .int x_this_begun, .int x_this_token, .int x_this_value, .int x_this_opened, .int t2, .ref h_this_code0, .ref h_this_read, .ref h_this_saved, .ref h_this_plan, .ref h_this_bestPlan, .int x_this_most, .int x_this_many, .int x_this_few, .int x_this_everHome, .ref h_this_offThen, .ref h_this_paidThen, .int x_this_firstFit, .ref h_this_rows, .int x_this_rowMany, .ref h_this_sorts, .ref h_this_sizes, .ref h_this_number, .ref h_this_holds, .ref h_this_heldOne, .ref h_this_trace, .int x_this_traced, .int x_this_own, .int x_this_isParted]), (h_this_code0, ia G 200 (upd f_this_code0 x_this_steps.toNatClampNeg p0))]) C h fw_X9_158 0 rfl rfl rfl (Nat.le_of_ble_eq_true rfl) dX9_lays_17 rfl (fun H locs h => ?_)
  cases hf
  exact r_vret C h hr hlk dX9_lays_20
set_option maxRecDepth 100000 in
set_option maxHeartbeats 4000000 in
theorem c_X9_readsValue {l : Launch} {G : Gt} {h_this h_this_s h_this_kept h_this_laid h_this_pile h_this_tape h_this_letters h_this_code0 h_this_read h_this_saved h_this_plan h_this_bestPlan h_this_offThen h_this_paidThen h_this_rows h_this_sorts h_this_sizes h_this_number h_this_holds h_this_heldOne h_this_trace : Nat} {x_this_isKept : Int32} {x_this_taped : Int32} {x_this_at : Int32} {x_this_begun : Int32} {x_this_token : Int32} {x_this_value : Int32} {x_this_opened : Int32} {x_this_steps : Int32} {x_this_most : Int32} {x_this_many : Int32} {x_this_few : Int32} {x_this_everHome : Int32} {x_this_firstFit : Int32} {x_this_rowMany : Int32} {x_this_traced : Int32} {x_this_own : Int32} {x_this_isParted : Int32} {f_this_code0 : Nat → Int32} {f_this_letters : Nat → Int32} {f_this_tape : Nat → Int32} {r : Int32} {m_this_at : Int32} {m_this_begun : Int32} {m_this_token : Int32} {m_this_value : Int32} {m_this_steps : Int32} {m_this_code0 : Nat → Int32} (hf : f_X9_readsValue x_this_taped x_this_at x_this_begun x_this_token x_this_value x_this_steps f_this_code0 f_this_letters f_this_tape = some (r, m_this_at, m_this_begun, m_this_token, m_this_value, m_this_steps, m_this_code0)) : mFi l G yX9_readsValue cX9_readsValue 2 .boolean 4 [.ref h_this] [(h_this, ob 9 [.ref h_this_s, .ref h_this_kept, .ref h_this_laid, .int x_this_isKept, .ref h_this_pile, .ref h_this_tape, .int x_this_taped, .ref h_this_letters, .int x_this_at, .int x_this_begun, .int x_this_token, .int x_this_value, .int x_this_opened, .int x_this_steps, .ref h_this_code0, .ref h_this_read, .ref h_this_saved, .ref h_this_plan, .ref h_this_bestPlan, .int x_this_most, .int x_this_many, .int x_this_few, .int x_this_everHome, .ref h_this_offThen, .ref h_this_paidThen, .int x_this_firstFit, .ref h_this_rows, .int x_this_rowMany, .ref h_this_sorts, .ref h_this_sizes, .ref h_this_number, .ref h_this_holds, .ref h_this_heldOne, .ref h_this_trace, .int x_this_traced, .int x_this_own, .int x_this_isParted]), (h_this_code0, ia G 200 f_this_code0), (h_this_letters, ca G 144 f_this_letters), (h_this_tape, ia G 200 f_this_tape)] r [(h_this, ob 9 [.ref h_this_s, .ref h_this_kept, .ref h_this_laid, .int x_this_isKept, .ref h_this_pile, .ref h_this_tape, .int x_this_taped, .ref h_this_letters, .int m_this_at, .int m_this_begun, .int m_this_token, .int m_this_value, .int x_this_opened, .int m_this_steps, .ref h_this_code0, .ref h_this_read, .ref h_this_saved, .ref h_this_plan, .ref h_this_bestPlan, .int x_this_most, .int x_this_many, .int x_this_few, .int x_this_everHome, .ref h_this_offThen, .ref h_this_paidThen, .int x_this_firstFit, .ref h_this_rows, .int x_this_rowMany, .ref h_this_sorts, .ref h_this_sizes, .ref h_this_number, .ref h_this_holds, .ref h_this_heldOne, .ref h_this_trace, .int x_this_traced, .int x_this_own, .int x_this_isParted]), (h_this_code0, ia G 200 m_this_code0), (h_this_letters, ca G 144 f_this_letters), (h_this_tape, ia G 200 f_this_tape)] := by
  refine mFi.of (by decide +kernel) (Nat.le_of_ble_eq_true rfl) ?_
  intro p e s m below meth c A C hr hlk h ls hl
  obtain ⟨hx, hb, hml, hown, hts⟩ := id C
  replace hl : lv_has ls 2 [(0, .ref h_this)] := hl
  unfold f_X9_readsValue at hf
  refine with_K G A 2 (fun K hK1 hK2 => ?_)
  have B28 : ∀ (s0 : Int32), f_X9_readsValue_b28 x_this_taped x_this_at x_this_begun x_this_token x_this_value x_this_steps f_this_code0 f_this_letters f_this_tape s0 = some (r, m_this_at, m_this_begun, m_this_token, m_this_value, m_this_steps, m_this_code0) → K 28 [.int s0] [(h_this, ob 9 [.ref h_this_s, .ref h_this_kept, .ref h_this_laid, .int x_this_isKept, .ref h_this_pile, .ref h_this_tape, .int x_this_taped, .ref h_this_letters, .int x_this_at, .int x_this_begun, .int x_this_token, .int x_this_value, .int x_this_opened, .int x_this_steps, .ref h_this_code0, .ref h_this_read, .ref h_this_saved, .ref h_this_plan, .ref h_this_bestPlan, .int x_this_most, .int x_this_many, .int x_this_few, .int x_this_everHome, .ref h_this_offThen, .ref h_this_paidThen, .int x_this_firstFit, .ref h_this_rows, .int x_this_rowMany, .ref h_this_sorts, .ref h_this_sizes, .ref h_this_number, .ref h_this_holds, .ref h_this_heldOne, .ref h_this_trace, .int x_this_traced, .int x_this_own, .int x_this_isParted]), (h_this_code0, ia G 200 f_this_code0), (h_this_letters, ca G 144 f_this_letters), (h_this_tape, ia G 200 f_this_tape)] [(0, .ref h_this)] := by
    intro s0 hf
    unfold f_X9_readsValue_b28 at hf
    refine hK1 _ _ _ _ (fun H locs ls h hl => ?_)
    refine lv_istore_n (lv' := [(1, .int s0), (0, .ref h_this)]) hx hb dX9_readsValue_28 rfl hl (by decide) rfl (fun ls hl => ?_)
    refine lv_iload_n hx hb dX9_readsValue_29 rfl (lv_at hl 0 rfl) ?_
    refine lv_if_eq (tgt := 68) hx hb dX9_readsValue_30 rfl (fun c2 => ?_) (fun c2 => ?_)
    · replace hf := ifp c2 hf
      refine lv_iload_n hx hb dX9_readsValue_68 rfl (lv_at hl 0 rfl) ?_
      replace hf := chkB_inv hf
      obtain ⟨hb3, hf⟩ := hf
      obtain ⟨rfl, rfl, rfl, rfl, rfl, rfl, rfl⟩ := sm7 hf
      exact r_iret C h hr hlk hb3 dX9_readsValue_69
    · replace hf := ifn c2 hf
      refine lv_aload_n hx hb dX9_readsValue_33 rfl (lv_at hl 1 rfl) ?_
      refine lv_aload_n hx hb dX9_readsValue_34 rfl (lv_at hl 1 rfl) ?_
      refine r_get C h fk_X9_140 0 rfl rfl dX9_readsValue_35 ?_
      refine lv_bipush (v := (100 : Int32)) hx hb dX9_readsValue_38 rfl ?_
      refine lv_icmp_ne (tgt := 50) hx hb dX9_readsValue_40 rfl (fun c4 => ?_) (fun c4 => ?_)
      · replace hf := ifn c4 hf
        refine lv_sipush (v := (10000 : Int32)) hx hb dX9_readsValue_50 rfl ?_
        refine lv_aload_n hx hb dX9_readsValue_53 rfl (lv_at hl 1 rfl) ?_
        refine r_get C h fk_X9_140 0 rfl rfl dX9_readsValue_54 ?_
        refine lv_iadd hx hb dX9_readsValue_57 ?_
        refine lv_bipush (v := (13 : Int32)) hx hb dX9_readsValue_58 rfl ?_
        refine lv_isub hx hb dX9_readsValue_60 ?_
        replace hf := bd2_inv hf
        obtain ⟨y5, g6, hc7, hf⟩ := hf
        refine r_cvV (ws' := [(h_this, ob 9 [.ref h_this_s, .ref h_this_kept, .ref h_this_laid, .int x_this_isKept, .ref h_this_pile, .ref h_this_tape, .int x_this_taped, .ref h_this_letters, .int x_this_at, .int x_this_begun, .int x_this_token, .int x_this_value, .int x_this_opened, .int y5, .ref h_this_code0, .ref h_this_read, .ref h_this_saved, .ref h_this_plan, .ref h_this_bestPlan, .int x_this_most, .int x_this_many, .int x_this_few, .int x_this_everHome, .ref h_this_offThen, .ref h_this_paidThen, .int x_this_firstFit, .ref h_this_rows, .int x_this_rowMany, .ref h_this_sorts, .ref h_this_sizes, .ref h_this_number, .ref h_this_holds, .ref h_this_heldOne, .ref h_this_trace, .int x_this_traced, .int x_this_own, .int x_this_isParted]), (h_this_code0, ia G 200 g6), (h_this_letters, ca G 144 f_this_letters), (h_this_tape, ia G 200 f_this_tape)]) C h (c_X9_lays hc7) mv_X9_161 rfl 0 rfl [0, 1] rfl rfl [0, 1] [(h_this, ob 9 [.ref h_this_s, .ref h_this_kept, .ref h_this_laid, .int x_this_isKept, .ref h_this_pile, .ref h_this_tape, .int x_this_taped, .ref h_this_letters, .int x_this_at, .int x_this_begun, .int x_this_token, .int x_this_value, .int x_this_opened, .int y5, .ref h_this_code0, .ref h_this_read, .ref h_this_saved, .ref h_this_plan, .ref h_this_bestPlan, .int x_this_most, .int x_this_many, .int x_this_few, .int x_this_everHome, .ref h_this_offThen, .ref h_this_paidThen, .int x_this_firstFit, .ref h_this_rows, .int x_this_rowMany, .ref h_this_sorts, .ref h_this_sizes, .ref h_this_number, .ref h_this_holds, .ref h_this_heldOne, .ref h_this_trace, .int x_this_traced, .int x_this_own, .int x_this_isParted]), (h_this_code0, ia G 200 g6)] rfl rfl (by decide +kernel) rfl hl.1 rfl (Nat.le_of_ble_eq_true rfl) (rok (by decide)) dX9_readsValue_61 (fun H locs h => ?_)
        refine lv_aload_n hx hb dX9_readsValue_64 rfl (lv_at hl 1 rfl) ?_
        replace hf := bd4_inv hf
        obtain ⟨y8, y9, y10, y11, hc12, hf⟩ := hf
        refine r_cvV (ws' := [(h_this, ob 9 [.ref h_this_s, .ref h_this_kept, .ref h_this_laid, .int x_this_isKept, .ref h_this_pile, .ref h_this_tape, .int x_this_taped, .ref h_this_letters, .int y8, .int y9, .int y10, .int y11, .int x_this_opened, .int y5, .ref h_this_code0, .ref h_this_read, .ref h_this_saved, .ref h_this_plan, .ref h_this_bestPlan, .int x_this_most, .int x_this_many, .int x_this_few, .int x_this_everHome, .ref h_this_offThen, .ref h_this_paidThen, .int x_this_firstFit, .ref h_this_rows, .int x_this_rowMany, .ref h_this_sorts, .ref h_this_sizes, .ref h_this_number, .ref h_this_holds, .ref h_this_heldOne, .ref h_this_trace, .int x_this_traced, .int x_this_own, .int x_this_isParted]), (h_this_code0, ia G 200 g6), (h_this_letters, ca G 144 f_this_letters), (h_this_tape, ia G 200 f_this_tape)]) C h (c_X9_next hc12) mv_X9_155 rfl 0 rfl [0, 2, 3] rfl rfl [0] [(h_this, ob 9 [.ref h_this_s, .ref h_this_kept, .ref h_this_laid, .int x_this_isKept, .ref h_this_pile, .ref h_this_tape, .int x_this_taped, .ref h_this_letters, .int y8, .int y9, .int y10, .int y11, .int x_this_opened, .int y5, .ref h_this_code0, .ref h_this_read, .ref h_this_saved, .ref h_this_plan, .ref h_this_bestPlan, .int x_this_most, .int x_this_many, .int x_this_few, .int x_this_everHome, .ref h_this_offThen, .ref h_this_paidThen, .int x_this_firstFit, .ref h_this_rows, .int x_this_rowMany, .ref h_this_sorts, .ref h_this_sizes, .ref h_this_number, .ref h_this_holds, .ref h_this_heldOne, .ref h_this_trace, .int x_this_traced, .int x_this_own, .int x_this_isParted])] rfl rfl (by decide +kernel) rfl hl.1 rfl (Nat.le_of_ble_eq_true rfl) (rok (by decide)) dX9_readsValue_65 (fun H locs h => ?_)
        refine lv_iload_n hx hb dX9_readsValue_68 rfl (lv_at hl 0 rfl) ?_
        replace hf := chkB_inv hf
        obtain ⟨hb13, hf⟩ := hf
        obtain ⟨rfl, rfl, rfl, rfl, rfl, rfl, rfl⟩ := sm7 hf
        exact r_iret C h hr hlk hb13 dX9_readsValue_69
      · replace hf := ifp c4 hf
        refine lv_aload_n hx hb dX9_readsValue_43 rfl (lv_at hl 1 rfl) ?_
        refine r_get C h fk_X9_146 0 rfl rfl dX9_readsValue_44 ?_
        refine lv_goto (tgt := 61) hx hb dX9_readsValue_47 rfl ?_
        replace hf := bd2_inv hf
        obtain ⟨y14, g15, hc16, hf⟩ := hf
        refine r_cvV (ws' := [(h_this, ob 9 [.ref h_this_s, .ref h_this_kept, .ref h_this_laid, .int x_this_isKept, .ref h_this_pile, .ref h_this_tape, .int x_this_taped, .ref h_this_letters, .int x_this_at, .int x_this_begun, .int x_this_token, .int x_this_value, .int x_this_opened, .int y14, .ref h_this_code0, .ref h_this_read, .ref h_this_saved, .ref h_this_plan, .ref h_this_bestPlan, .int x_this_most, .int x_this_many, .int x_this_few, .int x_this_everHome, .ref h_this_offThen, .ref h_this_paidThen, .int x_this_firstFit, .ref h_this_rows, .int x_this_rowMany, .ref h_this_sorts, .ref h_this_sizes, .ref h_this_number, .ref h_this_holds, .ref h_this_heldOne, .ref h_this_trace, .int x_this_traced, .int x_this_own, .int x_this_isParted]), (h_this_code0, ia G 200 g15), (h_this_letters, ca G 144 f_this_letters), (h_this_tape, ia G 200 f_this_tape)]) C h (c_X9_lays hc16) mv_X9_161 rfl 0 rfl [0, 1] rfl rfl [0, 1] [(h_this, ob 9 [.ref h_this_s, .ref h_this_kept, .ref h_this_laid, .int x_this_isKept, .ref h_this_pile, .ref h_this_tape, .int x_this_taped, .ref h_this_letters, .int x_this_at, .int x_this_begun, .int x_this_token, .int x_this_value, .int x_this_opened, .int y14, .ref h_this_code0, .ref h_this_read, .ref h_this_saved, .ref h_this_plan, .ref h_this_bestPlan, .int x_this_most, .int x_this_many, .int x_this_few, .int x_this_everHome, .ref h_this_offThen, .ref h_this_paidThen, .int x_this_firstFit, .ref h_this_rows, .int x_this_rowMany, .ref h_this_sorts, .ref h_this_sizes, .ref h_this_number, .ref h_this_holds, .ref h_this_heldOne, .ref h_this_trace, .int x_this_traced, .int x_this_own, .int x_this_isParted]), (h_this_code0, ia G 200 g15)] rfl rfl (by decide +kernel) rfl hl.1 rfl (Nat.le_of_ble_eq_true rfl) (rok (by decide)) dX9_readsValue_61 (fun H locs h => ?_)
        refine lv_aload_n hx hb dX9_readsValue_64 rfl (lv_at hl 1 rfl) ?_
        replace hf := bd4_inv hf
        obtain ⟨y17, y18, y19, y20, hc21, hf⟩ := hf
        refine r_cvV (ws' := [(h_this, ob 9 [.ref h_this_s, .ref h_this_kept, .ref h_this_laid, .int x_this_isKept, .ref h_this_pile, .ref h_this_tape, .int x_this_taped, .ref h_this_letters, .int y17, .int y18, .int y19, .int y20, .int x_this_opened, .int y14, .ref h_this_code0, .ref h_this_read, .ref h_this_saved, .ref h_this_plan, .ref h_this_bestPlan, .int x_this_most, .int x_this_many, .int x_this_few, .int x_this_everHome, .ref h_this_offThen, .ref h_this_paidThen, .int x_this_firstFit, .ref h_this_rows, .int x_this_rowMany, .ref h_this_sorts, .ref h_this_sizes, .ref h_this_number, .ref h_this_holds, .ref h_this_heldOne, .ref h_this_trace, .int x_this_traced, .int x_this_own, .int x_this_isParted]), (h_this_code0, ia G 200 g15), (h_this_letters, ca G 144 f_this_letters), (h_this_tape, ia G 200 f_this_tape)]) C h (c_X9_next hc21) mv_X9_155 rfl 0 rfl [0, 2, 3] rfl rfl [0] [(h_this, ob 9 [.ref h_this_s, .ref h_this_kept, .ref h_this_laid, .int x_this_isKept, .ref h_this_pile, .ref h_this_tape, .int x_this_taped, .ref h_this_letters, .int y17, .int y18, .int y19, .int y20, .int x_this_opened, .int y14, .ref h_this_code0, .ref h_this_read, .ref h_this_saved, .ref h_this_plan, .ref h_this_bestPlan, .int x_this_most, .int x_this_many, .int x_this_few, .int x_this_everHome, .ref h_this_offThen, .ref h_this_paidThen, .int x_this_firstFit, .ref h_this_rows, .int x_this_rowMany, .ref h_this_sorts, .ref h_this_sizes, .ref h_this_number, .ref h_this_holds, .ref h_this_heldOne, .ref h_this_trace, .int x_this_traced, .int x_this_own, .int x_this_isParted])] rfl rfl (by decide +kernel) rfl hl.1 rfl (Nat.le_of_ble_eq_true rfl) (rok (by decide)) dX9_readsValue_65 (fun H locs h => ?_)
        refine lv_iload_n hx hb dX9_readsValue_68 rfl (lv_at hl 0 rfl) ?_
        replace hf := chkB_inv hf
        obtain ⟨hb22, hf⟩ := hf
        obtain ⟨rfl, rfl, rfl, rfl, rfl, rfl, rfl⟩ := sm7 hf
        exact r_iret C h hr hlk hb22 dX9_readsValue_69
  have B23 : f_X9_readsValue_b23 x_this_taped x_this_at x_this_begun x_this_token x_this_value x_this_steps f_this_code0 f_this_letters f_this_tape = some (r, m_this_at, m_this_begun, m_this_token, m_this_value, m_this_steps, m_this_code0) → K 23 ([] : List Value) [(h_this, ob 9 [.ref h_this_s, .ref h_this_kept, .ref h_this_laid, .int x_this_isKept, .ref h_this_pile, .ref h_this_tape, .int x_this_taped, .ref h_this_letters, .int x_this_at, .int x_this_begun, .int x_this_token, .int x_this_value, .int x_this_opened, .int x_this_steps, .ref h_this_code0, .ref h_this_read, .ref h_this_saved, .ref h_this_plan, .ref h_this_bestPlan, .int x_this_most, .int x_this_many, .int x_this_few, .int x_this_everHome, .ref h_this_offThen, .ref h_this_paidThen, .int x_this_firstFit, .ref h_this_rows, .int x_this_rowMany, .ref h_this_sorts, .ref h_this_sizes, .ref h_this_number, .ref h_this_holds, .ref h_this_heldOne, .ref h_this_trace, .int x_this_traced, .int x_this_own, .int x_this_isParted]), (h_this_code0, ia G 200 f_this_code0), (h_this_letters, ca G 144 f_this_letters), (h_this_tape, ia G 200 f_this_tape)] [(0, .ref h_this)] := by
    intro hf
    unfold f_X9_readsValue_b23 at hf
    refine hK1 _ _ _ _ (fun H locs ls h hl => ?_)
    refine lv_iconst (v := (1 : Int32)) hx hb dX9_readsValue_23 rfl ?_
    refine lv_goto (tgt := 28) hx hb dX9_readsValue_24 rfl ?_
    exact hK2 _ _ _ _ (B28 (1 : Int32) hf) _ _ _ h (lv_sub hl [0] rfl)
  refine lv_aload_n hx hb dX9_readsValue_0 rfl (lv_at hl 0 rfl) ?_
  refine r_get C h fk_X9_140 0 rfl rfl dX9_readsValue_1 ?_
  refine lv_bipush (v := (100 : Int32)) hx hb dX9_readsValue_4 rfl ?_
  refine lv_icmp_eq (tgt := 23) hx hb dX9_readsValue_6 rfl (fun c1 => ?_) (fun c1 => ?_)
  · replace hf := ifp c1 hf
    exact hK2 _ _ _ _ (B23 hf) _ _ _ h (lv_sub hl [0] rfl)
  · replace hf := ifn c1 hf
    refine lv_aload_n hx hb dX9_readsValue_9 rfl (lv_at hl 0 rfl) ?_
    refine r_get C h fk_X9_140 0 rfl rfl dX9_readsValue_10 ?_
    refine lv_bipush (v := (13 : Int32)) hx hb dX9_readsValue_13 rfl ?_
    refine lv_bipush (v := (17 : Int32)) hx hb dX9_readsValue_15 rfl ?_
    replace hf := bd1_inv hf
    obtain ⟨r23, hc24, hf⟩ := hf
    refine r_ciS0 C h (c_X9_in1 hc24) ms_X9_71 rfl [] rfl rfl hl.1 rfl (Nat.le_of_ble_eq_true rfl) (rok (by decide)) dX9_readsValue_17 (fun H locs h => ?_)
    refine lv_if_eq (tgt := 27) hx hb dX9_readsValue_20 rfl (fun c25 => ?_) (fun c25 => ?_)
    · replace hf := ifp c25 hf
      refine lv_iconst (v := (0 : Int32)) hx hb dX9_readsValue_27 rfl ?_
      exact hK2 _ _ _ _ (B28 (0 : Int32) hf) _ _ _ h (lv_sub hl [0] rfl)
    · replace hf := ifn c25 hf
      exact hK2 _ _ _ _ (B23 hf) _ _ _ h (lv_sub hl [0] rfl)
set_option maxRecDepth 100000 in
set_option maxHeartbeats 4000000 in
theorem c_X9_readsLike {l : Launch} {G : Gt} {h_this h_this_s h_this_kept h_this_laid h_this_pile h_this_tape h_this_letters h_this_code0 h_this_read h_this_saved h_this_plan h_this_bestPlan h_this_offThen h_this_paidThen h_this_rows h_this_sorts h_this_sizes h_this_number h_this_holds h_this_heldOne h_this_trace : Nat} {x_this_isKept : Int32} {x_this_taped : Int32} {x_this_at : Int32} {x_this_begun : Int32} {x_this_token : Int32} {x_this_value : Int32} {x_this_opened : Int32} {x_this_steps : Int32} {x_this_most : Int32} {x_this_many : Int32} {x_this_few : Int32} {x_this_everHome : Int32} {x_this_firstFit : Int32} {x_this_rowMany : Int32} {x_this_traced : Int32} {x_this_own : Int32} {x_this_isParted : Int32} {f_this_code0 : Nat → Int32} {f_this_letters : Nat → Int32} {f_this_tape : Nat → Int32} {r : Int32} {m_this_at : Int32} {m_this_begun : Int32} {m_this_token : Int32} {m_this_value : Int32} {m_this_steps : Int32} {m_this_code0 : Nat → Int32} (hf : f_X9_readsLike x_this_taped x_this_at x_this_begun x_this_token x_this_value x_this_steps f_this_code0 f_this_letters f_this_tape = some (r, m_this_at, m_this_begun, m_this_token, m_this_value, m_this_steps, m_this_code0)) : mFi l G yX9_readsLike cX9_readsLike 2 .boolean 5 [.ref h_this] [(h_this, ob 9 [.ref h_this_s, .ref h_this_kept, .ref h_this_laid, .int x_this_isKept, .ref h_this_pile, .ref h_this_tape, .int x_this_taped, .ref h_this_letters, .int x_this_at, .int x_this_begun, .int x_this_token, .int x_this_value, .int x_this_opened, .int x_this_steps, .ref h_this_code0, .ref h_this_read, .ref h_this_saved, .ref h_this_plan, .ref h_this_bestPlan, .int x_this_most, .int x_this_many, .int x_this_few, .int x_this_everHome, .ref h_this_offThen, .ref h_this_paidThen, .int x_this_firstFit, .ref h_this_rows, .int x_this_rowMany, .ref h_this_sorts, .ref h_this_sizes, .ref h_this_number, .ref h_this_holds, .ref h_this_heldOne, .ref h_this_trace, .int x_this_traced, .int x_this_own, .int x_this_isParted]), (h_this_code0, ia G 200 f_this_code0), (h_this_letters, ca G 144 f_this_letters), (h_this_tape, ia G 200 f_this_tape)] r [(h_this, ob 9 [.ref h_this_s, .ref h_this_kept, .ref h_this_laid, .int x_this_isKept, .ref h_this_pile, .ref h_this_tape, .int x_this_taped, .ref h_this_letters, .int m_this_at, .int m_this_begun, .int m_this_token, .int m_this_value, .int x_this_opened, .int m_this_steps, .ref h_this_code0, .ref h_this_read, .ref h_this_saved, .ref h_this_plan, .ref h_this_bestPlan, .int x_this_most, .int x_this_many, .int x_this_few, .int x_this_everHome, .ref h_this_offThen, .ref h_this_paidThen, .int x_this_firstFit, .ref h_this_rows, .int x_this_rowMany, .ref h_this_sorts, .ref h_this_sizes, .ref h_this_number, .ref h_this_holds, .ref h_this_heldOne, .ref h_this_trace, .int x_this_traced, .int x_this_own, .int x_this_isParted]), (h_this_code0, ia G 200 m_this_code0), (h_this_letters, ca G 144 f_this_letters), (h_this_tape, ia G 200 f_this_tape)] := by
  refine mFi.of (by decide +kernel) (Nat.le_of_ble_eq_true rfl) ?_
  intro p e s m below meth c A C hr hlk h ls hl
  obtain ⟨hx, hb, hml, hown, hts⟩ := id C
  replace hl : lv_has ls 2 [(0, .ref h_this)] := hl
  unfold f_X9_readsLike at hf
  refine with_K G A 2 (fun K hK1 hK2 => ?_)
  have B58 : ∀ (s0 : Int32) (y_this_at : Int32) (y_this_begun : Int32) (y_this_token : Int32) (y_this_value : Int32) (y_this_steps : Int32) (g_this_code0 : Nat → Int32), f_X9_readsLike_b58 x_this_taped f_this_letters f_this_tape s0 y_this_at y_this_begun y_this_token y_this_value y_this_steps g_this_code0 = some (r, m_this_at, m_this_begun, m_this_token, m_this_value, m_this_steps, m_this_code0) → K 58 [.int s0] [(h_this, ob 9 [.ref h_this_s, .ref h_this_kept, .ref h_this_laid, .int x_this_isKept, .ref h_this_pile, .ref h_this_tape, .int x_this_taped, .ref h_this_letters, .int y_this_at, .int y_this_begun, .int y_this_token, .int y_this_value, .int x_this_opened, .int y_this_steps, .ref h_this_code0, .ref h_this_read, .ref h_this_saved, .ref h_this_plan, .ref h_this_bestPlan, .int x_this_most, .int x_this_many, .int x_this_few, .int x_this_everHome, .ref h_this_offThen, .ref h_this_paidThen, .int x_this_firstFit, .ref h_this_rows, .int x_this_rowMany, .ref h_this_sorts, .ref h_this_sizes, .ref h_this_number, .ref h_this_holds, .ref h_this_heldOne, .ref h_this_trace, .int x_this_traced, .int x_this_own, .int x_this_isParted]), (h_this_code0, ia G 200 g_this_code0), (h_this_letters, ca G 144 f_this_letters), (h_this_tape, ia G 200 f_this_tape)] [(0, .ref h_this)] := by
    intro s0 y_this_at y_this_begun y_this_token y_this_value y_this_steps g_this_code0 hf
    unfold f_X9_readsLike_b58 at hf
    refine hK1 _ _ _ _ (fun H locs ls h hl => ?_)
    refine lv_istore_n (lv' := [(1, .int s0), (0, .ref h_this)]) hx hb dX9_readsLike_58 rfl hl (by decide) rfl (fun ls hl => ?_)
    refine lv_iload_n hx hb dX9_readsLike_59 rfl (lv_at hl 0 rfl) ?_
    refine lv_if_ne (tgt := 65) hx hb dX9_readsLike_60 rfl (fun c13 => ?_) (fun c13 => ?_)
    · replace hf := ifn c13 hf
      refine lv_aload_n hx hb dX9_readsLike_65 rfl (lv_at hl 1 rfl) ?_
      replace hf := bd4_inv hf
      obtain ⟨y14, y15, y16, y17, hc18, hf⟩ := hf
      refine r_cvV (ws' := [(h_this, ob 9 [.ref h_this_s, .ref h_this_kept, .ref h_this_laid, .int x_this_isKept, .ref h_this_pile, .ref h_this_tape, .int x_this_taped, .ref h_this_letters, .int y14, .int y15, .int y16, .int y17, .int x_this_opened, .int y_this_steps, .ref h_this_code0, .ref h_this_read, .ref h_this_saved, .ref h_this_plan, .ref h_this_bestPlan, .int x_this_most, .int x_this_many, .int x_this_few, .int x_this_everHome, .ref h_this_offThen, .ref h_this_paidThen, .int x_this_firstFit, .ref h_this_rows, .int x_this_rowMany, .ref h_this_sorts, .ref h_this_sizes, .ref h_this_number, .ref h_this_holds, .ref h_this_heldOne, .ref h_this_trace, .int x_this_traced, .int x_this_own, .int x_this_isParted]), (h_this_code0, ia G 200 g_this_code0), (h_this_letters, ca G 144 f_this_letters), (h_this_tape, ia G 200 f_this_tape)]) C h (c_X9_next hc18) mv_X9_155 rfl 0 rfl [0, 2, 3] rfl rfl [0] [(h_this, ob 9 [.ref h_this_s, .ref h_this_kept, .ref h_this_laid, .int x_this_isKept, .ref h_this_pile, .ref h_this_tape, .int x_this_taped, .ref h_this_letters, .int y14, .int y15, .int y16, .int y17, .int x_this_opened, .int y_this_steps, .ref h_this_code0, .ref h_this_read, .ref h_this_saved, .ref h_this_plan, .ref h_this_bestPlan, .int x_this_most, .int x_this_many, .int x_this_few, .int x_this_everHome, .ref h_this_offThen, .ref h_this_paidThen, .int x_this_firstFit, .ref h_this_rows, .int x_this_rowMany, .ref h_this_sorts, .ref h_this_sizes, .ref h_this_number, .ref h_this_holds, .ref h_this_heldOne, .ref h_this_trace, .int x_this_traced, .int x_this_own, .int x_this_isParted])] rfl rfl (by decide +kernel) rfl hl.1 rfl (Nat.le_of_ble_eq_true rfl) (rok (by decide)) dX9_readsLike_66 (fun H locs h => ?_)
      refine lv_aload_n hx hb dX9_readsLike_69 rfl (lv_at hl 1 rfl) ?_
      replace hf := bd7_inv hf
      obtain ⟨r19, y20, y21, y22, y23, y24, g25, hc26, hf⟩ := hf
      refine r_ciV (ws' := [(h_this, ob 9 [.ref h_this_s, .ref h_this_kept, .ref h_this_laid, .int x_this_isKept, .ref h_this_pile, .ref h_this_tape, .int x_this_taped, .ref h_this_letters, .int y20, .int y21, .int y22, .int y23, .int x_this_opened, .int y24, .ref h_this_code0, .ref h_this_read, .ref h_this_saved, .ref h_this_plan, .ref h_this_bestPlan, .int x_this_most, .int x_this_many, .int x_this_few, .int x_this_everHome, .ref h_this_offThen, .ref h_this_paidThen, .int x_this_firstFit, .ref h_this_rows, .int x_this_rowMany, .ref h_this_sorts, .ref h_this_sizes, .ref h_this_number, .ref h_this_holds, .ref h_this_heldOne, .ref h_this_trace, .int x_this_traced, .int x_this_own, .int x_this_isParted]), (h_this_code0, ia G 200 g25), (h_this_letters, ca G 144 f_this_letters), (h_this_tape, ia G 200 f_this_tape)]) C h (c_X9_readsValue hc26) mv_X9_165 rfl 0 rfl [0, 1, 2, 3] rfl rfl [0, 1] [(h_this, ob 9 [.ref h_this_s, .ref h_this_kept, .ref h_this_laid, .int x_this_isKept, .ref h_this_pile, .ref h_this_tape, .int x_this_taped, .ref h_this_letters, .int y20, .int y21, .int y22, .int y23, .int x_this_opened, .int y24, .ref h_this_code0, .ref h_this_read, .ref h_this_saved, .ref h_this_plan, .ref h_this_bestPlan, .int x_this_most, .int x_this_many, .int x_this_few, .int x_this_everHome, .ref h_this_offThen, .ref h_this_paidThen, .int x_this_firstFit, .ref h_this_rows, .int x_this_rowMany, .ref h_this_sorts, .ref h_this_sizes, .ref h_this_number, .ref h_this_holds, .ref h_this_heldOne, .ref h_this_trace, .int x_this_traced, .int x_this_own, .int x_this_isParted]), (h_this_code0, ia G 200 g25)] rfl rfl (by decide +kernel) rfl hl.1 rfl (Nat.le_of_ble_eq_true rfl) (rok (by decide)) dX9_readsLike_70 (fun H locs h => ?_)
      refine lv_if_ne (tgt := 78) hx hb dX9_readsLike_73 rfl (fun c27 => ?_) (fun c27 => ?_)
      · replace hf := ifn c27 hf
        refine lv_aload_n hx hb dX9_readsLike_78 rfl (lv_at hl 1 rfl) ?_
        refine lv_iload_n hx hb dX9_readsLike_79 rfl (lv_at hl 0 rfl) ?_
        replace hf := bd2_inv hf
        obtain ⟨y28, g29, hc30, hf⟩ := hf
        refine r_cvV (ws' := [(h_this, ob 9 [.ref h_this_s, .ref h_this_kept, .ref h_this_laid, .int x_this_isKept, .ref h_this_pile, .ref h_this_tape, .int x_this_taped, .ref h_this_letters, .int y20, .int y21, .int y22, .int y23, .int x_this_opened, .int y28, .ref h_this_code0, .ref h_this_read, .ref h_this_saved, .ref h_this_plan, .ref h_this_bestPlan, .int x_this_most, .int x_this_many, .int x_this_few, .int x_this_everHome, .ref h_this_offThen, .ref h_this_paidThen, .int x_this_firstFit, .ref h_this_rows, .int x_this_rowMany, .ref h_this_sorts, .ref h_this_sizes, .ref h_this_number, .ref h_this_holds, .ref h_this_heldOne, .ref h_this_trace, .int x_this_traced, .int x_this_own, .int x_this_isParted]), (h_this_code0, ia G 200 g29), (h_this_letters, ca G 144 f_this_letters), (h_this_tape, ia G 200 f_this_tape)]) C h (c_X9_lays hc30) mv_X9_161 rfl 0 rfl [0, 1] rfl rfl [0, 1] [(h_this, ob 9 [.ref h_this_s, .ref h_this_kept, .ref h_this_laid, .int x_this_isKept, .ref h_this_pile, .ref h_this_tape, .int x_this_taped, .ref h_this_letters, .int y20, .int y21, .int y22, .int y23, .int x_this_opened, .int y28, .ref h_this_code0, .ref h_this_read, .ref h_this_saved, .ref h_this_plan, .ref h_this_bestPlan, .int x_this_most, .int x_this_many, .int x_this_few, .int x_this_everHome, .ref h_this_offThen, .ref h_this_paidThen, .int x_this_firstFit, .ref h_this_rows, .int x_this_rowMany, .ref h_this_sorts, .ref h_this_sizes, .ref h_this_number, .ref h_this_holds, .ref h_this_heldOne, .ref h_this_trace, .int x_this_traced, .int x_this_own, .int x_this_isParted]), (h_this_code0, ia G 200 g29)] rfl rfl (by decide +kernel) rfl hl.1 rfl (Nat.le_of_ble_eq_true rfl) (rok (by decide)) dX9_readsLike_80 (fun H locs h => ?_)
        refine lv_iconst (v := (1 : Int32)) hx hb dX9_readsLike_83 rfl ?_
        obtain ⟨rfl, rfl, rfl, rfl, rfl, rfl, rfl⟩ := sm7 hf
        exact r_iret C h hr hlk rfl dX9_readsLike_84
      · replace hf := ifp c27 hf
        refine lv_iconst (v := (0 : Int32)) hx hb dX9_readsLike_76 rfl ?_
        obtain ⟨rfl, rfl, rfl, rfl, rfl, rfl, rfl⟩ := sm7 hf
        exact r_iret C h hr hlk rfl dX9_readsLike_77
    · replace hf := ifp c13 hf
      refine lv_iconst (v := (0 : Int32)) hx hb dX9_readsLike_63 rfl ?_
      obtain ⟨rfl, rfl, rfl, rfl, rfl, rfl, rfl⟩ := sm7 hf
      exact r_iret C h hr hlk rfl dX9_readsLike_64
  refine lv_aload_n hx hb dX9_readsLike_0 rfl (lv_at hl 0 rfl) ?_
  replace hf := bd7_inv hf
  obtain ⟨r1, y2, y3, y4, y5, y6, g7, hc8, hf⟩ := hf
  refine r_ciV (ws' := [(h_this, ob 9 [.ref h_this_s, .ref h_this_kept, .ref h_this_laid, .int x_this_isKept, .ref h_this_pile, .ref h_this_tape, .int x_this_taped, .ref h_this_letters, .int y2, .int y3, .int y4, .int y5, .int x_this_opened, .int y6, .ref h_this_code0, .ref h_this_read, .ref h_this_saved, .ref h_this_plan, .ref h_this_bestPlan, .int x_this_most, .int x_this_many, .int x_this_few, .int x_this_everHome, .ref h_this_offThen, .ref h_this_paidThen, .int x_this_firstFit, .ref h_this_rows, .int x_this_rowMany, .ref h_this_sorts, .ref h_this_sizes, .ref h_this_number, .ref h_this_holds, .ref h_this_heldOne, .ref h_this_trace, .int x_this_traced, .int x_this_own, .int x_this_isParted]), (h_this_code0, ia G 200 g7), (h_this_letters, ca G 144 f_this_letters), (h_this_tape, ia G 200 f_this_tape)]) C h (c_X9_readsValue hc8) mv_X9_165 rfl 0 rfl [0, 1, 2, 3] rfl rfl [0, 1] [(h_this, ob 9 [.ref h_this_s, .ref h_this_kept, .ref h_this_laid, .int x_this_isKept, .ref h_this_pile, .ref h_this_tape, .int x_this_taped, .ref h_this_letters, .int y2, .int y3, .int y4, .int y5, .int x_this_opened, .int y6, .ref h_this_code0, .ref h_this_read, .ref h_this_saved, .ref h_this_plan, .ref h_this_bestPlan, .int x_this_most, .int x_this_many, .int x_this_few, .int x_this_everHome, .ref h_this_offThen, .ref h_this_paidThen, .int x_this_firstFit, .ref h_this_rows, .int x_this_rowMany, .ref h_this_sorts, .ref h_this_sizes, .ref h_this_number, .ref h_this_holds, .ref h_this_heldOne, .ref h_this_trace, .int x_this_traced, .int x_this_own, .int x_this_isParted]), (h_this_code0, ia G 200 g7)] rfl rfl (by decide +kernel) rfl hl.1 rfl (Nat.le_of_ble_eq_true rfl) (rok (by decide)) dX9_readsLike_1 (fun H locs h => ?_)
  refine lv_if_ne (tgt := 9) hx hb dX9_readsLike_4 rfl (fun c9 => ?_) (fun c9 => ?_)
  · replace hf := ifn c9 hf
    refine lv_aload_n hx hb dX9_readsLike_9 rfl (lv_at hl 0 rfl) ?_
    refine r_get C h fk_X9_140 0 rfl rfl dX9_readsLike_10 ?_
    refine lv_sipush (v := (260 : Int32)) hx hb dX9_readsLike_13 rfl ?_
    refine lv_icmp_ne (tgt := 25) hx hb dX9_readsLike_16 rfl (fun c10 => ?_) (fun c10 => ?_)
    · replace hf := ifn c10 hf
      refine lv_aload_n hx hb dX9_readsLike_25 rfl (lv_at hl 0 rfl) ?_
      refine r_get C h fk_X9_140 0 rfl rfl dX9_readsLike_26 ?_
      refine lv_sipush (v := (261 : Int32)) hx hb dX9_readsLike_29 rfl ?_
      refine lv_icmp_ne (tgt := 41) hx hb dX9_readsLike_32 rfl (fun c11 => ?_) (fun c11 => ?_)
      · replace hf := ifn c11 hf
        refine lv_aload_n hx hb dX9_readsLike_41 rfl (lv_at hl 0 rfl) ?_
        refine r_get C h fk_X9_140 0 rfl rfl dX9_readsLike_42 ?_
        refine lv_sipush (v := (262 : Int32)) hx hb dX9_readsLike_45 rfl ?_
        refine lv_icmp_ne (tgt := 57) hx hb dX9_readsLike_48 rfl (fun c12 => ?_) (fun c12 => ?_)
        · replace hf := ifn c12 hf
          refine lv_iconst (v := (0 : Int32)) hx hb dX9_readsLike_57 rfl ?_
          exact hK2 _ _ _ _ (B58 (0 : Int32) y2 y3 y4 y5 y6 g7 hf) _ _ _ h (lv_sub hl [0] rfl)
        · replace hf := ifp c12 hf
          refine lv_sipush (v := (10012 : Int32)) hx hb dX9_readsLike_51 rfl ?_
          refine lv_goto (tgt := 58) hx hb dX9_readsLike_54 rfl ?_
          exact hK2 _ _ _ _ (B58 (10012 : Int32) y2 y3 y4 y5 y6 g7 hf) _ _ _ h (lv_sub hl [0] rfl)
      · replace hf := ifp c11 hf
        refine lv_sipush (v := (10011 : Int32)) hx hb dX9_readsLike_35 rfl ?_
        refine lv_goto (tgt := 58) hx hb dX9_readsLike_38 rfl ?_
        exact hK2 _ _ _ _ (B58 (10011 : Int32) y2 y3 y4 y5 y6 g7 hf) _ _ _ h (lv_sub hl [0] rfl)
    · replace hf := ifp c10 hf
      refine lv_sipush (v := (10010 : Int32)) hx hb dX9_readsLike_19 rfl ?_
      refine lv_goto (tgt := 58) hx hb dX9_readsLike_22 rfl ?_
      exact hK2 _ _ _ _ (B58 (10010 : Int32) y2 y3 y4 y5 y6 g7 hf) _ _ _ h (lv_sub hl [0] rfl)
  · replace hf := ifp c9 hf
    refine lv_iconst (v := (0 : Int32)) hx hb dX9_readsLike_7 rfl ?_
    obtain ⟨rfl, rfl, rfl, rfl, rfl, rfl, rfl⟩ := sm7 hf
    exact r_iret C h hr hlk rfl dX9_readsLike_8
