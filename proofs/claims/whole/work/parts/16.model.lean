def f_X9_readsNumber_b79 (x_this_begun : Int32) (y_this_at : Int32) (y_this_value : Int32) : Option (Int32 × Int32 × Int32) := (if (y_this_at - x_this_begun) ≤ (4 : Int32) then some (y_this_at, (100 : Int32), y_this_value) else some (y_this_at, (101 : Int32), y_this_value))
def f_X9_readsNumber_b63 (rec5 : Int32 → Int32 → Option (Int32 × Int32 × Int32)) (s1 : Int32) (y_this_at : Int32) (y_this_value : Int32) : Option (Int32 × Int32 × Int32) := lt1 (y_this_at + (1 : Int32)) (fun (t8 : Int32) => rec5 t8 s1)
def f_X9_readsNumber_L5 (x_this_taped : Int32) (x_this_begun : Int32) (f_this_tape : Nat → Int32) : Nat → Int32 → Int32 → Option (Int32 × Int32 × Int32)
  | 0, _, _ => none
  | n + 1, y_this_at, y_this_value => bd1 (f_X9_byteAt y_this_at x_this_taped f_this_tape) (fun r1 => bd1 (f_X9_in1 r1 (48 : Int32) (57 : Int32)) (fun r3 => (if r3 = 0 then f_X9_readsNumber_b79 x_this_begun y_this_at y_this_value else (if (4 : Int32) ≤ (y_this_at - x_this_begun) then f_X9_readsNumber_b63 (f_X9_readsNumber_L5 x_this_taped x_this_begun f_this_tape n) y_this_value y_this_at y_this_value else bd1 (f_X9_byteAt y_this_at x_this_taped f_this_tape) (fun r9 => f_X9_readsNumber_b63 (f_X9_readsNumber_L5 x_this_taped x_this_begun f_this_tape n) ((((10 : Int32) * y_this_value) + r9) - (48 : Int32)) y_this_at y_this_value)))))
def f_X9_readsNumber (x_this_taped : Int32) (x_this_at : Int32) (x_this_begun : Int32) (f_this_tape : Nat → Int32) : Option (Int32 × Int32 × Int32) := f_X9_readsNumber_L5 x_this_taped x_this_begun f_this_tape 1000 x_this_at (0 : Int32)
set_option maxRecDepth 100000 in
set_option maxHeartbeats 4000000 in
theorem c_X9_readsNumber {l : Launch} {G : Gt} {h_this h_this_s h_this_kept h_this_laid h_this_pile h_this_tape h_this_letters h_this_code0 h_this_read h_this_saved h_this_plan h_this_bestPlan h_this_offThen h_this_paidThen h_this_rows h_this_sorts h_this_sizes h_this_number h_this_holds h_this_heldOne h_this_trace : Nat} {x_this_isKept : Int32} {x_this_taped : Int32} {x_this_at : Int32} {x_this_begun : Int32} {x_this_token : Int32} {x_this_value : Int32} {x_this_opened : Int32} {x_this_steps : Int32} {x_this_most : Int32} {x_this_many : Int32} {x_this_few : Int32} {x_this_everHome : Int32} {x_this_firstFit : Int32} {x_this_rowMany : Int32} {x_this_traced : Int32} {x_this_own : Int32} {x_this_isParted : Int32} {f_this_tape : Nat → Int32} {m_this_at : Int32} {m_this_token : Int32} {m_this_value : Int32} (hf : f_X9_readsNumber x_this_taped x_this_at x_this_begun f_this_tape = some (m_this_at, m_this_token, m_this_value)) : mFv l G yX9_readsNumber cX9_readsNumber 1 1 [.ref h_this] [(h_this, ob 9 [.ref h_this_s, .ref h_this_kept, .ref h_this_laid, .int x_this_isKept, .ref h_this_pile, .ref h_this_tape, .int x_this_taped, .ref h_this_letters, .int x_this_at, .int x_this_begun, .int x_this_token, .int x_this_value, .int x_this_opened, .int x_this_steps, .ref h_this_code0, .ref h_this_read, .ref h_this_saved, .ref h_this_plan, .ref h_this_bestPlan, .int x_this_most, .int x_this_many, .int x_this_few, .int x_this_everHome, .ref h_this_offThen, .ref h_this_paidThen, .int x_this_firstFit, .ref h_this_rows, .int x_this_rowMany, .ref h_this_sorts, .ref h_this_sizes, .ref h_this_number, .ref h_this_holds, .ref h_this_heldOne, .ref h_this_trace, .int x_this_traced, .int x_this_own, .int x_this_isParted]), (h_this_tape, ia G 200 f_this_tape)] [(h_this, ob 9 [.ref h_this_s, .ref h_this_kept, .ref h_this_laid, .int x_this_isKept, .ref h_this_pile, .ref h_this_tape, .int x_this_taped, .ref h_this_letters, .int m_this_at, .int x_this_begun, .int m_this_token, .int m_this_value, .int x_this_opened, .int x_this_steps, .ref h_this_code0, .ref h_this_read, .ref h_this_saved, .ref h_this_plan, .ref h_this_bestPlan, .int x_this_most, .int x_this_many, .int x_this_few, .int x_this_everHome, .ref h_this_offThen, .ref h_this_paidThen, .int x_this_firstFit, .ref h_this_rows, .int x_this_rowMany, .ref h_this_sorts, .ref h_this_sizes, .ref h_this_number, .ref h_this_holds, .ref h_this_heldOne, .ref h_this_trace, .int x_this_traced, .int x_this_own, .int x_this_isParted]), (h_this_tape, ia G 200 f_this_tape)] := by
  refine mFv.of (by decide +kernel) (Nat.le_of_ble_eq_true rfl) ?_
  intro p e s m below meth c A C hr hlk h ls hl
  obtain ⟨hx, hb, hml, hown, hts⟩ := id C
  replace hl : lv_has ls 1 [(0, .ref h_this)] := hl
  unfold f_X9_readsNumber at hf
  refine with_K G A 1 (fun K hK1 hK2 => ?_)
  have B79 : ∀ (y_this_at : Int32) (y_this_value : Int32), f_X9_readsNumber_b79 x_this_begun y_this_at y_this_value = some (m_this_at, m_this_token, m_this_value) → K 79 ([] : List Value) [(h_this, ob 9 [.ref h_this_s, .ref h_this_kept, .ref h_this_laid, .int x_this_isKept, .ref h_this_pile, .ref h_this_tape, .int x_this_taped, .ref h_this_letters, .int y_this_at, .int x_this_begun, .int x_this_token, .int y_this_value, .int x_this_opened, .int x_this_steps, .ref h_this_code0, .ref h_this_read, .ref h_this_saved, .ref h_this_plan, .ref h_this_bestPlan, .int x_this_most, .int x_this_many, .int x_this_few, .int x_this_everHome, .ref h_this_offThen, .ref h_this_paidThen, .int x_this_firstFit, .ref h_this_rows, .int x_this_rowMany, .ref h_this_sorts, .ref h_this_sizes, .ref h_this_number, .ref h_this_holds, .ref h_this_heldOne, .ref h_this_trace, .int x_this_traced, .int x_this_own, .int x_this_isParted]), (h_this_tape, ia G 200 f_this_tape)] [(0, .ref h_this)] := by
    intro y_this_at y_this_value hf
    unfold f_X9_readsNumber_b79 at hf
    refine hK1 _ _ _ _ (fun H locs ls h hl => ?_)
    refine lv_aload_n hx hb dX9_readsNumber_79 rfl (lv_at hl 0 rfl) ?_
    refine lv_aload_n hx hb dX9_readsNumber_80 rfl (lv_at hl 0 rfl) ?_
    refine r_get C h fk_X9_131 0 rfl rfl dX9_readsNumber_81 ?_
    refine lv_aload_n hx hb dX9_readsNumber_84 rfl (lv_at hl 0 rfl) ?_
    refine r_get C h fk_X9_134 0 rfl rfl dX9_readsNumber_85 ?_
    refine lv_isub hx hb dX9_readsNumber_88 ?_
    refine lv_iconst (v := (4 : Int32)) hx hb dX9_readsNumber_89 rfl ?_
    refine lv_icmp_le (tgt := 98) hx hb dX9_readsNumber_90 rfl (fun c6 => ?_) (fun c6 => ?_)
    · replace hf := ifp c6 hf
      refine lv_bipush (v := (100 : Int32)) hx hb dX9_readsNumber_98 rfl ?_
      refine r_put (ws' := [(h_this, ob 9 [.ref h_this_s, .ref h_this_kept, .ref h_this_laid, .int x_this_isKept, .ref h_this_pile, .ref h_this_tape, .int x_this_taped, .ref h_this_letters, .int y_this_at, .int x_this_begun, .int (100 : Int32), .int y_this_value, .int x_this_opened, .int x_this_steps, .ref h_this_code0, .ref h_this_read, .ref h_this_saved, .ref h_this_plan, .ref h_this_bestPlan, .int x_this_most, .int x_this_many, .int x_this_few, .int x_this_everHome, .ref h_this_offThen, .ref h_this_paidThen, .int x_this_firstFit, .ref h_this_rows, .int x_this_rowMany, .ref h_this_sorts, .ref h_this_sizes, .ref h_this_number, .ref h_this_holds, .ref h_this_heldOne, .ref h_this_trace, .int x_this_traced, .int x_this_own, .int x_this_isParted]), (h_this_tape, ia G 200 f_this_tape)]) C h fw_X9_140 0 rfl rfl rfl (Nat.le_of_ble_eq_true rfl) dX9_readsNumber_100 rfl (fun H locs h => ?_)
      cases hf
      exact r_vret C h hr hlk dX9_readsNumber_103
    · replace hf := ifn c6 hf
      refine lv_bipush (v := (101 : Int32)) hx hb dX9_readsNumber_93 rfl ?_
      refine lv_goto (tgt := 100) hx hb dX9_readsNumber_95 rfl ?_
      refine r_put (ws' := [(h_this, ob 9 [.ref h_this_s, .ref h_this_kept, .ref h_this_laid, .int x_this_isKept, .ref h_this_pile, .ref h_this_tape, .int x_this_taped, .ref h_this_letters, .int y_this_at, .int x_this_begun, .int (101 : Int32), .int y_this_value, .int x_this_opened, .int x_this_steps, .ref h_this_code0, .ref h_this_read, .ref h_this_saved, .ref h_this_plan, .ref h_this_bestPlan, .int x_this_most, .int x_this_many, .int x_this_few, .int x_this_everHome, .ref h_this_offThen, .ref h_this_paidThen, .int x_this_firstFit, .ref h_this_rows, .int x_this_rowMany, .ref h_this_sorts, .ref h_this_sizes, .ref h_this_number, .ref h_this_holds, .ref h_this_heldOne, .ref h_this_trace, .int x_this_traced, .int x_this_own, .int x_this_isParted]), (h_this_tape, ia G 200 f_this_tape)]) C h fw_X9_140 0 rfl rfl rfl (Nat.le_of_ble_eq_true rfl) dX9_readsNumber_100 rfl (fun H locs h => ?_)
      cases hf
      exact r_vret C h hr hlk dX9_readsNumber_103
  have B63 : ∀ (rec5 : Int32 → Int32 → Option (Int32 × Int32 × Int32)) (hrec5 : ∀ (y_this_at : Int32) (y_this_value : Int32), rec5 y_this_at y_this_value = some (m_this_at, m_this_token, m_this_value) → K 5 ([] : List Value) [(h_this, ob 9 [.ref h_this_s, .ref h_this_kept, .ref h_this_laid, .int x_this_isKept, .ref h_this_pile, .ref h_this_tape, .int x_this_taped, .ref h_this_letters, .int y_this_at, .int x_this_begun, .int x_this_token, .int y_this_value, .int x_this_opened, .int x_this_steps, .ref h_this_code0, .ref h_this_read, .ref h_this_saved, .ref h_this_plan, .ref h_this_bestPlan, .int x_this_most, .int x_this_many, .int x_this_few, .int x_this_everHome, .ref h_this_offThen, .ref h_this_paidThen, .int x_this_firstFit, .ref h_this_rows, .int x_this_rowMany, .ref h_this_sorts, .ref h_this_sizes, .ref h_this_number, .ref h_this_holds, .ref h_this_heldOne, .ref h_this_trace, .int x_this_traced, .int x_this_own, .int x_this_isParted]), (h_this_tape, ia G 200 f_this_tape)] [(0, .ref h_this)]) (s1 : Int32) (y_this_at : Int32) (y_this_value : Int32), f_X9_readsNumber_b63 rec5 s1 y_this_at y_this_value = some (m_this_at, m_this_token, m_this_value) → K 63 [.int s1, .ref h_this] [(h_this, ob 9 [.ref h_this_s, .ref h_this_kept, .ref h_this_laid, .int x_this_isKept, .ref h_this_pile, .ref h_this_tape, .int x_this_taped, .ref h_this_letters, .int y_this_at, .int x_this_begun, .int x_this_token, .int y_this_value, .int x_this_opened, .int x_this_steps, .ref h_this_code0, .ref h_this_read, .ref h_this_saved, .ref h_this_plan, .ref h_this_bestPlan, .int x_this_most, .int x_this_many, .int x_this_few, .int x_this_everHome, .ref h_this_offThen, .ref h_this_paidThen, .int x_this_firstFit, .ref h_this_rows, .int x_this_rowMany, .ref h_this_sorts, .ref h_this_sizes, .ref h_this_number, .ref h_this_holds, .ref h_this_heldOne, .ref h_this_trace, .int x_this_traced, .int x_this_own, .int x_this_isParted]), (h_this_tape, ia G 200 f_this_tape)] [(0, .ref h_this)] := by
    intro rec5 hrec5 s1 y_this_at y_this_value hf
    unfold f_X9_readsNumber_b63 at hf
    refine hK1 _ _ _ _ (fun H locs ls h hl => ?_)
    refine r_put (ws' := [(h_this, ob 9 [.ref h_this_s, .ref h_this_kept, .ref h_this_laid, .int x_this_isKept, .ref h_this_pile, .ref h_this_tape, .int x_this_taped, .ref h_this_letters, .int y_this_at, .int x_this_begun, .int x_this_token, .int s1, .int x_this_opened, .int x_this_steps, .ref h_this_code0, .ref h_this_read, .ref h_this_saved, .ref h_this_plan, .ref h_this_bestPlan, .int x_this_most, .int x_this_many, .int x_this_few, .int x_this_everHome, .ref h_this_offThen, .ref h_this_paidThen, .int x_this_firstFit, .ref h_this_rows, .int x_this_rowMany, .ref h_this_sorts, .ref h_this_sizes, .ref h_this_number, .ref h_this_holds, .ref h_this_heldOne, .ref h_this_trace, .int x_this_traced, .int x_this_own, .int x_this_isParted]), (h_this_tape, ia G 200 f_this_tape)]) C h fw_X9_146 0 rfl rfl rfl (Nat.le_of_ble_eq_true rfl) dX9_readsNumber_63 rfl (fun H locs h => ?_)
    refine lv_aload_n hx hb dX9_readsNumber_66 rfl (lv_at hl 0 rfl) ?_
    refine lv_dup hx hb dX9_readsNumber_67 rfl ?_
    refine r_get C h fk_X9_131 0 rfl rfl dX9_readsNumber_68 ?_
    refine lv_iconst (v := (1 : Int32)) hx hb dX9_readsNumber_71 rfl ?_
    refine lv_iadd hx hb dX9_readsNumber_72 ?_
    refine lv_topi (fun t8 et8 => ?_)
    replace hf := lt1_inv et8 hf
    refine r_put (ws' := [(h_this, ob 9 [.ref h_this_s, .ref h_this_kept, .ref h_this_laid, .int x_this_isKept, .ref h_this_pile, .ref h_this_tape, .int x_this_taped, .ref h_this_letters, .int t8, .int x_this_begun, .int x_this_token, .int s1, .int x_this_opened, .int x_this_steps, .ref h_this_code0, .ref h_this_read, .ref h_this_saved, .ref h_this_plan, .ref h_this_bestPlan, .int x_this_most, .int x_this_many, .int x_this_few, .int x_this_everHome, .ref h_this_offThen, .ref h_this_paidThen, .int x_this_firstFit, .ref h_this_rows, .int x_this_rowMany, .ref h_this_sorts, .ref h_this_sizes, .ref h_this_number, .ref h_this_holds, .ref h_this_heldOne, .ref h_this_trace, .int x_this_traced, .int x_this_own, .int x_this_isParted]), (h_this_tape, ia G 200 f_this_tape)]) C h fw_X9_131 0 rfl rfl rfl (Nat.le_of_ble_eq_true rfl) dX9_readsNumber_73 rfl (fun H locs h => ?_)
    refine lv_goto (tgt := 5) hx hb dX9_readsNumber_76 rfl ?_
    exact hK2 _ _ _ _ (hrec5 t8 s1 hf) _ _ _ h (lv_sub hl [0] rfl)
  have L5 : ∀ (n : Nat) (y_this_at : Int32) (y_this_value : Int32), f_X9_readsNumber_L5 x_this_taped x_this_begun f_this_tape n y_this_at y_this_value = some (m_this_at, m_this_token, m_this_value) → K 5 ([] : List Value) [(h_this, ob 9 [.ref h_this_s, .ref h_this_kept, .ref h_this_laid, .int x_this_isKept, .ref h_this_pile, .ref h_this_tape, .int x_this_taped, .ref h_this_letters, .int y_this_at, .int x_this_begun, .int x_this_token, .int y_this_value, .int x_this_opened, .int x_this_steps, .ref h_this_code0, .ref h_this_read, .ref h_this_saved, .ref h_this_plan, .ref h_this_bestPlan, .int x_this_most, .int x_this_many, .int x_this_few, .int x_this_everHome, .ref h_this_offThen, .ref h_this_paidThen, .int x_this_firstFit, .ref h_this_rows, .int x_this_rowMany, .ref h_this_sorts, .ref h_this_sizes, .ref h_this_number, .ref h_this_holds, .ref h_this_heldOne, .ref h_this_trace, .int x_this_traced, .int x_this_own, .int x_this_isParted]), (h_this_tape, ia G 200 f_this_tape)] [(0, .ref h_this)] := by
    intro n
    induction n with
    | zero =>
      intro y_this_at y_this_value hf
      replace hf : (none : Option _) = some _ := hf
      cases hf
    | succ n ih =>
      intro y_this_at y_this_value hf
      rw [f_X9_readsNumber_L5] at hf
      refine hK1 _ _ _ _ (fun H locs ls h hl => ?_)
      refine lv_aload_n hx hb dX9_readsNumber_5 rfl (lv_at hl 0 rfl) ?_
      refine lv_aload_n hx hb dX9_readsNumber_6 rfl (lv_at hl 0 rfl) ?_
      refine r_get C h fk_X9_131 0 rfl rfl dX9_readsNumber_7 ?_
      replace hf := bd1_inv hf
      obtain ⟨r1, hc2, hf⟩ := hf
      refine r_ciV0 C h (c_X9_byteAt hc2) mv_X9_137 rfl 0 rfl [0, 1] rfl rfl hl.1 rfl (Nat.le_of_ble_eq_true rfl) (rok (by decide)) dX9_readsNumber_10 (fun H locs h => ?_)
      refine lv_bipush (v := (48 : Int32)) hx hb dX9_readsNumber_13 rfl ?_
      refine lv_bipush (v := (57 : Int32)) hx hb dX9_readsNumber_15 rfl ?_
      replace hf := bd1_inv hf
      obtain ⟨r3, hc4, hf⟩ := hf
      refine r_ciS0 C h (c_X9_in1 hc4) ms_X9_71 rfl [] rfl rfl hl.1 rfl (Nat.le_of_ble_eq_true rfl) (rok (by decide)) dX9_readsNumber_17 (fun H locs h => ?_)
      refine lv_if_eq (tgt := 79) hx hb dX9_readsNumber_20 rfl (fun c5 => ?_) (fun c5 => ?_)
      · replace hf := ifp c5 hf
        exact hK2 _ _ _ _ (B79 y_this_at y_this_value hf) _ _ _ h (lv_sub hl [0] rfl)
      · replace hf := ifn c5 hf
        refine lv_aload_n hx hb dX9_readsNumber_23 rfl (lv_at hl 0 rfl) ?_
        refine lv_aload_n hx hb dX9_readsNumber_24 rfl (lv_at hl 0 rfl) ?_
        refine r_get C h fk_X9_131 0 rfl rfl dX9_readsNumber_25 ?_
        refine lv_aload_n hx hb dX9_readsNumber_28 rfl (lv_at hl 0 rfl) ?_
        refine r_get C h fk_X9_134 0 rfl rfl dX9_readsNumber_29 ?_
        refine lv_isub hx hb dX9_readsNumber_32 ?_
        refine lv_iconst (v := (4 : Int32)) hx hb dX9_readsNumber_33 rfl ?_
        refine lv_icmp_ge (tgt := 59) hx hb dX9_readsNumber_34 rfl (fun c7 => ?_) (fun c7 => ?_)
        · replace hf := ifp c7 hf
          refine lv_aload_n hx hb dX9_readsNumber_59 rfl (lv_at hl 0 rfl) ?_
          refine r_get C h fk_X9_146 0 rfl rfl dX9_readsNumber_60 ?_
          exact hK2 _ _ _ _ (B63 _ ih y_this_value y_this_at y_this_value hf) _ _ _ h (lv_sub hl [0] rfl)
        · replace hf := ifn c7 hf
          refine lv_bipush (v := (10 : Int32)) hx hb dX9_readsNumber_37 rfl ?_
          refine lv_aload_n hx hb dX9_readsNumber_39 rfl (lv_at hl 0 rfl) ?_
          refine r_get C h fk_X9_146 0 rfl rfl dX9_readsNumber_40 ?_
          refine lv_imul hx hb dX9_readsNumber_43 ?_
          refine lv_aload_n hx hb dX9_readsNumber_44 rfl (lv_at hl 0 rfl) ?_
          refine lv_aload_n hx hb dX9_readsNumber_45 rfl (lv_at hl 0 rfl) ?_
          refine r_get C h fk_X9_131 0 rfl rfl dX9_readsNumber_46 ?_
          replace hf := bd1_inv hf
          obtain ⟨r9, hc10, hf⟩ := hf
          refine r_ciV0 C h (c_X9_byteAt hc10) mv_X9_137 rfl 0 rfl [0, 1] rfl rfl hl.1 rfl (Nat.le_of_ble_eq_true rfl) (rok (by decide)) dX9_readsNumber_49 (fun H locs h => ?_)
          refine lv_iadd hx hb dX9_readsNumber_52 ?_
          refine lv_bipush (v := (48 : Int32)) hx hb dX9_readsNumber_53 rfl ?_
          refine lv_isub hx hb dX9_readsNumber_55 ?_
          refine lv_goto (tgt := 63) hx hb dX9_readsNumber_56 rfl ?_
          exact hK2 _ _ _ _ (B63 _ ih ((((10 : Int32) * y_this_value) + r9) - (48 : Int32)) y_this_at y_this_value hf) _ _ _ h (lv_sub hl [0] rfl)
  refine lv_aload_n hx hb dX9_readsNumber_0 rfl (lv_at hl 0 rfl) ?_
  refine lv_iconst (v := (0 : Int32)) hx hb dX9_readsNumber_1 rfl ?_
  refine r_put (ws' := [(h_this, ob 9 [.ref h_this_s, .ref h_this_kept, .ref h_this_laid, .int x_this_isKept, .ref h_this_pile, .ref h_this_tape, .int x_this_taped, .ref h_this_letters, .int x_this_at, .int x_this_begun, .int x_this_token, .int (0 : Int32), .int x_this_opened, .int x_this_steps, .ref h_this_code0, .ref h_this_read, .ref h_this_saved, .ref h_this_plan, .ref h_this_bestPlan, .int x_this_most, .int x_this_many, .int x_this_few, .int x_this_everHome, .ref h_this_offThen, .ref h_this_paidThen, .int x_this_firstFit, .ref h_this_rows, .int x_this_rowMany, .ref h_this_sorts, .ref h_this_sizes, .ref h_this_number, .ref h_this_holds, .ref h_this_heldOne, .ref h_this_trace, .int x_this_traced, .int x_this_own, .int x_this_isParted]), (h_this_tape, ia G 200 f_this_tape)]) C h fw_X9_146 0 rfl rfl rfl (Nat.le_of_ble_eq_true rfl) dX9_readsNumber_2 rfl (fun H locs h => ?_)
  exact hK2 _ _ _ _ (L5 1000 x_this_at (0 : Int32) hf) _ _ _ h (lv_sub hl [0] rfl)
def f_X9_next_b26 (x_this_taped : Int32) (x_this_value : Int32) (f_this_letters : Nat → Int32) (f_this_tape : Nat → Int32) (y_this_at : Int32) : Option (Int32 × Int32 × Int32 × Int32) := bd1 (f_X9_byteAt y_this_at x_this_taped f_this_tape) (fun r4 => (if 0 ≤ r4 then bd1 (f_X9_in1 r4 (97 : Int32) (122 : Int32)) (fun r7 => (if r7 = 0 then bd1 (f_X9_in1 r4 (48 : Int32) (57 : Int32)) (fun r10 => (if r10 = 0 then lt1 ((200 : Int32) + r4) (fun (t13 : Int32) => lt1 (y_this_at + (1 : Int32)) (fun (t14 : Int32) => some (t14, y_this_at, t13, x_this_value))) else bd3 (f_X9_readsNumber x_this_taped y_this_at y_this_at f_this_tape) (fun y15 y16 y17 => some (y15, y_this_at, y16, y17)))) else bd2 (f_X9_readsName x_this_taped y_this_at y_this_at f_this_letters f_this_tape) (fun y19 y20 => some (y19, y_this_at, y20, x_this_value)))) else some (y_this_at, y_this_at, (-1 : Int32), x_this_value)))
def f_X9_next_L0 (x_this_taped : Int32) (x_this_value : Int32) (f_this_letters : Nat → Int32) (f_this_tape : Nat → Int32) : Nat → Int32 → Option (Int32 × Int32 × Int32 × Int32)
  | 0, _ => none
  | n + 1, y_this_at => bd1 (f_X9_byteAt y_this_at x_this_taped f_this_tape) (fun r1 => (if r1 = (32 : Int32) then lt1 (y_this_at + (1 : Int32)) (fun (t22 : Int32) => (f_X9_next_L0 x_this_taped x_this_value f_this_letters f_this_tape n) t22) else f_X9_next_b26 x_this_taped x_this_value f_this_letters f_this_tape y_this_at))
def f_X9_next (x_this_taped : Int32) (x_this_at : Int32) (x_this_value : Int32) (f_this_letters : Nat → Int32) (f_this_tape : Nat → Int32) : Option (Int32 × Int32 × Int32 × Int32) := f_X9_next_L0 x_this_taped x_this_value f_this_letters f_this_tape 1000 x_this_at
set_option maxRecDepth 100000 in
set_option maxHeartbeats 4000000 in
theorem c_X9_next {l : Launch} {G : Gt} {h_this h_this_s h_this_kept h_this_laid h_this_pile h_this_tape h_this_letters h_this_code0 h_this_read h_this_saved h_this_plan h_this_bestPlan h_this_offThen h_this_paidThen h_this_rows h_this_sorts h_this_sizes h_this_number h_this_holds h_this_heldOne h_this_trace : Nat} {x_this_isKept : Int32} {x_this_taped : Int32} {x_this_at : Int32} {x_this_begun : Int32} {x_this_token : Int32} {x_this_value : Int32} {x_this_opened : Int32} {x_this_steps : Int32} {x_this_most : Int32} {x_this_many : Int32} {x_this_few : Int32} {x_this_everHome : Int32} {x_this_firstFit : Int32} {x_this_rowMany : Int32} {x_this_traced : Int32} {x_this_own : Int32} {x_this_isParted : Int32} {f_this_letters : Nat → Int32} {f_this_tape : Nat → Int32} {m_this_at : Int32} {m_this_begun : Int32} {m_this_token : Int32} {m_this_value : Int32} (hf : f_X9_next x_this_taped x_this_at x_this_value f_this_letters f_this_tape = some (m_this_at, m_this_begun, m_this_token, m_this_value)) : mFv l G yX9_next cX9_next 2 3 [.ref h_this] [(h_this, ob 9 [.ref h_this_s, .ref h_this_kept, .ref h_this_laid, .int x_this_isKept, .ref h_this_pile, .ref h_this_tape, .int x_this_taped, .ref h_this_letters, .int x_this_at, .int x_this_begun, .int x_this_token, .int x_this_value, .int x_this_opened, .int x_this_steps, .ref h_this_code0, .ref h_this_read, .ref h_this_saved, .ref h_this_plan, .ref h_this_bestPlan, .int x_this_most, .int x_this_many, .int x_this_few, .int x_this_everHome, .ref h_this_offThen, .ref h_this_paidThen, .int x_this_firstFit, .ref h_this_rows, .int x_this_rowMany, .ref h_this_sorts, .ref h_this_sizes, .ref h_this_number, .ref h_this_holds, .ref h_this_heldOne, .ref h_this_trace, .int x_this_traced, .int x_this_own, .int x_this_isParted]), (h_this_letters, ca G 144 f_this_letters), (h_this_tape, ia G 200 f_this_tape)] [(h_this, ob 9 [.ref h_this_s, .ref h_this_kept, .ref h_this_laid, .int x_this_isKept, .ref h_this_pile, .ref h_this_tape, .int x_this_taped, .ref h_this_letters, .int m_this_at, .int m_this_begun, .int m_this_token, .int m_this_value, .int x_this_opened, .int x_this_steps, .ref h_this_code0, .ref h_this_read, .ref h_this_saved, .ref h_this_plan, .ref h_this_bestPlan, .int x_this_most, .int x_this_many, .int x_this_few, .int x_this_everHome, .ref h_this_offThen, .ref h_this_paidThen, .int x_this_firstFit, .ref h_this_rows, .int x_this_rowMany, .ref h_this_sorts, .ref h_this_sizes, .ref h_this_number, .ref h_this_holds, .ref h_this_heldOne, .ref h_this_trace, .int x_this_traced, .int x_this_own, .int x_this_isParted]), (h_this_letters, ca G 144 f_this_letters), (h_this_tape, ia G 200 f_this_tape)] := by
  refine mFv.of (by decide +kernel) (Nat.le_of_ble_eq_true rfl) ?_
  intro p e s m below meth c A C hr hlk h ls hl
  obtain ⟨hx, hb, hml, hown, hts⟩ := id C
  replace hl : lv_has ls 2 [(0, .ref h_this)] := hl
  unfold f_X9_next at hf
  refine with_K G A 2 (fun K hK1 hK2 => ?_)
  have B26 : ∀ (y_this_at : Int32), f_X9_next_b26 x_this_taped x_this_value f_this_letters f_this_tape y_this_at = some (m_this_at, m_this_begun, m_this_token, m_this_value) → K 26 ([] : List Value) [(h_this, ob 9 [.ref h_this_s, .ref h_this_kept, .ref h_this_laid, .int x_this_isKept, .ref h_this_pile, .ref h_this_tape, .int x_this_taped, .ref h_this_letters, .int y_this_at, .int x_this_begun, .int x_this_token, .int x_this_value, .int x_this_opened, .int x_this_steps, .ref h_this_code0, .ref h_this_read, .ref h_this_saved, .ref h_this_plan, .ref h_this_bestPlan, .int x_this_most, .int x_this_many, .int x_this_few, .int x_this_everHome, .ref h_this_offThen, .ref h_this_paidThen, .int x_this_firstFit, .ref h_this_rows, .int x_this_rowMany, .ref h_this_sorts, .ref h_this_sizes, .ref h_this_number, .ref h_this_holds, .ref h_this_heldOne, .ref h_this_trace, .int x_this_traced, .int x_this_own, .int x_this_isParted]), (h_this_letters, ca G 144 f_this_letters), (h_this_tape, ia G 200 f_this_tape)] [(0, .ref h_this)] := by
    intro y_this_at hf
    unfold f_X9_next_b26 at hf
    refine hK1 _ _ _ _ (fun H locs ls h hl => ?_)
    refine lv_aload_n hx hb dX9_next_26 rfl (lv_at hl 0 rfl) ?_
    refine lv_aload_n hx hb dX9_next_27 rfl (lv_at hl 0 rfl) ?_
    refine r_get C h fk_X9_131 0 rfl rfl dX9_next_28 ?_
    refine r_put (ws' := [(h_this, ob 9 [.ref h_this_s, .ref h_this_kept, .ref h_this_laid, .int x_this_isKept, .ref h_this_pile, .ref h_this_tape, .int x_this_taped, .ref h_this_letters, .int y_this_at, .int y_this_at, .int x_this_token, .int x_this_value, .int x_this_opened, .int x_this_steps, .ref h_this_code0, .ref h_this_read, .ref h_this_saved, .ref h_this_plan, .ref h_this_bestPlan, .int x_this_most, .int x_this_many, .int x_this_few, .int x_this_everHome, .ref h_this_offThen, .ref h_this_paidThen, .int x_this_firstFit, .ref h_this_rows, .int x_this_rowMany, .ref h_this_sorts, .ref h_this_sizes, .ref h_this_number, .ref h_this_holds, .ref h_this_heldOne, .ref h_this_trace, .int x_this_traced, .int x_this_own, .int x_this_isParted]), (h_this_letters, ca G 144 f_this_letters), (h_this_tape, ia G 200 f_this_tape)]) C h fw_X9_134 0 rfl rfl rfl (Nat.le_of_ble_eq_true rfl) dX9_next_31 rfl (fun H locs h => ?_)
    refine lv_aload_n hx hb dX9_next_34 rfl (lv_at hl 0 rfl) ?_
    refine lv_aload_n hx hb dX9_next_35 rfl (lv_at hl 0 rfl) ?_
    refine r_get C h fk_X9_131 0 rfl rfl dX9_next_36 ?_
    replace hf := bd1_inv hf
    obtain ⟨r4, hc5, hf⟩ := hf
    refine r_ciV0 C h (c_X9_byteAt hc5) mv_X9_137 rfl 0 rfl [0, 2] rfl rfl hl.1 rfl (Nat.le_of_ble_eq_true rfl) (rok (by decide)) dX9_next_39 (fun H locs h => ?_)
    refine lv_istore_n (lv' := [(1, .int r4), (0, .ref h_this)]) hx hb dX9_next_42 rfl hl (by decide) rfl (fun ls hl => ?_)
    refine lv_iload_n hx hb dX9_next_43 rfl (lv_at hl 0 rfl) ?_
    refine lv_if_ge (tgt := 55) hx hb dX9_next_44 rfl (fun c6 => ?_) (fun c6 => ?_)
    · replace hf := ifp c6 hf
      refine lv_iload_n hx hb dX9_next_55 rfl (lv_at hl 0 rfl) ?_
      refine lv_bipush (v := (97 : Int32)) hx hb dX9_next_56 rfl ?_
      refine lv_bipush (v := (122 : Int32)) hx hb dX9_next_58 rfl ?_
      replace hf := bd1_inv hf
      obtain ⟨r7, hc8, hf⟩ := hf
      refine r_ciS0 C h (c_X9_in1 hc8) ms_X9_71 rfl [] rfl rfl hl.1 rfl (Nat.le_of_ble_eq_true rfl) (rok (by decide)) dX9_next_60 (fun H locs h => ?_)
      refine lv_if_eq (tgt := 73) hx hb dX9_next_63 rfl (fun c9 => ?_) (fun c9 => ?_)
      · replace hf := ifp c9 hf
        refine lv_iload_n hx hb dX9_next_73 rfl (lv_at hl 0 rfl) ?_
        refine lv_bipush (v := (48 : Int32)) hx hb dX9_next_74 rfl ?_
        refine lv_bipush (v := (57 : Int32)) hx hb dX9_next_76 rfl ?_
        replace hf := bd1_inv hf
        obtain ⟨r10, hc11, hf⟩ := hf
        refine r_ciS0 C h (c_X9_in1 hc11) ms_X9_71 rfl [] rfl rfl hl.1 rfl (Nat.le_of_ble_eq_true rfl) (rok (by decide)) dX9_next_78 (fun H locs h => ?_)
        refine lv_if_eq (tgt := 91) hx hb dX9_next_81 rfl (fun c12 => ?_) (fun c12 => ?_)
        · replace hf := ifp c12 hf
          refine lv_aload_n hx hb dX9_next_91 rfl (lv_at hl 1 rfl) ?_
          refine lv_sipush (v := (200 : Int32)) hx hb dX9_next_92 rfl ?_
          refine lv_iload_n hx hb dX9_next_95 rfl (lv_at hl 0 rfl) ?_
          refine lv_iadd hx hb dX9_next_96 ?_
          refine lv_topi (fun t13 et13 => ?_)
          replace hf := lt1_inv et13 hf
          refine r_put (ws' := [(h_this, ob 9 [.ref h_this_s, .ref h_this_kept, .ref h_this_laid, .int x_this_isKept, .ref h_this_pile, .ref h_this_tape, .int x_this_taped, .ref h_this_letters, .int y_this_at, .int y_this_at, .int t13, .int x_this_value, .int x_this_opened, .int x_this_steps, .ref h_this_code0, .ref h_this_read, .ref h_this_saved, .ref h_this_plan, .ref h_this_bestPlan, .int x_this_most, .int x_this_many, .int x_this_few, .int x_this_everHome, .ref h_this_offThen, .ref h_this_paidThen, .int x_this_firstFit, .ref h_this_rows, .int x_this_rowMany, .ref h_this_sorts, .ref h_this_sizes, .ref h_this_number, .ref h_this_holds, .ref h_this_heldOne, .ref h_this_trace, .int x_this_traced, .int x_this_own, .int x_this_isParted]), (h_this_letters, ca G 144 f_this_letters), (h_this_tape, ia G 200 f_this_tape)]) C h fw_X9_140 0 rfl rfl rfl (Nat.le_of_ble_eq_true rfl) dX9_next_97 rfl (fun H locs h => ?_)
          refine lv_aload_n hx hb dX9_next_100 rfl (lv_at hl 1 rfl) ?_
          refine lv_dup hx hb dX9_next_101 rfl ?_
          refine r_get C h fk_X9_131 0 rfl rfl dX9_next_102 ?_
          refine lv_iconst (v := (1 : Int32)) hx hb dX9_next_105 rfl ?_
          refine lv_iadd hx hb dX9_next_106 ?_
          refine lv_topi (fun t14 et14 => ?_)
          replace hf := lt1_inv et14 hf
          refine r_put (ws' := [(h_this, ob 9 [.ref h_this_s, .ref h_this_kept, .ref h_this_laid, .int x_this_isKept, .ref h_this_pile, .ref h_this_tape, .int x_this_taped, .ref h_this_letters, .int t14, .int y_this_at, .int t13, .int x_this_value, .int x_this_opened, .int x_this_steps, .ref h_this_code0, .ref h_this_read, .ref h_this_saved, .ref h_this_plan, .ref h_this_bestPlan, .int x_this_most, .int x_this_many, .int x_this_few, .int x_this_everHome, .ref h_this_offThen, .ref h_this_paidThen, .int x_this_firstFit, .ref h_this_rows, .int x_this_rowMany, .ref h_this_sorts, .ref h_this_sizes, .ref h_this_number, .ref h_this_holds, .ref h_this_heldOne, .ref h_this_trace, .int x_this_traced, .int x_this_own, .int x_this_isParted]), (h_this_letters, ca G 144 f_this_letters), (h_this_tape, ia G 200 f_this_tape)]) C h fw_X9_131 0 rfl rfl rfl (Nat.le_of_ble_eq_true rfl) dX9_next_107 rfl (fun H locs h => ?_)
          cases hf
          exact r_vret C h hr hlk dX9_next_110
        · replace hf := ifn c12 hf
          refine lv_aload_n hx hb dX9_next_84 rfl (lv_at hl 1 rfl) ?_
          replace hf := bd3_inv hf
          obtain ⟨y15, y16, y17, hc18, hf⟩ := hf
          refine r_cvV (ws' := [(h_this, ob 9 [.ref h_this_s, .ref h_this_kept, .ref h_this_laid, .int x_this_isKept, .ref h_this_pile, .ref h_this_tape, .int x_this_taped, .ref h_this_letters, .int y15, .int y_this_at, .int y16, .int y17, .int x_this_opened, .int x_this_steps, .ref h_this_code0, .ref h_this_read, .ref h_this_saved, .ref h_this_plan, .ref h_this_bestPlan, .int x_this_most, .int x_this_many, .int x_this_few, .int x_this_everHome, .ref h_this_offThen, .ref h_this_paidThen, .int x_this_firstFit, .ref h_this_rows, .int x_this_rowMany, .ref h_this_sorts, .ref h_this_sizes, .ref h_this_number, .ref h_this_holds, .ref h_this_heldOne, .ref h_this_trace, .int x_this_traced, .int x_this_own, .int x_this_isParted]), (h_this_letters, ca G 144 f_this_letters), (h_this_tape, ia G 200 f_this_tape)]) C h (c_X9_readsNumber hc18) mv_X9_152 rfl 0 rfl [0, 2] rfl rfl rfl rfl rfl hl.1 rfl (Nat.le_of_ble_eq_true rfl) (rok (by decide)) dX9_next_85 (fun H locs h => ?_)
          refine lv_goto (tgt := 110) hx hb dX9_next_88 rfl ?_
          cases hf
          exact r_vret C h hr hlk dX9_next_110
      · replace hf := ifn c9 hf
        refine lv_aload_n hx hb dX9_next_66 rfl (lv_at hl 1 rfl) ?_
        replace hf := bd2_inv hf
        obtain ⟨y19, y20, hc21, hf⟩ := hf
        refine r_cvV (ws' := [(h_this, ob 9 [.ref h_this_s, .ref h_this_kept, .ref h_this_laid, .int x_this_isKept, .ref h_this_pile, .ref h_this_tape, .int x_this_taped, .ref h_this_letters, .int y19, .int y_this_at, .int y20, .int x_this_value, .int x_this_opened, .int x_this_steps, .ref h_this_code0, .ref h_this_read, .ref h_this_saved, .ref h_this_plan, .ref h_this_bestPlan, .int x_this_most, .int x_this_many, .int x_this_few, .int x_this_everHome, .ref h_this_offThen, .ref h_this_paidThen, .int x_this_firstFit, .ref h_this_rows, .int x_this_rowMany, .ref h_this_sorts, .ref h_this_sizes, .ref h_this_number, .ref h_this_holds, .ref h_this_heldOne, .ref h_this_trace, .int x_this_traced, .int x_this_own, .int x_this_isParted]), (h_this_letters, ca G 144 f_this_letters), (h_this_tape, ia G 200 f_this_tape)]) C h (c_X9_readsName hc21) mv_X9_149 rfl 0 rfl [0, 1, 2] rfl rfl rfl rfl rfl hl.1 rfl (Nat.le_of_ble_eq_true rfl) (rok (by decide)) dX9_next_67 (fun H locs h => ?_)
        refine lv_goto (tgt := 110) hx hb dX9_next_70 rfl ?_
        cases hf
        exact r_vret C h hr hlk dX9_next_110
    · replace hf := ifn c6 hf
      refine lv_aload_n hx hb dX9_next_47 rfl (lv_at hl 1 rfl) ?_
      refine lv_iconst (v := (-1 : Int32)) hx hb dX9_next_48 rfl ?_
      refine r_put (ws' := [(h_this, ob 9 [.ref h_this_s, .ref h_this_kept, .ref h_this_laid, .int x_this_isKept, .ref h_this_pile, .ref h_this_tape, .int x_this_taped, .ref h_this_letters, .int y_this_at, .int y_this_at, .int (-1 : Int32), .int x_this_value, .int x_this_opened, .int x_this_steps, .ref h_this_code0, .ref h_this_read, .ref h_this_saved, .ref h_this_plan, .ref h_this_bestPlan, .int x_this_most, .int x_this_many, .int x_this_few, .int x_this_everHome, .ref h_this_offThen, .ref h_this_paidThen, .int x_this_firstFit, .ref h_this_rows, .int x_this_rowMany, .ref h_this_sorts, .ref h_this_sizes, .ref h_this_number, .ref h_this_holds, .ref h_this_heldOne, .ref h_this_trace, .int x_this_traced, .int x_this_own, .int x_this_isParted]), (h_this_letters, ca G 144 f_this_letters), (h_this_tape, ia G 200 f_this_tape)]) C h fw_X9_140 0 rfl rfl rfl (Nat.le_of_ble_eq_true rfl) dX9_next_49 rfl (fun H locs h => ?_)
      refine lv_goto (tgt := 110) hx hb dX9_next_52 rfl ?_
      cases hf
      exact r_vret C h hr hlk dX9_next_110
  have L0 : ∀ (n : Nat) (y_this_at : Int32), f_X9_next_L0 x_this_taped x_this_value f_this_letters f_this_tape n y_this_at = some (m_this_at, m_this_begun, m_this_token, m_this_value) → K 0 ([] : List Value) [(h_this, ob 9 [.ref h_this_s, .ref h_this_kept, .ref h_this_laid, .int x_this_isKept, .ref h_this_pile, .ref h_this_tape, .int x_this_taped, .ref h_this_letters, .int y_this_at, .int x_this_begun, .int x_this_token, .int x_this_value, .int x_this_opened, .int x_this_steps, .ref h_this_code0, .ref h_this_read, .ref h_this_saved, .ref h_this_plan, .ref h_this_bestPlan, .int x_this_most, .int x_this_many, .int x_this_few, .int x_this_everHome, .ref h_this_offThen, .ref h_this_paidThen, .int x_this_firstFit, .ref h_this_rows, .int x_this_rowMany, .ref h_this_sorts, .ref h_this_sizes, .ref h_this_number, .ref h_this_holds, .ref h_this_heldOne, .ref h_this_trace, .int x_this_traced, .int x_this_own, .int x_this_isParted]), (h_this_letters, ca G 144 f_this_letters), (h_this_tape, ia G 200 f_this_tape)] [(0, .ref h_this)] := by
    intro n
    induction n with
    | zero =>
      intro y_this_at hf
      replace hf : (none : Option _) = some _ := hf
      cases hf
    | succ n ih =>
      intro y_this_at hf
      rw [f_X9_next_L0] at hf
      refine hK1 _ _ _ _ (fun H locs ls h hl => ?_)
      refine lv_aload_n hx hb dX9_next_0 rfl (lv_at hl 0 rfl) ?_
      refine lv_aload_n hx hb dX9_next_1 rfl (lv_at hl 0 rfl) ?_
      refine r_get C h fk_X9_131 0 rfl rfl dX9_next_2 ?_
      replace hf := bd1_inv hf
      obtain ⟨r1, hc2, hf⟩ := hf
      refine r_ciV0 C h (c_X9_byteAt hc2) mv_X9_137 rfl 0 rfl [0, 2] rfl rfl hl.1 rfl (Nat.le_of_ble_eq_true rfl) (rok (by decide)) dX9_next_5 (fun H locs h => ?_)
      refine lv_bipush (v := (32 : Int32)) hx hb dX9_next_8 rfl ?_
      refine lv_icmp_ne (tgt := 26) hx hb dX9_next_10 rfl (fun c3 => ?_) (fun c3 => ?_)
      · replace hf := ifn c3 hf
        exact hK2 _ _ _ _ (B26 y_this_at hf) _ _ _ h (lv_sub hl [0] rfl)
      · replace hf := ifp c3 hf
        refine lv_aload_n hx hb dX9_next_13 rfl (lv_at hl 0 rfl) ?_
        refine lv_dup hx hb dX9_next_14 rfl ?_
        refine r_get C h fk_X9_131 0 rfl rfl dX9_next_15 ?_
        refine lv_iconst (v := (1 : Int32)) hx hb dX9_next_18 rfl ?_
        refine lv_iadd hx hb dX9_next_19 ?_
        refine lv_topi (fun t22 et22 => ?_)
        replace hf := lt1_inv et22 hf
        refine r_put (ws' := [(h_this, ob 9 [.ref h_this_s, .ref h_this_kept, .ref h_this_laid, .int x_this_isKept, .ref h_this_pile, .ref h_this_tape, .int x_this_taped, .ref h_this_letters, .int t22, .int x_this_begun, .int x_this_token, .int x_this_value, .int x_this_opened, .int x_this_steps, .ref h_this_code0, .ref h_this_read, .ref h_this_saved, .ref h_this_plan, .ref h_this_bestPlan, .int x_this_most, .int x_this_many, .int x_this_few, .int x_this_everHome, .ref h_this_offThen, .ref h_this_paidThen, .int x_this_firstFit, .ref h_this_rows, .int x_this_rowMany, .ref h_this_sorts, .ref h_this_sizes, .ref h_this_number, .ref h_this_holds, .ref h_this_heldOne, .ref h_this_trace, .int x_this_traced, .int x_this_own, .int x_this_isParted]), (h_this_letters, ca G 144 f_this_letters), (h_this_tape, ia G 200 f_this_tape)]) C h fw_X9_131 0 rfl rfl rfl (Nat.le_of_ble_eq_true rfl) dX9_next_20 rfl (fun H locs h => ?_)
        refine lv_goto (tgt := 0) hx hb dX9_next_23 rfl ?_
        exact hK2 _ _ _ _ (ih t22 hf) _ _ _ h (lv_sub hl [0] rfl)
  exact hK2 _ _ _ _ (L0 1000 x_this_at hf) _ _ _ h (lv_sub hl [0] rfl)
def f_X9_takes_b13 (x_this_taped : Int32) (x_this_at : Int32) (x_this_begun : Int32) (x_this_token : Int32) (x_this_value : Int32) (f_this_letters : Nat → Int32) (f_this_tape : Nat → Int32) (s0 : Int32) : Option (Int32 × Int32 × Int32 × Int32 × Int32) := (if s0 = 0 then chkB s0 (some (s0, x_this_at, x_this_begun, x_this_token, x_this_value)) else bd4 (f_X9_next x_this_taped x_this_at x_this_value f_this_letters f_this_tape) (fun y4 y5 y6 y7 => chkB s0 (some (s0, y4, y5, y6, y7))))
def f_X9_takes (p0 : Int32) (x_this_taped : Int32) (x_this_at : Int32) (x_this_begun : Int32) (x_this_token : Int32) (x_this_value : Int32) (f_this_letters : Nat → Int32) (f_this_tape : Nat → Int32) : Option (Int32 × Int32 × Int32 × Int32 × Int32) := (if x_this_token = p0 then f_X9_takes_b13 x_this_taped x_this_at x_this_begun x_this_token x_this_value f_this_letters f_this_tape (1 : Int32) else f_X9_takes_b13 x_this_taped x_this_at x_this_begun x_this_token x_this_value f_this_letters f_this_tape (0 : Int32))
set_option maxRecDepth 100000 in
set_option maxHeartbeats 4000000 in
theorem c_X9_takes {l : Launch} {G : Gt} {h_this h_this_s h_this_kept h_this_laid h_this_pile h_this_tape h_this_letters h_this_code0 h_this_read h_this_saved h_this_plan h_this_bestPlan h_this_offThen h_this_paidThen h_this_rows h_this_sorts h_this_sizes h_this_number h_this_holds h_this_heldOne h_this_trace : Nat} {p0 : Int32} {x_this_isKept : Int32} {x_this_taped : Int32} {x_this_at : Int32} {x_this_begun : Int32} {x_this_token : Int32} {x_this_value : Int32} {x_this_opened : Int32} {x_this_steps : Int32} {x_this_most : Int32} {x_this_many : Int32} {x_this_few : Int32} {x_this_everHome : Int32} {x_this_firstFit : Int32} {x_this_rowMany : Int32} {x_this_traced : Int32} {x_this_own : Int32} {x_this_isParted : Int32} {f_this_letters : Nat → Int32} {f_this_tape : Nat → Int32} {r : Int32} {m_this_at : Int32} {m_this_begun : Int32} {m_this_token : Int32} {m_this_value : Int32} (hf : f_X9_takes p0 x_this_taped x_this_at x_this_begun x_this_token x_this_value f_this_letters f_this_tape = some (r, m_this_at, m_this_begun, m_this_token, m_this_value)) : mFi l G yX9_takes cX9_takes 3 .boolean 4 [.ref h_this, .int p0] [(h_this, ob 9 [.ref h_this_s, .ref h_this_kept, .ref h_this_laid, .int x_this_isKept, .ref h_this_pile, .ref h_this_tape, .int x_this_taped, .ref h_this_letters, .int x_this_at, .int x_this_begun, .int x_this_token, .int x_this_value, .int x_this_opened, .int x_this_steps, .ref h_this_code0, .ref h_this_read, .ref h_this_saved, .ref h_this_plan, .ref h_this_bestPlan, .int x_this_most, .int x_this_many, .int x_this_few, .int x_this_everHome, .ref h_this_offThen, .ref h_this_paidThen, .int x_this_firstFit, .ref h_this_rows, .int x_this_rowMany, .ref h_this_sorts, .ref h_this_sizes, .ref h_this_number, .ref h_this_holds, .ref h_this_heldOne, .ref h_this_trace, .int x_this_traced, .int x_this_own, .int x_this_isParted]), (h_this_letters, ca G 144 f_this_letters), (h_this_tape, ia G 200 f_this_tape)] r [(h_this, ob 9 [.ref h_this_s, .ref h_this_kept, .ref h_this_laid, .int x_this_isKept, .ref h_this_pile, .ref h_this_tape, .int x_this_taped, .ref h_this_letters, .int m_this_at, .int m_this_begun, .int m_this_token, .int m_this_value, .int x_this_opened, .int x_this_steps, .ref h_this_code0, .ref h_this_read, .ref h_this_saved, .ref h_this_plan, .ref h_this_bestPlan, .int x_this_most, .int x_this_many, .int x_this_few, .int x_this_everHome, .ref h_this_offThen, .ref h_this_paidThen, .int x_this_firstFit, .ref h_this_rows, .int x_this_rowMany, .ref h_this_sorts, .ref h_this_sizes, .ref h_this_number, .ref h_this_holds, .ref h_this_heldOne, .ref h_this_trace, .int x_this_traced, .int x_this_own, .int x_this_isParted]), (h_this_letters, ca G 144 f_this_letters), (h_this_tape, ia G 200 f_this_tape)] := by
  refine mFi.of (by decide +kernel) (Nat.le_of_ble_eq_true rfl) ?_
  intro p e s m below meth c A C hr hlk h ls hl
  obtain ⟨hx, hb, hml, hown, hts⟩ := id C
  replace hl : lv_has ls 3 [(0, .ref h_this), (1, .int p0)] := hl
  unfold f_X9_takes at hf
  refine with_K G A 3 (fun K hK1 hK2 => ?_)
  have B13 : ∀ (s0 : Int32), f_X9_takes_b13 x_this_taped x_this_at x_this_begun x_this_token x_this_value f_this_letters f_this_tape s0 = some (r, m_this_at, m_this_begun, m_this_token, m_this_value) → K 13 [.int s0] [(h_this, ob 9 [.ref h_this_s, .ref h_this_kept, .ref h_this_laid, .int x_this_isKept, .ref h_this_pile, .ref h_this_tape, .int x_this_taped, .ref h_this_letters, .int x_this_at, .int x_this_begun, .int x_this_token, .int x_this_value, .int x_this_opened, .int x_this_steps, .ref h_this_code0, .ref h_this_read, .ref h_this_saved, .ref h_this_plan, .ref h_this_bestPlan, .int x_this_most, .int x_this_many, .int x_this_few, .int x_this_everHome, .ref h_this_offThen, .ref h_this_paidThen, .int x_this_firstFit, .ref h_this_rows, .int x_this_rowMany, .ref h_this_sorts, .ref h_this_sizes, .ref h_this_number, .ref h_this_holds, .ref h_this_heldOne, .ref h_this_trace, .int x_this_traced, .int x_this_own, .int x_this_isParted]), (h_this_letters, ca G 144 f_this_letters), (h_this_tape, ia G 200 f_this_tape)] [(0, .ref h_this)] := by
    intro s0 hf
    unfold f_X9_takes_b13 at hf
    refine hK1 _ _ _ _ (fun H locs ls h hl => ?_)
    refine lv_istore_n (lv' := [(2, .int s0), (0, .ref h_this)]) hx hb dX9_takes_13 rfl hl (by decide) rfl (fun ls hl => ?_)
    refine lv_iload_n hx hb dX9_takes_14 rfl (lv_at hl 0 rfl) ?_
    refine lv_if_eq (tgt := 22) hx hb dX9_takes_15 rfl (fun c2 => ?_) (fun c2 => ?_)
    · replace hf := ifp c2 hf
      refine lv_iload_n hx hb dX9_takes_22 rfl (lv_at hl 0 rfl) ?_
      replace hf := chkB_inv hf
      obtain ⟨hb3, hf⟩ := hf
      cases hf
      exact r_iret C h hr hlk hb3 dX9_takes_23
    · replace hf := ifn c2 hf
      refine lv_aload_n hx hb dX9_takes_18 rfl (lv_at hl 1 rfl) ?_
      replace hf := bd4_inv hf
      obtain ⟨y4, y5, y6, y7, hc8, hf⟩ := hf
      refine r_cvV (ws' := [(h_this, ob 9 [.ref h_this_s, .ref h_this_kept, .ref h_this_laid, .int x_this_isKept, .ref h_this_pile, .ref h_this_tape, .int x_this_taped, .ref h_this_letters, .int y4, .int y5, .int y6, .int y7, .int x_this_opened, .int x_this_steps, .ref h_this_code0, .ref h_this_read, .ref h_this_saved, .ref h_this_plan, .ref h_this_bestPlan, .int x_this_most, .int x_this_many, .int x_this_few, .int x_this_everHome, .ref h_this_offThen, .ref h_this_paidThen, .int x_this_firstFit, .ref h_this_rows, .int x_this_rowMany, .ref h_this_sorts, .ref h_this_sizes, .ref h_this_number, .ref h_this_holds, .ref h_this_heldOne, .ref h_this_trace, .int x_this_traced, .int x_this_own, .int x_this_isParted]), (h_this_letters, ca G 144 f_this_letters), (h_this_tape, ia G 200 f_this_tape)]) C h (c_X9_next hc8) mv_X9_155 rfl 0 rfl [0, 1, 2] rfl rfl rfl rfl rfl hl.1 rfl (Nat.le_of_ble_eq_true rfl) (rok (by decide)) dX9_takes_19 (fun H locs h => ?_)
      refine lv_iload_n hx hb dX9_takes_22 rfl (lv_at hl 0 rfl) ?_
      replace hf := chkB_inv hf
      obtain ⟨hb9, hf⟩ := hf
      cases hf
      exact r_iret C h hr hlk hb9 dX9_takes_23
  refine lv_aload_n hx hb dX9_takes_0 rfl (lv_at hl 0 rfl) ?_
  refine r_get C h fk_X9_140 0 rfl rfl dX9_takes_1 ?_
  refine lv_iload_n hx hb dX9_takes_4 rfl (lv_at hl 1 rfl) ?_
  refine lv_icmp_ne (tgt := 12) hx hb dX9_takes_5 rfl (fun c1 => ?_) (fun c1 => ?_)
  · replace hf := ifn c1 hf
    refine lv_iconst (v := (0 : Int32)) hx hb dX9_takes_12 rfl ?_
    exact hK2 _ _ _ _ (B13 (0 : Int32) hf) _ _ _ h (lv_sub hl [0] rfl)
  · replace hf := ifp c1 hf
    refine lv_iconst (v := (1 : Int32)) hx hb dX9_takes_8 rfl ?_
    refine lv_goto (tgt := 13) hx hb dX9_takes_9 rfl ?_
    exact hK2 _ _ _ _ (B13 (1 : Int32) hf) _ _ _ h (lv_sub hl [0] rfl)
def f_X9_lays (p0 : Int32) (x_this_steps : Int32) (f_this_code0 : Nat → Int32) : Option (Int32 × (Nat → Int32)) := chkI x_this_steps 200 (lt1 (x_this_steps + (1 : Int32)) (fun (t2 : Int32) => some (t2, upd f_this_code0 x_this_steps.toNatClampNeg p0)))
set_option maxRecDepth 100000 in
set_option maxHeartbeats 4000000 in
theorem c_X9_lays {l : Launch} {G : Gt} {h_this h_this_s h_this_kept h_this_laid h_this_pile h_this_tape h_this_letters h_this_code0 h_this_read h_this_saved h_this_plan h_this_bestPlan h_this_offThen h_this_paidThen h_this_rows h_this_sorts h_this_sizes h_this_number h_this_holds h_this_heldOne h_this_trace : Nat} {p0 : Int32} {x_this_isKept : Int32} {x_this_taped : Int32} {x_this_at : Int32} {x_this_begun : Int32} {x_this_token : Int32} {x_this_value : Int32} {x_this_opened : Int32} {x_this_steps : Int32} {x_this_most : Int32} {x_this_many : Int32} {x_this_few : Int32} {x_this_everHome : Int32} {x_this_firstFit : Int32} {x_this_rowMany : Int32} {x_this_traced : Int32} {x_this_own : Int32} {x_this_isParted : Int32} {f_this_code0 : Nat → Int32} {m_this_steps : Int32} {m_this_code0 : Nat → Int32} (hf : f_X9_lays p0 x_this_steps f_this_code0 = some (m_this_steps, m_this_code0)) : mFv l G yX9_lays cX9_lays 2 0 [.ref h_this, .int p0] [(h_this, ob 9 [.ref h_this_s, .ref h_this_kept, .ref h_this_laid, .int x_this_isKept, .ref h_this_pile, .ref h_this_tape, .int x_this_taped, .ref h_this_letters, .int x_this_at, .int x_this_begun, .int x_this_token, .int x_this_value, .int x_this_opened, .int x_this_steps, .ref h_this_code0, .ref h_this_read, .ref h_this_saved, .ref h_this_plan, .ref h_this_bestPlan, .int x_this_most, .int x_this_many, .int x_this_few, .int x_this_everHome, .ref h_this_offThen, .ref h_this_paidThen, .int x_this_firstFit, .ref h_this_rows, .int x_this_rowMany, .ref h_this_sorts, .ref h_this_sizes, .ref h_this_number, .ref h_this_holds, .ref h_this_heldOne, .ref h_this_trace, .int x_this_traced, .int x_this_own, .int x_this_isParted]), (h_this_code0, ia G 200 f_this_code0)] [(h_this, ob 9 [.ref h_this_s, .ref h_this_kept, .ref h_this_laid, .int x_this_isKept, .ref h_this_pile, .ref h_this_tape, .int x_this_taped, .ref h_this_letters, .int x_this_at, .int x_this_begun, .int x_this_token, .int x_this_value, .int x_this_opened, .int m_this_steps, .ref h_this_code0, .ref h_this_read, .ref h_this_saved, .ref h_this_plan, .ref h_this_bestPlan, .int x_this_most, .int x_this_many, .int x_this_few, .int x_this_everHome, .ref h_this_offThen, .ref h_this_paidThen, .int x_this_firstFit, .ref h_this_rows, .int x_this_rowMany, .ref h_this_sorts, .ref h_this_sizes, .ref h_this_number, .ref h_this_holds, .ref h_this_heldOne, .ref h_this_trace, .int x_this_traced, .int x_this_own, .int x_this_isParted]), (h_this_code0, ia G 200 m_this_code0)] := by
  refine mFv.of (by decide +kernel) (Nat.le_of_ble_eq_true rfl) ?_
  intro p e s m below meth c A C hr hlk h ls hl
  obtain ⟨hx, hb, hml, hown, hts⟩ := id C
  replace hl : lv_has ls 2 [(0, .ref h_this), (1, .int p0)] := hl
  unfold f_X9_lays at hf
  refine lv_aload_n hx hb dX9_lays_0 rfl (lv_at hl 0 rfl) ?_
  refine r_get C h fk_X9_29 0 rfl rfl dX9_lays_1 ?_
  refine lv_aload_n hx hb dX9_lays_4 rfl (lv_at hl 0 rfl) ?_
  refine r_get C h fk_X9_158 0 rfl rfl dX9_lays_5 ?_
  refine lv_iload_n hx hb dX9_lays_8 rfl (lv_at hl 1 rfl) ?_
  replace hf := chkI_inv hf
  obtain ⟨hi1, hf⟩ := hf
  refine r_iast (ws' := [(h_this, ob 9 [.ref h_this_s, .ref h_this_kept, .ref h_this_laid, .int x_this_isKept, .ref h_this_pile, .ref h_this_tape, .int x_this_taped, .ref h_this_letters, .int x_this_at, .int x_this_begun, .int x_this_token, .int x_this_value, .int x_this_opened, .int x_this_steps, .ref h_this_code0, .ref h_this_read, .ref h_this_saved, .ref h_this_plan, .ref h_this_bestPlan, .int x_this_most, .int x_this_many, .int x_this_few, .int x_this_everHome, .ref h_this_offThen, .ref h_this_paidThen, .int x_this_firstFit, .ref h_this_rows, .int x_this_rowMany, .ref h_this_sorts, .ref h_this_sizes, .ref h_this_number, .ref h_this_holds, .ref h_this_heldOne, .ref h_this_trace, .int x_this_traced, .int x_this_own, .int x_this_isParted]), (h_this_code0, ia G 200 (upd f_this_code0 x_this_steps.toNatClampNeg p0))]) C h 1 rfl hi1 dX9_lays_9 rfl (fun H locs h => ?_)
  refine lv_aload_n hx hb dX9_lays_10 rfl (lv_at hl 0 rfl) ?_
  refine lv_dup hx hb dX9_lays_11 rfl ?_
  refine r_get C h fk_X9_158 0 rfl rfl dX9_lays_12 ?_
  refine lv_iconst (v := (1 : Int32)) hx hb dX9_lays_15 rfl ?_
  refine lv_iadd hx hb dX9_lays_16 ?_
  refine lv_topi (fun t2 et2 => ?_)
  replace hf := lt1_inv et2 hf
  refine r_put (ws' := [(h_this, ob 9 [.ref h_this_s, .ref h_this_kept, .ref h_this_laid, .int x_this_isKept, .ref h_this_pile, .ref h_this_tape, .int x_this_taped, .ref h_this_letters, .int x_this_at, .int x_this_begun, .int x_this_token, .int x_this_value, .int x_this_opened, .int t2, .ref h_this_code0, .ref h_this_read, .ref h_this_saved, .ref h_this_plan, .ref h_this_bestPlan, .int x_this_most, .int x_this_many, .int x_this_few, .int x_this_everHome, .ref h_this_offThen, .ref h_this_paidThen, .int x_this_firstFit, .ref h_this_rows, .int x_this_rowMany, .ref h_this_sorts, .ref h_this_sizes, .ref h_this_number, .ref h_this_holds, .ref h_this_heldOne, .ref h_this_trace, .int x_this_traced, .int x_this_own, .int x_this_isParted]), (h_this_code0, ia G 200 (upd f_this_code0 x_this_steps.toNatClampNeg p0))]) C h fw_X9_158 0 rfl rfl rfl (Nat.le_of_ble_eq_true rfl) dX9_lays_17 rfl (fun H locs h => ?_)
  cases hf
  exact r_vret C h hr hlk dX9_lays_20
def f_X9_readsValue_b28 (x_this_taped : Int32) (x_this_at : Int32) (x_this_begun : Int32) (x_this_token : Int32) (x_this_value : Int32) (x_this_steps : Int32) (f_this_code0 : Nat → Int32) (f_this_letters : Nat → Int32) (f_this_tape : Nat → Int32) (s0 : Int32) : Option (Int32 × Int32 × Int32 × Int32 × Int32 × Int32 × (Nat → Int32)) := (if s0 = 0 then chkB s0 (some (s0, x_this_at, x_this_begun, x_this_token, x_this_value, x_this_steps, f_this_code0)) else (if x_this_token = (100 : Int32) then bd2 (f_X9_lays x_this_value x_this_steps f_this_code0) (fun y14 g15 => bd4 (f_X9_next x_this_taped x_this_at x_this_value f_this_letters f_this_tape) (fun y17 y18 y19 y20 => chkB s0 (some (s0, y17, y18, y19, y20, y14, g15)))) else bd2 (f_X9_lays (((10000 : Int32) + x_this_token) - (13 : Int32)) x_this_steps f_this_code0) (fun y5 g6 => bd4 (f_X9_next x_this_taped x_this_at x_this_value f_this_letters f_this_tape) (fun y8 y9 y10 y11 => chkB s0 (some (s0, y8, y9, y10, y11, y5, g6))))))
def f_X9_readsValue_b23 (x_this_taped : Int32) (x_this_at : Int32) (x_this_begun : Int32) (x_this_token : Int32) (x_this_value : Int32) (x_this_steps : Int32) (f_this_code0 : Nat → Int32) (f_this_letters : Nat → Int32) (f_this_tape : Nat → Int32) : Option (Int32 × Int32 × Int32 × Int32 × Int32 × Int32 × (Nat → Int32)) := f_X9_readsValue_b28 x_this_taped x_this_at x_this_begun x_this_token x_this_value x_this_steps f_this_code0 f_this_letters f_this_tape (1 : Int32)
def f_X9_readsValue (x_this_taped : Int32) (x_this_at : Int32) (x_this_begun : Int32) (x_this_token : Int32) (x_this_value : Int32) (x_this_steps : Int32) (f_this_code0 : Nat → Int32) (f_this_letters : Nat → Int32) (f_this_tape : Nat → Int32) : Option (Int32 × Int32 × Int32 × Int32 × Int32 × Int32 × (Nat → Int32)) := (if x_this_token = (100 : Int32) then f_X9_readsValue_b23 x_this_taped x_this_at x_this_begun x_this_token x_this_value x_this_steps f_this_code0 f_this_letters f_this_tape else bd1 (f_X9_in1 x_this_token (13 : Int32) (17 : Int32)) (fun r23 => (if r23 = 0 then f_X9_readsValue_b28 x_this_taped x_this_at x_this_begun x_this_token x_this_value x_this_steps f_this_code0 f_this_letters f_this_tape (0 : Int32) else f_X9_readsValue_b23 x_this_taped x_this_at x_this_begun x_this_token x_this_value x_this_steps f_this_code0 f_this_letters f_this_tape)))
set_option maxRecDepth 100000 in
set_option maxHeartbeats 4000000 in
theorem c_X9_readsValue {l : Launch} {G : Gt} {h_this h_this_s h_this_kept h_this_laid h_this_pile h_this_tape h_this_letters h_this_code0 h_this_read h_this_saved h_this_plan h_this_bestPlan h_this_offThen h_this_paidThen h_this_rows h_this_sorts h_this_sizes h_this_number h_this_holds h_this_heldOne h_this_trace : Nat} {x_this_isKept : Int32} {x_this_taped : Int32} {x_this_at : Int32} {x_this_begun : Int32} {x_this_token : Int32} {x_this_value : Int32} {x_this_opened : Int32} {x_this_steps : Int32} {x_this_most : Int32} {x_this_many : Int32} {x_this_few : Int32} {x_this_everHome : Int32} {x_this_firstFit : Int32} {x_this_rowMany : Int32} {x_this_traced : Int32} {x_this_own : Int32} {x_this_isParted : Int32} {f_this_code0 : Nat → Int32} {f_this_letters : Nat → Int32} {f_this_tape : Nat → Int32} {r : Int32} {m_this_at : Int32} {m_this_begun : Int32} {m_this_token : Int32} {m_this_value : Int32} {m_this_steps : Int32} {m_this_code0 : Nat → Int32} (hf : f_X9_readsValue x_this_taped x_this_at x_this_begun x_this_token x_this_value x_this_steps f_this_code0 f_this_letters f_this_tape = some (r, m_this_at, m_this_begun, m_this_token, m_this_value, m_this_steps, m_this_code0)) : mFi l G yX9_readsValue cX9_readsValue 2 .boolean 4 [.ref h_this] [(h_this, ob 9 [.ref h_this_s, .ref h_this_kept, .ref h_this_laid, .int x_this_isKept, .ref h_this_pile, .ref h_this_tape, .int x_this_taped, .ref h_this_letters, .int x_this_at, .int x_this_begun, .int x_this_token, .int x_this_value, .int x_this_opened, .int x_this_steps, .ref h_this_code0, .ref h_this_read, .ref h_this_saved, .ref h_this_plan, .ref h_this_bestPlan, .int x_this_most, .int x_this_many, .int x_this_few, .int x_this_everHome, .ref h_this_offThen, .ref h_this_paidThen, .int x_this_firstFit, .ref h_this_rows, .int x_this_rowMany, .ref h_this_sorts, .ref h_this_sizes, .ref h_this_number, .ref h_this_holds, .ref h_this_heldOne, .ref h_this_trace, .int x_this_traced, .int x_this_own, .int x_this_isParted]), (h_this_code0, ia G 200 f_this_code0), (h_this_letters, ca G 144 f_this_letters), (h_this_tape, ia G 200 f_this_tape)] r [(h_this, ob 9 [.ref h_this_s, .ref h_this_kept, .ref h_this_laid, .int x_this_isKept, .ref h_this_pile, .ref h_this_tape, .int x_this_taped, .ref h_this_letters, .int m_this_at, .int m_this_begun, .int m_this_token, .int m_this_value, .int x_this_opened, .int m_this_steps, .ref h_this_code0, .ref h_this_read, .ref h_this_saved, .ref h_this_plan, .ref h_this_bestPlan, .int x_this_most, .int x_this_many, .int x_this_few, .int x_this_everHome, .ref h_this_offThen, .ref h_this_paidThen, .int x_this_firstFit, .ref h_this_rows, .int x_this_rowMany, .ref h_this_sorts, .ref h_this_sizes, .ref h_this_number, .ref h_this_holds, .ref h_this_heldOne, .ref h_this_trace, .int x_this_traced, .int x_this_own, .int x_this_isParted]), (h_this_code0, ia G 200 m_this_code0), (h_this_letters, ca G 144 f_this_letters), (h_this_tape, ia G 200 f_this_tape)] := by
  refine mFi.of (by decide +kernel) (Nat.le_of_ble_eq_true rfl) ?_
  intro p e s m below meth c A C hr hlk h ls hl
  obtain ⟨hx, hb, hml, hown, hts⟩ := id C
  replace hl : lv_has ls 2 [(0, .ref h_this)] := hl
  unfold f_X9_readsValue at hf
  refine with_K G A 2 (fun K hK1 hK2 => ?_)
  have B28 : ∀ (s0 : Int32), f_X9_readsValue_b28 x_this_taped x_this_at x_this_begun x_this_token x_this_value x_this_steps f_this_code0 f_this_letters f_this_tape s0 = some (r, m_this_at, m_this_begun, m_this_token, m_this_value, m_this_steps, m_this_code0) → K 28 [.int s0] [(h_this, ob 9 [.ref h_this_s, .ref h_this_kept, .ref h_this_laid, .int x_this_isKept, .ref h_this_pile, .ref h_this_tape, .int x_this_taped, .ref h_this_letters, .int x_this_at, .int x_this_begun, .int x_this_token, .int x_this_value, .int x_this_opened, .int x_this_steps, .ref h_this_code0, .ref h_this_read, .ref h_this_saved, .ref h_this_plan, .ref h_this_bestPlan, .int x_this_most, .int x_this_many, .int x_this_few, .int x_this_everHome, .ref h_this_offThen, .ref h_this_paidThen, .int x_this_firstFit, .ref h_this_rows, .int x_this_rowMany, .ref h_this_sorts, .ref h_this_sizes, .ref h_this_number, .ref h_this_holds, .ref h_this_heldOne, .ref h_this_trace, .int x_this_traced, .int x_this_own, .int x_this_isParted]), (h_this_code0, ia G 200 f_this_code0), (h_this_letters, ca G 144 f_this_letters), (h_this_tape, ia G 200 f_this_tape)] [(0, .ref h_this)] := by
    intro s0 hf
    unfold f_X9_readsValue_b28 at hf
    refine hK1 _ _ _ _ (fun H locs ls h hl => ?_)
    refine lv_istore_n (lv' := [(1, .int s0), (0, .ref h_this)]) hx hb dX9_readsValue_28 rfl hl (by decide) rfl (fun ls hl => ?_)
    refine lv_iload_n hx hb dX9_readsValue_29 rfl (lv_at hl 0 rfl) ?_
    refine lv_if_eq (tgt := 68) hx hb dX9_readsValue_30 rfl (fun c2 => ?_) (fun c2 => ?_)
    · replace hf := ifp c2 hf
      refine lv_iload_n hx hb dX9_readsValue_68 rfl (lv_at hl 0 rfl) ?_
      replace hf := chkB_inv hf
      obtain ⟨hb3, hf⟩ := hf
      cases hf
      exact r_iret C h hr hlk hb3 dX9_readsValue_69
    · replace hf := ifn c2 hf
      refine lv_aload_n hx hb dX9_readsValue_33 rfl (lv_at hl 1 rfl) ?_
      refine lv_aload_n hx hb dX9_readsValue_34 rfl (lv_at hl 1 rfl) ?_
      refine r_get C h fk_X9_140 0 rfl rfl dX9_readsValue_35 ?_
      refine lv_bipush (v := (100 : Int32)) hx hb dX9_readsValue_38 rfl ?_
      refine lv_icmp_ne (tgt := 50) hx hb dX9_readsValue_40 rfl (fun c4 => ?_) (fun c4 => ?_)
      · replace hf := ifn c4 hf
        refine lv_sipush (v := (10000 : Int32)) hx hb dX9_readsValue_50 rfl ?_
        refine lv_aload_n hx hb dX9_readsValue_53 rfl (lv_at hl 1 rfl) ?_
        refine r_get C h fk_X9_140 0 rfl rfl dX9_readsValue_54 ?_
        refine lv_iadd hx hb dX9_readsValue_57 ?_
        refine lv_bipush (v := (13 : Int32)) hx hb dX9_readsValue_58 rfl ?_
        refine lv_isub hx hb dX9_readsValue_60 ?_
        replace hf := bd2_inv hf
        obtain ⟨y5, g6, hc7, hf⟩ := hf
        refine r_cvV (ws' := [(h_this, ob 9 [.ref h_this_s, .ref h_this_kept, .ref h_this_laid, .int x_this_isKept, .ref h_this_pile, .ref h_this_tape, .int x_this_taped, .ref h_this_letters, .int x_this_at, .int x_this_begun, .int x_this_token, .int x_this_value, .int x_this_opened, .int y5, .ref h_this_code0, .ref h_this_read, .ref h_this_saved, .ref h_this_plan, .ref h_this_bestPlan, .int x_this_most, .int x_this_many, .int x_this_few, .int x_this_everHome, .ref h_this_offThen, .ref h_this_paidThen, .int x_this_firstFit, .ref h_this_rows, .int x_this_rowMany, .ref h_this_sorts, .ref h_this_sizes, .ref h_this_number, .ref h_this_holds, .ref h_this_heldOne, .ref h_this_trace, .int x_this_traced, .int x_this_own, .int x_this_isParted]), (h_this_code0, ia G 200 g6), (h_this_letters, ca G 144 f_this_letters), (h_this_tape, ia G 200 f_this_tape)]) C h (c_X9_lays hc7) mv_X9_161 rfl 0 rfl [0, 1] rfl rfl rfl rfl rfl hl.1 rfl (Nat.le_of_ble_eq_true rfl) (rok (by decide)) dX9_readsValue_61 (fun H locs h => ?_)
        refine lv_aload_n hx hb dX9_readsValue_64 rfl (lv_at hl 1 rfl) ?_
        replace hf := bd4_inv hf
        obtain ⟨y8, y9, y10, y11, hc12, hf⟩ := hf
        refine r_cvV (ws' := [(h_this, ob 9 [.ref h_this_s, .ref h_this_kept, .ref h_this_laid, .int x_this_isKept, .ref h_this_pile, .ref h_this_tape, .int x_this_taped, .ref h_this_letters, .int y8, .int y9, .int y10, .int y11, .int x_this_opened, .int y5, .ref h_this_code0, .ref h_this_read, .ref h_this_saved, .ref h_this_plan, .ref h_this_bestPlan, .int x_this_most, .int x_this_many, .int x_this_few, .int x_this_everHome, .ref h_this_offThen, .ref h_this_paidThen, .int x_this_firstFit, .ref h_this_rows, .int x_this_rowMany, .ref h_this_sorts, .ref h_this_sizes, .ref h_this_number, .ref h_this_holds, .ref h_this_heldOne, .ref h_this_trace, .int x_this_traced, .int x_this_own, .int x_this_isParted]), (h_this_code0, ia G 200 g6), (h_this_letters, ca G 144 f_this_letters), (h_this_tape, ia G 200 f_this_tape)]) C h (c_X9_next hc12) mv_X9_155 rfl 0 rfl [0, 2, 3] rfl rfl rfl rfl rfl hl.1 rfl (Nat.le_of_ble_eq_true rfl) (rok (by decide)) dX9_readsValue_65 (fun H locs h => ?_)
        refine lv_iload_n hx hb dX9_readsValue_68 rfl (lv_at hl 0 rfl) ?_
        replace hf := chkB_inv hf
        obtain ⟨hb13, hf⟩ := hf
        cases hf
        exact r_iret C h hr hlk hb13 dX9_readsValue_69
      · replace hf := ifp c4 hf
        refine lv_aload_n hx hb dX9_readsValue_43 rfl (lv_at hl 1 rfl) ?_
        refine r_get C h fk_X9_146 0 rfl rfl dX9_readsValue_44 ?_
        refine lv_goto (tgt := 61) hx hb dX9_readsValue_47 rfl ?_
        replace hf := bd2_inv hf
        obtain ⟨y14, g15, hc16, hf⟩ := hf
        refine r_cvV (ws' := [(h_this, ob 9 [.ref h_this_s, .ref h_this_kept, .ref h_this_laid, .int x_this_isKept, .ref h_this_pile, .ref h_this_tape, .int x_this_taped, .ref h_this_letters, .int x_this_at, .int x_this_begun, .int x_this_token, .int x_this_value, .int x_this_opened, .int y14, .ref h_this_code0, .ref h_this_read, .ref h_this_saved, .ref h_this_plan, .ref h_this_bestPlan, .int x_this_most, .int x_this_many, .int x_this_few, .int x_this_everHome, .ref h_this_offThen, .ref h_this_paidThen, .int x_this_firstFit, .ref h_this_rows, .int x_this_rowMany, .ref h_this_sorts, .ref h_this_sizes, .ref h_this_number, .ref h_this_holds, .ref h_this_heldOne, .ref h_this_trace, .int x_this_traced, .int x_this_own, .int x_this_isParted]), (h_this_code0, ia G 200 g15), (h_this_letters, ca G 144 f_this_letters), (h_this_tape, ia G 200 f_this_tape)]) C h (c_X9_lays hc16) mv_X9_161 rfl 0 rfl [0, 1] rfl rfl rfl rfl rfl hl.1 rfl (Nat.le_of_ble_eq_true rfl) (rok (by decide)) dX9_readsValue_61 (fun H locs h => ?_)
        refine lv_aload_n hx hb dX9_readsValue_64 rfl (lv_at hl 1 rfl) ?_
        replace hf := bd4_inv hf
        obtain ⟨y17, y18, y19, y20, hc21, hf⟩ := hf
        refine r_cvV (ws' := [(h_this, ob 9 [.ref h_this_s, .ref h_this_kept, .ref h_this_laid, .int x_this_isKept, .ref h_this_pile, .ref h_this_tape, .int x_this_taped, .ref h_this_letters, .int y17, .int y18, .int y19, .int y20, .int x_this_opened, .int y14, .ref h_this_code0, .ref h_this_read, .ref h_this_saved, .ref h_this_plan, .ref h_this_bestPlan, .int x_this_most, .int x_this_many, .int x_this_few, .int x_this_everHome, .ref h_this_offThen, .ref h_this_paidThen, .int x_this_firstFit, .ref h_this_rows, .int x_this_rowMany, .ref h_this_sorts, .ref h_this_sizes, .ref h_this_number, .ref h_this_holds, .ref h_this_heldOne, .ref h_this_trace, .int x_this_traced, .int x_this_own, .int x_this_isParted]), (h_this_code0, ia G 200 g15), (h_this_letters, ca G 144 f_this_letters), (h_this_tape, ia G 200 f_this_tape)]) C h (c_X9_next hc21) mv_X9_155 rfl 0 rfl [0, 2, 3] rfl rfl rfl rfl rfl hl.1 rfl (Nat.le_of_ble_eq_true rfl) (rok (by decide)) dX9_readsValue_65 (fun H locs h => ?_)
        refine lv_iload_n hx hb dX9_readsValue_68 rfl (lv_at hl 0 rfl) ?_
        replace hf := chkB_inv hf
        obtain ⟨hb22, hf⟩ := hf
        cases hf
        exact r_iret C h hr hlk hb22 dX9_readsValue_69
  have B23 : f_X9_readsValue_b23 x_this_taped x_this_at x_this_begun x_this_token x_this_value x_this_steps f_this_code0 f_this_letters f_this_tape = some (r, m_this_at, m_this_begun, m_this_token, m_this_value, m_this_steps, m_this_code0) → K 23 ([] : List Value) [(h_this, ob 9 [.ref h_this_s, .ref h_this_kept, .ref h_this_laid, .int x_this_isKept, .ref h_this_pile, .ref h_this_tape, .int x_this_taped, .ref h_this_letters, .int x_this_at, .int x_this_begun, .int x_this_token, .int x_this_value, .int x_this_opened, .int x_this_steps, .ref h_this_code0, .ref h_this_read, .ref h_this_saved, .ref h_this_plan, .ref h_this_bestPlan, .int x_this_most, .int x_this_many, .int x_this_few, .int x_this_everHome, .ref h_this_offThen, .ref h_this_paidThen, .int x_this_firstFit, .ref h_this_rows, .int x_this_rowMany, .ref h_this_sorts, .ref h_this_sizes, .ref h_this_number, .ref h_this_holds, .ref h_this_heldOne, .ref h_this_trace, .int x_this_traced, .int x_this_own, .int x_this_isParted]), (h_this_code0, ia G 200 f_this_code0), (h_this_letters, ca G 144 f_this_letters), (h_this_tape, ia G 200 f_this_tape)] [(0, .ref h_this)] := by
    intro hf
    unfold f_X9_readsValue_b23 at hf
    refine hK1 _ _ _ _ (fun H locs ls h hl => ?_)
    refine lv_iconst (v := (1 : Int32)) hx hb dX9_readsValue_23 rfl ?_
    refine lv_goto (tgt := 28) hx hb dX9_readsValue_24 rfl ?_
    exact hK2 _ _ _ _ (B28 (1 : Int32) hf) _ _ _ h (lv_sub hl [0] rfl)
  refine lv_aload_n hx hb dX9_readsValue_0 rfl (lv_at hl 0 rfl) ?_
  refine r_get C h fk_X9_140 0 rfl rfl dX9_readsValue_1 ?_
  refine lv_bipush (v := (100 : Int32)) hx hb dX9_readsValue_4 rfl ?_
  refine lv_icmp_eq (tgt := 23) hx hb dX9_readsValue_6 rfl (fun c1 => ?_) (fun c1 => ?_)
  · replace hf := ifp c1 hf
    exact hK2 _ _ _ _ (B23 hf) _ _ _ h (lv_sub hl [0] rfl)
  · replace hf := ifn c1 hf
    refine lv_aload_n hx hb dX9_readsValue_9 rfl (lv_at hl 0 rfl) ?_
    refine r_get C h fk_X9_140 0 rfl rfl dX9_readsValue_10 ?_
    refine lv_bipush (v := (13 : Int32)) hx hb dX9_readsValue_13 rfl ?_
    refine lv_bipush (v := (17 : Int32)) hx hb dX9_readsValue_15 rfl ?_
    replace hf := bd1_inv hf
    obtain ⟨r23, hc24, hf⟩ := hf
    refine r_ciS0 C h (c_X9_in1 hc24) ms_X9_71 rfl [] rfl rfl hl.1 rfl (Nat.le_of_ble_eq_true rfl) (rok (by decide)) dX9_readsValue_17 (fun H locs h => ?_)
    refine lv_if_eq (tgt := 27) hx hb dX9_readsValue_20 rfl (fun c25 => ?_) (fun c25 => ?_)
    · replace hf := ifp c25 hf
      refine lv_iconst (v := (0 : Int32)) hx hb dX9_readsValue_27 rfl ?_
      exact hK2 _ _ _ _ (B28 (0 : Int32) hf) _ _ _ h (lv_sub hl [0] rfl)
    · replace hf := ifn c25 hf
      exact hK2 _ _ _ _ (B23 hf) _ _ _ h (lv_sub hl [0] rfl)
def f_X9_readsLike_b58 (x_this_taped : Int32) (f_this_letters : Nat → Int32) (f_this_tape : Nat → Int32) (s0 : Int32) (y_this_at : Int32) (y_this_begun : Int32) (y_this_token : Int32) (y_this_value : Int32) (y_this_steps : Int32) (g_this_code0 : Nat → Int32) : Option (Int32 × Int32 × Int32 × Int32 × Int32 × Int32 × (Nat → Int32)) := (if s0 = 0 then some ((0 : Int32), y_this_at, y_this_begun, y_this_token, y_this_value, y_this_steps, g_this_code0) else bd4 (f_X9_next x_this_taped y_this_at y_this_value f_this_letters f_this_tape) (fun y14 y15 y16 y17 => bd7 (f_X9_readsValue x_this_taped y14 y15 y16 y17 y_this_steps g_this_code0 f_this_letters f_this_tape) (fun r19 y20 y21 y22 y23 y24 g25 => (if r19 = 0 then some ((0 : Int32), y20, y21, y22, y23, y24, g25) else bd2 (f_X9_lays s0 y24 g25) (fun y28 g29 => some ((1 : Int32), y20, y21, y22, y23, y28, g29))))))
def f_X9_readsLike (x_this_taped : Int32) (x_this_at : Int32) (x_this_begun : Int32) (x_this_token : Int32) (x_this_value : Int32) (x_this_steps : Int32) (f_this_code0 : Nat → Int32) (f_this_letters : Nat → Int32) (f_this_tape : Nat → Int32) : Option (Int32 × Int32 × Int32 × Int32 × Int32 × Int32 × (Nat → Int32)) := bd7 (f_X9_readsValue x_this_taped x_this_at x_this_begun x_this_token x_this_value x_this_steps f_this_code0 f_this_letters f_this_tape) (fun r1 y2 y3 y4 y5 y6 g7 => (if r1 = 0 then some ((0 : Int32), y2, y3, y4, y5, y6, g7) else (if y4 = (260 : Int32) then f_X9_readsLike_b58 x_this_taped f_this_letters f_this_tape (10010 : Int32) y2 y3 y4 y5 y6 g7 else (if y4 = (261 : Int32) then f_X9_readsLike_b58 x_this_taped f_this_letters f_this_tape (10011 : Int32) y2 y3 y4 y5 y6 g7 else (if y4 = (262 : Int32) then f_X9_readsLike_b58 x_this_taped f_this_letters f_this_tape (10012 : Int32) y2 y3 y4 y5 y6 g7 else f_X9_readsLike_b58 x_this_taped f_this_letters f_this_tape (0 : Int32) y2 y3 y4 y5 y6 g7)))))
set_option maxRecDepth 100000 in
set_option maxHeartbeats 4000000 in
theorem c_X9_readsLike {l : Launch} {G : Gt} {h_this h_this_s h_this_kept h_this_laid h_this_pile h_this_tape h_this_letters h_this_code0 h_this_read h_this_saved h_this_plan h_this_bestPlan h_this_offThen h_this_paidThen h_this_rows h_this_sorts h_this_sizes h_this_number h_this_holds h_this_heldOne h_this_trace : Nat} {x_this_isKept : Int32} {x_this_taped : Int32} {x_this_at : Int32} {x_this_begun : Int32} {x_this_token : Int32} {x_this_value : Int32} {x_this_opened : Int32} {x_this_steps : Int32} {x_this_most : Int32} {x_this_many : Int32} {x_this_few : Int32} {x_this_everHome : Int32} {x_this_firstFit : Int32} {x_this_rowMany : Int32} {x_this_traced : Int32} {x_this_own : Int32} {x_this_isParted : Int32} {f_this_code0 : Nat → Int32} {f_this_letters : Nat → Int32} {f_this_tape : Nat → Int32} {r : Int32} {m_this_at : Int32} {m_this_begun : Int32} {m_this_token : Int32} {m_this_value : Int32} {m_this_steps : Int32} {m_this_code0 : Nat → Int32} (hf : f_X9_readsLike x_this_taped x_this_at x_this_begun x_this_token x_this_value x_this_steps f_this_code0 f_this_letters f_this_tape = some (r, m_this_at, m_this_begun, m_this_token, m_this_value, m_this_steps, m_this_code0)) : mFi l G yX9_readsLike cX9_readsLike 2 .boolean 5 [.ref h_this] [(h_this, ob 9 [.ref h_this_s, .ref h_this_kept, .ref h_this_laid, .int x_this_isKept, .ref h_this_pile, .ref h_this_tape, .int x_this_taped, .ref h_this_letters, .int x_this_at, .int x_this_begun, .int x_this_token, .int x_this_value, .int x_this_opened, .int x_this_steps, .ref h_this_code0, .ref h_this_read, .ref h_this_saved, .ref h_this_plan, .ref h_this_bestPlan, .int x_this_most, .int x_this_many, .int x_this_few, .int x_this_everHome, .ref h_this_offThen, .ref h_this_paidThen, .int x_this_firstFit, .ref h_this_rows, .int x_this_rowMany, .ref h_this_sorts, .ref h_this_sizes, .ref h_this_number, .ref h_this_holds, .ref h_this_heldOne, .ref h_this_trace, .int x_this_traced, .int x_this_own, .int x_this_isParted]), (h_this_code0, ia G 200 f_this_code0), (h_this_letters, ca G 144 f_this_letters), (h_this_tape, ia G 200 f_this_tape)] r [(h_this, ob 9 [.ref h_this_s, .ref h_this_kept, .ref h_this_laid, .int x_this_isKept, .ref h_this_pile, .ref h_this_tape, .int x_this_taped, .ref h_this_letters, .int m_this_at, .int m_this_begun, .int m_this_token, .int m_this_value, .int x_this_opened, .int m_this_steps, .ref h_this_code0, .ref h_this_read, .ref h_this_saved, .ref h_this_plan, .ref h_this_bestPlan, .int x_this_most, .int x_this_many, .int x_this_few, .int x_this_everHome, .ref h_this_offThen, .ref h_this_paidThen, .int x_this_firstFit, .ref h_this_rows, .int x_this_rowMany, .ref h_this_sorts, .ref h_this_sizes, .ref h_this_number, .ref h_this_holds, .ref h_this_heldOne, .ref h_this_trace, .int x_this_traced, .int x_this_own, .int x_this_isParted]), (h_this_code0, ia G 200 m_this_code0), (h_this_letters, ca G 144 f_this_letters), (h_this_tape, ia G 200 f_this_tape)] := by
  refine mFi.of (by decide +kernel) (Nat.le_of_ble_eq_true rfl) ?_
  intro p e s m below meth c A C hr hlk h ls hl
  obtain ⟨hx, hb, hml, hown, hts⟩ := id C
  replace hl : lv_has ls 2 [(0, .ref h_this)] := hl
  unfold f_X9_readsLike at hf
  refine with_K G A 2 (fun K hK1 hK2 => ?_)
  have B58 : ∀ (s0 : Int32) (y_this_at : Int32) (y_this_begun : Int32) (y_this_token : Int32) (y_this_value : Int32) (y_this_steps : Int32) (g_this_code0 : Nat → Int32), f_X9_readsLike_b58 x_this_taped f_this_letters f_this_tape s0 y_this_at y_this_begun y_this_token y_this_value y_this_steps g_this_code0 = some (r, m_this_at, m_this_begun, m_this_token, m_this_value, m_this_steps, m_this_code0) → K 58 [.int s0] [(h_this, ob 9 [.ref h_this_s, .ref h_this_kept, .ref h_this_laid, .int x_this_isKept, .ref h_this_pile, .ref h_this_tape, .int x_this_taped, .ref h_this_letters, .int y_this_at, .int y_this_begun, .int y_this_token, .int y_this_value, .int x_this_opened, .int y_this_steps, .ref h_this_code0, .ref h_this_read, .ref h_this_saved, .ref h_this_plan, .ref h_this_bestPlan, .int x_this_most, .int x_this_many, .int x_this_few, .int x_this_everHome, .ref h_this_offThen, .ref h_this_paidThen, .int x_this_firstFit, .ref h_this_rows, .int x_this_rowMany, .ref h_this_sorts, .ref h_this_sizes, .ref h_this_number, .ref h_this_holds, .ref h_this_heldOne, .ref h_this_trace, .int x_this_traced, .int x_this_own, .int x_this_isParted]), (h_this_code0, ia G 200 g_this_code0), (h_this_letters, ca G 144 f_this_letters), (h_this_tape, ia G 200 f_this_tape)] [(0, .ref h_this)] := by
    intro s0 y_this_at y_this_begun y_this_token y_this_value y_this_steps g_this_code0 hf
    unfold f_X9_readsLike_b58 at hf
    refine hK1 _ _ _ _ (fun H locs ls h hl => ?_)
    refine lv_istore_n (lv' := [(1, .int s0), (0, .ref h_this)]) hx hb dX9_readsLike_58 rfl hl (by decide) rfl (fun ls hl => ?_)
    refine lv_iload_n hx hb dX9_readsLike_59 rfl (lv_at hl 0 rfl) ?_
    refine lv_if_ne (tgt := 65) hx hb dX9_readsLike_60 rfl (fun c13 => ?_) (fun c13 => ?_)
    · replace hf := ifn c13 hf
      refine lv_aload_n hx hb dX9_readsLike_65 rfl (lv_at hl 1 rfl) ?_
      replace hf := bd4_inv hf
      obtain ⟨y14, y15, y16, y17, hc18, hf⟩ := hf
      refine r_cvV (ws' := [(h_this, ob 9 [.ref h_this_s, .ref h_this_kept, .ref h_this_laid, .int x_this_isKept, .ref h_this_pile, .ref h_this_tape, .int x_this_taped, .ref h_this_letters, .int y14, .int y15, .int y16, .int y17, .int x_this_opened, .int y_this_steps, .ref h_this_code0, .ref h_this_read, .ref h_this_saved, .ref h_this_plan, .ref h_this_bestPlan, .int x_this_most, .int x_this_many, .int x_this_few, .int x_this_everHome, .ref h_this_offThen, .ref h_this_paidThen, .int x_this_firstFit, .ref h_this_rows, .int x_this_rowMany, .ref h_this_sorts, .ref h_this_sizes, .ref h_this_number, .ref h_this_holds, .ref h_this_heldOne, .ref h_this_trace, .int x_this_traced, .int x_this_own, .int x_this_isParted]), (h_this_code0, ia G 200 g_this_code0), (h_this_letters, ca G 144 f_this_letters), (h_this_tape, ia G 200 f_this_tape)]) C h (c_X9_next hc18) mv_X9_155 rfl 0 rfl [0, 2, 3] rfl rfl rfl rfl rfl hl.1 rfl (Nat.le_of_ble_eq_true rfl) (rok (by decide)) dX9_readsLike_66 (fun H locs h => ?_)
      refine lv_aload_n hx hb dX9_readsLike_69 rfl (lv_at hl 1 rfl) ?_
      replace hf := bd7_inv hf
      obtain ⟨r19, y20, y21, y22, y23, y24, g25, hc26, hf⟩ := hf
      refine r_ciV (ws' := [(h_this, ob 9 [.ref h_this_s, .ref h_this_kept, .ref h_this_laid, .int x_this_isKept, .ref h_this_pile, .ref h_this_tape, .int x_this_taped, .ref h_this_letters, .int y20, .int y21, .int y22, .int y23, .int x_this_opened, .int y24, .ref h_this_code0, .ref h_this_read, .ref h_this_saved, .ref h_this_plan, .ref h_this_bestPlan, .int x_this_most, .int x_this_many, .int x_this_few, .int x_this_everHome, .ref h_this_offThen, .ref h_this_paidThen, .int x_this_firstFit, .ref h_this_rows, .int x_this_rowMany, .ref h_this_sorts, .ref h_this_sizes, .ref h_this_number, .ref h_this_holds, .ref h_this_heldOne, .ref h_this_trace, .int x_this_traced, .int x_this_own, .int x_this_isParted]), (h_this_code0, ia G 200 g25), (h_this_letters, ca G 144 f_this_letters), (h_this_tape, ia G 200 f_this_tape)]) C h (c_X9_readsValue hc26) mv_X9_165 rfl 0 rfl [0, 1, 2, 3] rfl rfl rfl rfl rfl hl.1 rfl (Nat.le_of_ble_eq_true rfl) (rok (by decide)) dX9_readsLike_70 (fun H locs h => ?_)
      refine lv_if_ne (tgt := 78) hx hb dX9_readsLike_73 rfl (fun c27 => ?_) (fun c27 => ?_)
      · replace hf := ifn c27 hf
        refine lv_aload_n hx hb dX9_readsLike_78 rfl (lv_at hl 1 rfl) ?_
        refine lv_iload_n hx hb dX9_readsLike_79 rfl (lv_at hl 0 rfl) ?_
        replace hf := bd2_inv hf
        obtain ⟨y28, g29, hc30, hf⟩ := hf
        refine r_cvV (ws' := [(h_this, ob 9 [.ref h_this_s, .ref h_this_kept, .ref h_this_laid, .int x_this_isKept, .ref h_this_pile, .ref h_this_tape, .int x_this_taped, .ref h_this_letters, .int y20, .int y21, .int y22, .int y23, .int x_this_opened, .int y28, .ref h_this_code0, .ref h_this_read, .ref h_this_saved, .ref h_this_plan, .ref h_this_bestPlan, .int x_this_most, .int x_this_many, .int x_this_few, .int x_this_everHome, .ref h_this_offThen, .ref h_this_paidThen, .int x_this_firstFit, .ref h_this_rows, .int x_this_rowMany, .ref h_this_sorts, .ref h_this_sizes, .ref h_this_number, .ref h_this_holds, .ref h_this_heldOne, .ref h_this_trace, .int x_this_traced, .int x_this_own, .int x_this_isParted]), (h_this_code0, ia G 200 g29), (h_this_letters, ca G 144 f_this_letters), (h_this_tape, ia G 200 f_this_tape)]) C h (c_X9_lays hc30) mv_X9_161 rfl 0 rfl [0, 1] rfl rfl rfl rfl rfl hl.1 rfl (Nat.le_of_ble_eq_true rfl) (rok (by decide)) dX9_readsLike_80 (fun H locs h => ?_)
        refine lv_iconst (v := (1 : Int32)) hx hb dX9_readsLike_83 rfl ?_
        cases hf
        exact r_iret C h hr hlk rfl dX9_readsLike_84
      · replace hf := ifp c27 hf
        refine lv_iconst (v := (0 : Int32)) hx hb dX9_readsLike_76 rfl ?_
        cases hf
        exact r_iret C h hr hlk rfl dX9_readsLike_77
    · replace hf := ifp c13 hf
      refine lv_iconst (v := (0 : Int32)) hx hb dX9_readsLike_63 rfl ?_
      cases hf
      exact r_iret C h hr hlk rfl dX9_readsLike_64
  refine lv_aload_n hx hb dX9_readsLike_0 rfl (lv_at hl 0 rfl) ?_
  replace hf := bd7_inv hf
  obtain ⟨r1, y2, y3, y4, y5, y6, g7, hc8, hf⟩ := hf
  refine r_ciV (ws' := [(h_this, ob 9 [.ref h_this_s, .ref h_this_kept, .ref h_this_laid, .int x_this_isKept, .ref h_this_pile, .ref h_this_tape, .int x_this_taped, .ref h_this_letters, .int y2, .int y3, .int y4, .int y5, .int x_this_opened, .int y6, .ref h_this_code0, .ref h_this_read, .ref h_this_saved, .ref h_this_plan, .ref h_this_bestPlan, .int x_this_most, .int x_this_many, .int x_this_few, .int x_this_everHome, .ref h_this_offThen, .ref h_this_paidThen, .int x_this_firstFit, .ref h_this_rows, .int x_this_rowMany, .ref h_this_sorts, .ref h_this_sizes, .ref h_this_number, .ref h_this_holds, .ref h_this_heldOne, .ref h_this_trace, .int x_this_traced, .int x_this_own, .int x_this_isParted]), (h_this_code0, ia G 200 g7), (h_this_letters, ca G 144 f_this_letters), (h_this_tape, ia G 200 f_this_tape)]) C h (c_X9_readsValue hc8) mv_X9_165 rfl 0 rfl [0, 1, 2, 3] rfl rfl rfl rfl rfl hl.1 rfl (Nat.le_of_ble_eq_true rfl) (rok (by decide)) dX9_readsLike_1 (fun H locs h => ?_)
  refine lv_if_ne (tgt := 9) hx hb dX9_readsLike_4 rfl (fun c9 => ?_) (fun c9 => ?_)
  · replace hf := ifn c9 hf
    refine lv_aload_n hx hb dX9_readsLike_9 rfl (lv_at hl 0 rfl) ?_
    refine r_get C h fk_X9_140 0 rfl rfl dX9_readsLike_10 ?_
    refine lv_sipush (v := (260 : Int32)) hx hb dX9_readsLike_13 rfl ?_
    refine lv_icmp_ne (tgt := 25) hx hb dX9_readsLike_16 rfl (fun c10 => ?_) (fun c10 => ?_)
    · replace hf := ifn c10 hf
      refine lv_aload_n hx hb dX9_readsLike_25 rfl (lv_at hl 0 rfl) ?_
      refine r_get C h fk_X9_140 0 rfl rfl dX9_readsLike_26 ?_
      refine lv_sipush (v := (261 : Int32)) hx hb dX9_readsLike_29 rfl ?_
      refine lv_icmp_ne (tgt := 41) hx hb dX9_readsLike_32 rfl (fun c11 => ?_) (fun c11 => ?_)
      · replace hf := ifn c11 hf
        refine lv_aload_n hx hb dX9_readsLike_41 rfl (lv_at hl 0 rfl) ?_
        refine r_get C h fk_X9_140 0 rfl rfl dX9_readsLike_42 ?_
        refine lv_sipush (v := (262 : Int32)) hx hb dX9_readsLike_45 rfl ?_
        refine lv_icmp_ne (tgt := 57) hx hb dX9_readsLike_48 rfl (fun c12 => ?_) (fun c12 => ?_)
        · replace hf := ifn c12 hf
          refine lv_iconst (v := (0 : Int32)) hx hb dX9_readsLike_57 rfl ?_
          exact hK2 _ _ _ _ (B58 (0 : Int32) y2 y3 y4 y5 y6 g7 hf) _ _ _ h (lv_sub hl [0] rfl)
        · replace hf := ifp c12 hf
          refine lv_sipush (v := (10012 : Int32)) hx hb dX9_readsLike_51 rfl ?_
          refine lv_goto (tgt := 58) hx hb dX9_readsLike_54 rfl ?_
          exact hK2 _ _ _ _ (B58 (10012 : Int32) y2 y3 y4 y5 y6 g7 hf) _ _ _ h (lv_sub hl [0] rfl)
      · replace hf := ifp c11 hf
        refine lv_sipush (v := (10011 : Int32)) hx hb dX9_readsLike_35 rfl ?_
        refine lv_goto (tgt := 58) hx hb dX9_readsLike_38 rfl ?_
        exact hK2 _ _ _ _ (B58 (10011 : Int32) y2 y3 y4 y5 y6 g7 hf) _ _ _ h (lv_sub hl [0] rfl)
    · replace hf := ifp c10 hf
      refine lv_sipush (v := (10010 : Int32)) hx hb dX9_readsLike_19 rfl ?_
      refine lv_goto (tgt := 58) hx hb dX9_readsLike_22 rfl ?_
      exact hK2 _ _ _ _ (B58 (10010 : Int32) y2 y3 y4 y5 y6 g7 hf) _ _ _ h (lv_sub hl [0] rfl)
  · replace hf := ifp c9 hf
    refine lv_iconst (v := (0 : Int32)) hx hb dX9_readsLike_7 rfl ?_
    cases hf
    exact r_iret C h hr hlk rfl dX9_readsLike_8
def f_X9_readsWithin (self : Int32 → Int32 → Int32 → Int32 → Int32 → Int32 → Int32 → (Nat → Int32) → (Nat → Int32) → (Nat → Int32) → Option (Int32 × Int32 × Int32 × Int32 × Int32 × Int32 × Int32 × (Nat → Int32))) (x_this_taped : Int32) (x_this_at : Int32) (x_this_begun : Int32) (x_this_token : Int32) (x_this_value : Int32) (x_this_opened : Int32) (x_this_steps : Int32) (f_this_code0 : Nat → Int32) (f_this_letters : Nat → Int32) (f_this_tape : Nat → Int32) : Option (Int32 × Int32 × Int32 × Int32 × Int32 × Int32 × Int32 × (Nat → Int32)) := (if x_this_opened = (3 : Int32) then some ((0 : Int32), x_this_at, x_this_begun, x_this_token, x_this_value, x_this_opened, x_this_steps, f_this_code0) else lt1 (x_this_opened + (1 : Int32)) (fun (t2 : Int32) => bd4 (f_X9_next x_this_taped x_this_at x_this_value f_this_letters f_this_tape) (fun y3 y4 y5 y6 => bd8 (self x_this_taped y3 y4 y5 y6 t2 x_this_steps f_this_code0 f_this_letters f_this_tape) (fun r8 y9 y10 y11 y12 y13 y14 g15 => (if r8 = 0 then some ((0 : Int32), y9, y10, y11, y12, y13, y14, g15) else bd5 (f_X9_takes (241 : Int32) x_this_taped y9 y10 y11 y12 f_this_letters f_this_tape) (fun r18 y19 y20 y21 y22 => (if r18 = 0 then some ((0 : Int32), y19, y20, y21, y22, y13, y14, g15) else lt1 (y13 - (1 : Int32)) (fun (t25 : Int32) => some ((1 : Int32), y19, y20, y21, y22, t25, y14, g15)))))))))
set_option maxRecDepth 100000 in
set_option maxHeartbeats 4000000 in
theorem c_X9_readsWithin {l : Launch} {G : Gt} {self : Int32 → Int32 → Int32 → Int32 → Int32 → Int32 → Int32 → (Nat → Int32) → (Nat → Int32) → (Nat → Int32) → Option (Int32 × Int32 × Int32 × Int32 × Int32 × Int32 × Int32 × (Nat → Int32))} {H0 : Nat} (hself : ∀ {h_this h_this_s h_this_kept h_this_laid h_this_pile h_this_tape h_this_letters h_this_code0 h_this_read h_this_saved h_this_plan h_this_bestPlan h_this_offThen h_this_paidThen h_this_rows h_this_sorts h_this_sizes h_this_number h_this_holds h_this_heldOne h_this_trace : Nat} {x_this_isKept : Int32} {x_this_taped : Int32} {x_this_at : Int32} {x_this_begun : Int32} {x_this_token : Int32} {x_this_value : Int32} {x_this_opened : Int32} {x_this_steps : Int32} {x_this_most : Int32} {x_this_many : Int32} {x_this_few : Int32} {x_this_everHome : Int32} {x_this_firstFit : Int32} {x_this_rowMany : Int32} {x_this_traced : Int32} {x_this_own : Int32} {x_this_isParted : Int32} {f_this_code0 : Nat → Int32} {f_this_letters : Nat → Int32} {f_this_tape : Nat → Int32} {r : Int32} {m_this_at : Int32} {m_this_begun : Int32} {m_this_token : Int32} {m_this_value : Int32} {m_this_opened : Int32} {m_this_steps : Int32} {m_this_code0 : Nat → Int32} , self x_this_taped x_this_at x_this_begun x_this_token x_this_value x_this_opened x_this_steps f_this_code0 f_this_letters f_this_tape = some (r, m_this_at, m_this_begun, m_this_token, m_this_value, m_this_opened, m_this_steps, m_this_code0) → mFi l G yX9_readsCondition cX9_readsCondition 2 .boolean H0 [.ref h_this] [(h_this, ob 9 [.ref h_this_s, .ref h_this_kept, .ref h_this_laid, .int x_this_isKept, .ref h_this_pile, .ref h_this_tape, .int x_this_taped, .ref h_this_letters, .int x_this_at, .int x_this_begun, .int x_this_token, .int x_this_value, .int x_this_opened, .int x_this_steps, .ref h_this_code0, .ref h_this_read, .ref h_this_saved, .ref h_this_plan, .ref h_this_bestPlan, .int x_this_most, .int x_this_many, .int x_this_few, .int x_this_everHome, .ref h_this_offThen, .ref h_this_paidThen, .int x_this_firstFit, .ref h_this_rows, .int x_this_rowMany, .ref h_this_sorts, .ref h_this_sizes, .ref h_this_number, .ref h_this_holds, .ref h_this_heldOne, .ref h_this_trace, .int x_this_traced, .int x_this_own, .int x_this_isParted]), (h_this_code0, ia G 200 f_this_code0), (h_this_letters, ca G 144 f_this_letters), (h_this_tape, ia G 200 f_this_tape)] r [(h_this, ob 9 [.ref h_this_s, .ref h_this_kept, .ref h_this_laid, .int x_this_isKept, .ref h_this_pile, .ref h_this_tape, .int x_this_taped, .ref h_this_letters, .int m_this_at, .int m_this_begun, .int m_this_token, .int m_this_value, .int m_this_opened, .int m_this_steps, .ref h_this_code0, .ref h_this_read, .ref h_this_saved, .ref h_this_plan, .ref h_this_bestPlan, .int x_this_most, .int x_this_many, .int x_this_few, .int x_this_everHome, .ref h_this_offThen, .ref h_this_paidThen, .int x_this_firstFit, .ref h_this_rows, .int x_this_rowMany, .ref h_this_sorts, .ref h_this_sizes, .ref h_this_number, .ref h_this_holds, .ref h_this_heldOne, .ref h_this_trace, .int x_this_traced, .int x_this_own, .int x_this_isParted]), (h_this_code0, ia G 200 m_this_code0), (h_this_letters, ca G 144 f_this_letters), (h_this_tape, ia G 200 f_this_tape)]) {h_this h_this_s h_this_kept h_this_laid h_this_pile h_this_tape h_this_letters h_this_code0 h_this_read h_this_saved h_this_plan h_this_bestPlan h_this_offThen h_this_paidThen h_this_rows h_this_sorts h_this_sizes h_this_number h_this_holds h_this_heldOne h_this_trace : Nat} {x_this_isKept : Int32} {x_this_taped : Int32} {x_this_at : Int32} {x_this_begun : Int32} {x_this_token : Int32} {x_this_value : Int32} {x_this_opened : Int32} {x_this_steps : Int32} {x_this_most : Int32} {x_this_many : Int32} {x_this_few : Int32} {x_this_everHome : Int32} {x_this_firstFit : Int32} {x_this_rowMany : Int32} {x_this_traced : Int32} {x_this_own : Int32} {x_this_isParted : Int32} {f_this_code0 : Nat → Int32} {f_this_letters : Nat → Int32} {f_this_tape : Nat → Int32} {r : Int32} {m_this_at : Int32} {m_this_begun : Int32} {m_this_token : Int32} {m_this_value : Int32} {m_this_opened : Int32} {m_this_steps : Int32} {m_this_code0 : Nat → Int32} (hf : f_X9_readsWithin self x_this_taped x_this_at x_this_begun x_this_token x_this_value x_this_opened x_this_steps f_this_code0 f_this_letters f_this_tape = some (r, m_this_at, m_this_begun, m_this_token, m_this_value, m_this_opened, m_this_steps, m_this_code0)) : mFi l G yX9_readsWithin cX9_readsWithin 1 .boolean (H0 + 5) [.ref h_this] [(h_this, ob 9 [.ref h_this_s, .ref h_this_kept, .ref h_this_laid, .int x_this_isKept, .ref h_this_pile, .ref h_this_tape, .int x_this_taped, .ref h_this_letters, .int x_this_at, .int x_this_begun, .int x_this_token, .int x_this_value, .int x_this_opened, .int x_this_steps, .ref h_this_code0, .ref h_this_read, .ref h_this_saved, .ref h_this_plan, .ref h_this_bestPlan, .int x_this_most, .int x_this_many, .int x_this_few, .int x_this_everHome, .ref h_this_offThen, .ref h_this_paidThen, .int x_this_firstFit, .ref h_this_rows, .int x_this_rowMany, .ref h_this_sorts, .ref h_this_sizes, .ref h_this_number, .ref h_this_holds, .ref h_this_heldOne, .ref h_this_trace, .int x_this_traced, .int x_this_own, .int x_this_isParted]), (h_this_code0, ia G 200 f_this_code0), (h_this_letters, ca G 144 f_this_letters), (h_this_tape, ia G 200 f_this_tape)] r [(h_this, ob 9 [.ref h_this_s, .ref h_this_kept, .ref h_this_laid, .int x_this_isKept, .ref h_this_pile, .ref h_this_tape, .int x_this_taped, .ref h_this_letters, .int m_this_at, .int m_this_begun, .int m_this_token, .int m_this_value, .int m_this_opened, .int m_this_steps, .ref h_this_code0, .ref h_this_read, .ref h_this_saved, .ref h_this_plan, .ref h_this_bestPlan, .int x_this_most, .int x_this_many, .int x_this_few, .int x_this_everHome, .ref h_this_offThen, .ref h_this_paidThen, .int x_this_firstFit, .ref h_this_rows, .int x_this_rowMany, .ref h_this_sorts, .ref h_this_sizes, .ref h_this_number, .ref h_this_holds, .ref h_this_heldOne, .ref h_this_trace, .int x_this_traced, .int x_this_own, .int x_this_isParted]), (h_this_code0, ia G 200 m_this_code0), (h_this_letters, ca G 144 f_this_letters), (h_this_tape, ia G 200 f_this_tape)] := by
  refine mFi.of (by decide +kernel) (Nat.le_of_ble_eq_true rfl) ?_
  intro p e s m below meth c A C hr hlk h ls hl
  obtain ⟨hx, hb, hml, hown, hts⟩ := id C
  replace hl : lv_has ls 1 [(0, .ref h_this)] := hl
  unfold f_X9_readsWithin at hf
  refine lv_aload_n hx hb dX9_readsWithin_0 rfl (lv_at hl 0 rfl) ?_
  refine r_get C h fk_X9_169 0 rfl rfl dX9_readsWithin_1 ?_
  refine lv_iconst (v := (3 : Int32)) hx hb dX9_readsWithin_4 rfl ?_
  refine lv_icmp_ne (tgt := 10) hx hb dX9_readsWithin_5 rfl (fun c1 => ?_) (fun c1 => ?_)
  · replace hf := ifn c1 hf
    refine lv_aload_n hx hb dX9_readsWithin_10 rfl (lv_at hl 0 rfl) ?_
    refine lv_dup hx hb dX9_readsWithin_11 rfl ?_
    refine r_get C h fk_X9_169 0 rfl rfl dX9_readsWithin_12 ?_
    refine lv_iconst (v := (1 : Int32)) hx hb dX9_readsWithin_15 rfl ?_
    refine lv_iadd hx hb dX9_readsWithin_16 ?_
    refine lv_topi (fun t2 et2 => ?_)
    replace hf := lt1_inv et2 hf
    refine r_put (ws' := [(h_this, ob 9 [.ref h_this_s, .ref h_this_kept, .ref h_this_laid, .int x_this_isKept, .ref h_this_pile, .ref h_this_tape, .int x_this_taped, .ref h_this_letters, .int x_this_at, .int x_this_begun, .int x_this_token, .int x_this_value, .int t2, .int x_this_steps, .ref h_this_code0, .ref h_this_read, .ref h_this_saved, .ref h_this_plan, .ref h_this_bestPlan, .int x_this_most, .int x_this_many, .int x_this_few, .int x_this_everHome, .ref h_this_offThen, .ref h_this_paidThen, .int x_this_firstFit, .ref h_this_rows, .int x_this_rowMany, .ref h_this_sorts, .ref h_this_sizes, .ref h_this_number, .ref h_this_holds, .ref h_this_heldOne, .ref h_this_trace, .int x_this_traced, .int x_this_own, .int x_this_isParted]), (h_this_code0, ia G 200 f_this_code0), (h_this_letters, ca G 144 f_this_letters), (h_this_tape, ia G 200 f_this_tape)]) C h fw_X9_169 0 rfl rfl rfl (Nat.le_of_ble_eq_true rfl) dX9_readsWithin_17 rfl (fun H locs h => ?_)
    refine lv_aload_n hx hb dX9_readsWithin_20 rfl (lv_at hl 0 rfl) ?_
    replace hf := bd4_inv hf
    obtain ⟨y3, y4, y5, y6, hc7, hf⟩ := hf
    refine r_cvV (ws' := [(h_this, ob 9 [.ref h_this_s, .ref h_this_kept, .ref h_this_laid, .int x_this_isKept, .ref h_this_pile, .ref h_this_tape, .int x_this_taped, .ref h_this_letters, .int y3, .int y4, .int y5, .int y6, .int t2, .int x_this_steps, .ref h_this_code0, .ref h_this_read, .ref h_this_saved, .ref h_this_plan, .ref h_this_bestPlan, .int x_this_most, .int x_this_many, .int x_this_few, .int x_this_everHome, .ref h_this_offThen, .ref h_this_paidThen, .int x_this_firstFit, .ref h_this_rows, .int x_this_rowMany, .ref h_this_sorts, .ref h_this_sizes, .ref h_this_number, .ref h_this_holds, .ref h_this_heldOne, .ref h_this_trace, .int x_this_traced, .int x_this_own, .int x_this_isParted]), (h_this_code0, ia G 200 f_this_code0), (h_this_letters, ca G 144 f_this_letters), (h_this_tape, ia G 200 f_this_tape)]) C h (c_X9_next hc7) mv_X9_155 rfl 0 rfl [0, 2, 3] rfl rfl rfl rfl rfl hl.1 rfl (Nat.le_of_ble_eq_true rfl) (rok (by omega)) dX9_readsWithin_21 (fun H locs h => ?_)
    refine lv_aload_n hx hb dX9_readsWithin_24 rfl (lv_at hl 0 rfl) ?_
    replace hf := bd8_inv hf
    obtain ⟨r8, y9, y10, y11, y12, y13, y14, g15, hc16, hf⟩ := hf
    refine r_ciV (ws' := [(h_this, ob 9 [.ref h_this_s, .ref h_this_kept, .ref h_this_laid, .int x_this_isKept, .ref h_this_pile, .ref h_this_tape, .int x_this_taped, .ref h_this_letters, .int y9, .int y10, .int y11, .int y12, .int y13, .int y14, .ref h_this_code0, .ref h_this_read, .ref h_this_saved, .ref h_this_plan, .ref h_this_bestPlan, .int x_this_most, .int x_this_many, .int x_this_few, .int x_this_everHome, .ref h_this_offThen, .ref h_this_paidThen, .int x_this_firstFit, .ref h_this_rows, .int x_this_rowMany, .ref h_this_sorts, .ref h_this_sizes, .ref h_this_number, .ref h_this_holds, .ref h_this_heldOne, .ref h_this_trace, .int x_this_traced, .int x_this_own, .int x_this_isParted]), (h_this_code0, ia G 200 g15), (h_this_letters, ca G 144 f_this_letters), (h_this_tape, ia G 200 f_this_tape)]) C h (hself hc16) mv_X9_172 rfl 0 rfl [0, 1, 2, 3] rfl rfl rfl rfl rfl hl.1 rfl (Nat.le_of_ble_eq_true rfl) (rok (by omega)) dX9_readsWithin_25 (fun H locs h => ?_)
    refine lv_if_eq (tgt := 41) hx hb dX9_readsWithin_28 rfl (fun c17 => ?_) (fun c17 => ?_)
    · replace hf := ifp c17 hf
      refine lv_iconst (v := (0 : Int32)) hx hb dX9_readsWithin_41 rfl ?_
      cases hf
      exact r_iret C h hr hlk rfl dX9_readsWithin_42
    · replace hf := ifn c17 hf
      refine lv_aload_n hx hb dX9_readsWithin_31 rfl (lv_at hl 0 rfl) ?_
      refine lv_sipush (v := (241 : Int32)) hx hb dX9_readsWithin_32 rfl ?_
      replace hf := bd5_inv hf
      obtain ⟨r18, y19, y20, y21, y22, hc23, hf⟩ := hf
      refine r_ciV (ws' := [(h_this, ob 9 [.ref h_this_s, .ref h_this_kept, .ref h_this_laid, .int x_this_isKept, .ref h_this_pile, .ref h_this_tape, .int x_this_taped, .ref h_this_letters, .int y19, .int y20, .int y21, .int y22, .int y13, .int y14, .ref h_this_code0, .ref h_this_read, .ref h_this_saved, .ref h_this_plan, .ref h_this_bestPlan, .int x_this_most, .int x_this_many, .int x_this_few, .int x_this_everHome, .ref h_this_offThen, .ref h_this_paidThen, .int x_this_firstFit, .ref h_this_rows, .int x_this_rowMany, .ref h_this_sorts, .ref h_this_sizes, .ref h_this_number, .ref h_this_holds, .ref h_this_heldOne, .ref h_this_trace, .int x_this_traced, .int x_this_own, .int x_this_isParted]), (h_this_code0, ia G 200 g15), (h_this_letters, ca G 144 f_this_letters), (h_this_tape, ia G 200 f_this_tape)]) C h (c_X9_takes hc23) mv_X9_175 rfl 0 rfl [0, 2, 3] rfl rfl rfl rfl rfl hl.1 rfl (Nat.le_of_ble_eq_true rfl) (rok (by omega)) dX9_readsWithin_35 (fun H locs h => ?_)
      refine lv_if_ne (tgt := 43) hx hb dX9_readsWithin_38 rfl (fun c24 => ?_) (fun c24 => ?_)
      · replace hf := ifn c24 hf
        refine lv_aload_n hx hb dX9_readsWithin_43 rfl (lv_at hl 0 rfl) ?_
        refine lv_dup hx hb dX9_readsWithin_44 rfl ?_
        refine r_get C h fk_X9_169 0 rfl rfl dX9_readsWithin_45 ?_
        refine lv_iconst (v := (1 : Int32)) hx hb dX9_readsWithin_48 rfl ?_
        refine lv_isub hx hb dX9_readsWithin_49 ?_
        refine lv_topi (fun t25 et25 => ?_)
        replace hf := lt1_inv et25 hf
        refine r_put (ws' := [(h_this, ob 9 [.ref h_this_s, .ref h_this_kept, .ref h_this_laid, .int x_this_isKept, .ref h_this_pile, .ref h_this_tape, .int x_this_taped, .ref h_this_letters, .int y19, .int y20, .int y21, .int y22, .int t25, .int y14, .ref h_this_code0, .ref h_this_read, .ref h_this_saved, .ref h_this_plan, .ref h_this_bestPlan, .int x_this_most, .int x_this_many, .int x_this_few, .int x_this_everHome, .ref h_this_offThen, .ref h_this_paidThen, .int x_this_firstFit, .ref h_this_rows, .int x_this_rowMany, .ref h_this_sorts, .ref h_this_sizes, .ref h_this_number, .ref h_this_holds, .ref h_this_heldOne, .ref h_this_trace, .int x_this_traced, .int x_this_own, .int x_this_isParted]), (h_this_code0, ia G 200 g15), (h_this_letters, ca G 144 f_this_letters), (h_this_tape, ia G 200 f_this_tape)]) C h fw_X9_169 0 rfl rfl rfl (Nat.le_of_ble_eq_true rfl) dX9_readsWithin_50 rfl (fun H locs h => ?_)
        refine lv_iconst (v := (1 : Int32)) hx hb dX9_readsWithin_53 rfl ?_
        cases hf
        exact r_iret C h hr hlk rfl dX9_readsWithin_54
      · replace hf := ifp c24 hf
        refine lv_iconst (v := (0 : Int32)) hx hb dX9_readsWithin_41 rfl ?_
        cases hf
        exact r_iret C h hr hlk rfl dX9_readsWithin_42
  · replace hf := ifp c1 hf
    refine lv_iconst (v := (0 : Int32)) hx hb dX9_readsWithin_8 rfl ?_
    cases hf
    exact r_iret C h hr hlk rfl dX9_readsWithin_9
def f_X9_readsOne_L41 : Nat → Int32 → Int32 → Int32 → Int32 → Int32 → Int32 → Int32 → Int32 → Int32 → (Nat → Int32) → Option (Int32 × Int32 × Int32 × Int32 × Int32 × Int32 × Int32 × (Nat → Int32))
  | 0, _, _, _, _, _, _, _, _, _, _ => none
  | n + 1, v1, v2, v3, y_this_at, y_this_begun, y_this_token, y_this_value, y_this_opened, y_this_steps, g_this_code0 => (if v1 ≤ v3 then chkB v2 (some (v2, y_this_at, y_this_begun, y_this_token, y_this_value, y_this_opened, y_this_steps, g_this_code0)) else (if v2 = 0 then chkB v2 (some (v2, y_this_at, y_this_begun, y_this_token, y_this_value, y_this_opened, y_this_steps, g_this_code0)) else bd2 (f_X9_lays (10015 : Int32) y_this_steps g_this_code0) (fun y21 g22 => lt1 (v3 + (1 : Int32)) (fun (t24 : Int32) => (f_X9_readsOne_L41 n) v1 v2 t24 y_this_at y_this_begun y_this_token y_this_value y_this_opened y21 g22))))
def f_X9_readsOne_b38 (v1 : Int32) (s0 : Int32) (y_this_at : Int32) (y_this_begun : Int32) (y_this_token : Int32) (y_this_value : Int32) (y_this_opened : Int32) (y_this_steps : Int32) (g_this_code0 : Nat → Int32) : Option (Int32 × Int32 × Int32 × Int32 × Int32 × Int32 × Int32 × (Nat → Int32)) := f_X9_readsOne_L41 1000 v1 s0 (0 : Int32) y_this_at y_this_begun y_this_token y_this_value y_this_opened y_this_steps g_this_code0
def f_X9_readsOne_b17 (self : Int32 → Int32 → Int32 → Int32 → Int32 → Int32 → Int32 → (Nat → Int32) → (Nat → Int32) → (Nat → Int32) → Option (Int32 × Int32 × Int32 × Int32 × Int32 × Int32 × Int32 × (Nat → Int32))) (x_this_taped : Int32) (x_this_opened : Int32) (x_this_steps : Int32) (f_this_code0 : Nat → Int32) (f_this_letters : Nat → Int32) (f_this_tape : Nat → Int32) (v1 : Int32) (y_this_at : Int32) (y_this_begun : Int32) (y_this_token : Int32) (y_this_value : Int32) : Option (Int32 × Int32 × Int32 × Int32 × Int32 × Int32 × Int32 × (Nat → Int32)) := (if y_this_token = (240 : Int32) then bd8 (f_X9_readsWithin self x_this_taped y_this_at y_this_begun y_this_token y_this_value x_this_opened x_this_steps f_this_code0 f_this_letters f_this_tape) (fun r25 y26 y27 y28 y29 y30 y31 g32 => f_X9_readsOne_b38 v1 r25 y26 y27 y28 y29 y30 y31 g32) else bd7 (f_X9_readsLike x_this_taped y_this_at y_this_begun y_this_token y_this_value x_this_steps f_this_code0 f_this_letters f_this_tape) (fun r9 y10 y11 y12 y13 y14 g15 => f_X9_readsOne_b38 v1 r9 y10 y11 y12 y13 x_this_opened y14 g15))
def f_X9_readsOne_L2 (self : Int32 → Int32 → Int32 → Int32 → Int32 → Int32 → Int32 → (Nat → Int32) → (Nat → Int32) → (Nat → Int32) → Option (Int32 × Int32 × Int32 × Int32 × Int32 × Int32 × Int32 × (Nat → Int32))) (x_this_taped : Int32) (x_this_opened : Int32) (x_this_steps : Int32) (f_this_code0 : Nat → Int32) (f_this_letters : Nat → Int32) (f_this_tape : Nat → Int32) : Nat → Int32 → Int32 → Int32 → Int32 → Int32 → Option (Int32 × Int32 × Int32 × Int32 × Int32 × Int32 × Int32 × (Nat → Int32))
  | 0, _, _, _, _, _ => none
  | n + 1, v1, y_this_at, y_this_begun, y_this_token, y_this_value => bd5 (f_X9_takes (10 : Int32) x_this_taped y_this_at y_this_begun y_this_token y_this_value f_this_letters f_this_tape) (fun r1 y2 y3 y4 y5 => (if r1 = 0 then f_X9_readsOne_b17 self x_this_taped x_this_opened x_this_steps f_this_code0 f_this_letters f_this_tape v1 y2 y3 y4 y5 else lt1 (v1 + (1 : Int32)) (fun (t34 : Int32) => (f_X9_readsOne_L2 self x_this_taped x_this_opened x_this_steps f_this_code0 f_this_letters f_this_tape n) t34 y2 y3 y4 y5)))
def f_X9_readsOne (self : Int32 → Int32 → Int32 → Int32 → Int32 → Int32 → Int32 → (Nat → Int32) → (Nat → Int32) → (Nat → Int32) → Option (Int32 × Int32 × Int32 × Int32 × Int32 × Int32 × Int32 × (Nat → Int32))) (x_this_taped : Int32) (x_this_at : Int32) (x_this_begun : Int32) (x_this_token : Int32) (x_this_value : Int32) (x_this_opened : Int32) (x_this_steps : Int32) (f_this_code0 : Nat → Int32) (f_this_letters : Nat → Int32) (f_this_tape : Nat → Int32) : Option (Int32 × Int32 × Int32 × Int32 × Int32 × Int32 × Int32 × (Nat → Int32)) := f_X9_readsOne_L2 self x_this_taped x_this_opened x_this_steps f_this_code0 f_this_letters f_this_tape 1000 (0 : Int32) x_this_at x_this_begun x_this_token x_this_value
set_option maxRecDepth 100000 in
set_option maxHeartbeats 4000000 in
theorem c_X9_readsOne {l : Launch} {G : Gt} {self : Int32 → Int32 → Int32 → Int32 → Int32 → Int32 → Int32 → (Nat → Int32) → (Nat → Int32) → (Nat → Int32) → Option (Int32 × Int32 × Int32 × Int32 × Int32 × Int32 × Int32 × (Nat → Int32))} {H0 : Nat} (hself : ∀ {h_this h_this_s h_this_kept h_this_laid h_this_pile h_this_tape h_this_letters h_this_code0 h_this_read h_this_saved h_this_plan h_this_bestPlan h_this_offThen h_this_paidThen h_this_rows h_this_sorts h_this_sizes h_this_number h_this_holds h_this_heldOne h_this_trace : Nat} {x_this_isKept : Int32} {x_this_taped : Int32} {x_this_at : Int32} {x_this_begun : Int32} {x_this_token : Int32} {x_this_value : Int32} {x_this_opened : Int32} {x_this_steps : Int32} {x_this_most : Int32} {x_this_many : Int32} {x_this_few : Int32} {x_this_everHome : Int32} {x_this_firstFit : Int32} {x_this_rowMany : Int32} {x_this_traced : Int32} {x_this_own : Int32} {x_this_isParted : Int32} {f_this_code0 : Nat → Int32} {f_this_letters : Nat → Int32} {f_this_tape : Nat → Int32} {r : Int32} {m_this_at : Int32} {m_this_begun : Int32} {m_this_token : Int32} {m_this_value : Int32} {m_this_opened : Int32} {m_this_steps : Int32} {m_this_code0 : Nat → Int32} , self x_this_taped x_this_at x_this_begun x_this_token x_this_value x_this_opened x_this_steps f_this_code0 f_this_letters f_this_tape = some (r, m_this_at, m_this_begun, m_this_token, m_this_value, m_this_opened, m_this_steps, m_this_code0) → mFi l G yX9_readsCondition cX9_readsCondition 2 .boolean H0 [.ref h_this] [(h_this, ob 9 [.ref h_this_s, .ref h_this_kept, .ref h_this_laid, .int x_this_isKept, .ref h_this_pile, .ref h_this_tape, .int x_this_taped, .ref h_this_letters, .int x_this_at, .int x_this_begun, .int x_this_token, .int x_this_value, .int x_this_opened, .int x_this_steps, .ref h_this_code0, .ref h_this_read, .ref h_this_saved, .ref h_this_plan, .ref h_this_bestPlan, .int x_this_most, .int x_this_many, .int x_this_few, .int x_this_everHome, .ref h_this_offThen, .ref h_this_paidThen, .int x_this_firstFit, .ref h_this_rows, .int x_this_rowMany, .ref h_this_sorts, .ref h_this_sizes, .ref h_this_number, .ref h_this_holds, .ref h_this_heldOne, .ref h_this_trace, .int x_this_traced, .int x_this_own, .int x_this_isParted]), (h_this_code0, ia G 200 f_this_code0), (h_this_letters, ca G 144 f_this_letters), (h_this_tape, ia G 200 f_this_tape)] r [(h_this, ob 9 [.ref h_this_s, .ref h_this_kept, .ref h_this_laid, .int x_this_isKept, .ref h_this_pile, .ref h_this_tape, .int x_this_taped, .ref h_this_letters, .int m_this_at, .int m_this_begun, .int m_this_token, .int m_this_value, .int m_this_opened, .int m_this_steps, .ref h_this_code0, .ref h_this_read, .ref h_this_saved, .ref h_this_plan, .ref h_this_bestPlan, .int x_this_most, .int x_this_many, .int x_this_few, .int x_this_everHome, .ref h_this_offThen, .ref h_this_paidThen, .int x_this_firstFit, .ref h_this_rows, .int x_this_rowMany, .ref h_this_sorts, .ref h_this_sizes, .ref h_this_number, .ref h_this_holds, .ref h_this_heldOne, .ref h_this_trace, .int x_this_traced, .int x_this_own, .int x_this_isParted]), (h_this_code0, ia G 200 m_this_code0), (h_this_letters, ca G 144 f_this_letters), (h_this_tape, ia G 200 f_this_tape)]) {h_this h_this_s h_this_kept h_this_laid h_this_pile h_this_tape h_this_letters h_this_code0 h_this_read h_this_saved h_this_plan h_this_bestPlan h_this_offThen h_this_paidThen h_this_rows h_this_sorts h_this_sizes h_this_number h_this_holds h_this_heldOne h_this_trace : Nat} {x_this_isKept : Int32} {x_this_taped : Int32} {x_this_at : Int32} {x_this_begun : Int32} {x_this_token : Int32} {x_this_value : Int32} {x_this_opened : Int32} {x_this_steps : Int32} {x_this_most : Int32} {x_this_many : Int32} {x_this_few : Int32} {x_this_everHome : Int32} {x_this_firstFit : Int32} {x_this_rowMany : Int32} {x_this_traced : Int32} {x_this_own : Int32} {x_this_isParted : Int32} {f_this_code0 : Nat → Int32} {f_this_letters : Nat → Int32} {f_this_tape : Nat → Int32} {r : Int32} {m_this_at : Int32} {m_this_begun : Int32} {m_this_token : Int32} {m_this_value : Int32} {m_this_opened : Int32} {m_this_steps : Int32} {m_this_code0 : Nat → Int32} (hf : f_X9_readsOne self x_this_taped x_this_at x_this_begun x_this_token x_this_value x_this_opened x_this_steps f_this_code0 f_this_letters f_this_tape = some (r, m_this_at, m_this_begun, m_this_token, m_this_value, m_this_opened, m_this_steps, m_this_code0)) : mFi l G yX9_readsOne cX9_readsOne 4 .boolean (H0 + 6) [.ref h_this] [(h_this, ob 9 [.ref h_this_s, .ref h_this_kept, .ref h_this_laid, .int x_this_isKept, .ref h_this_pile, .ref h_this_tape, .int x_this_taped, .ref h_this_letters, .int x_this_at, .int x_this_begun, .int x_this_token, .int x_this_value, .int x_this_opened, .int x_this_steps, .ref h_this_code0, .ref h_this_read, .ref h_this_saved, .ref h_this_plan, .ref h_this_bestPlan, .int x_this_most, .int x_this_many, .int x_this_few, .int x_this_everHome, .ref h_this_offThen, .ref h_this_paidThen, .int x_this_firstFit, .ref h_this_rows, .int x_this_rowMany, .ref h_this_sorts, .ref h_this_sizes, .ref h_this_number, .ref h_this_holds, .ref h_this_heldOne, .ref h_this_trace, .int x_this_traced, .int x_this_own, .int x_this_isParted]), (h_this_code0, ia G 200 f_this_code0), (h_this_letters, ca G 144 f_this_letters), (h_this_tape, ia G 200 f_this_tape)] r [(h_this, ob 9 [.ref h_this_s, .ref h_this_kept, .ref h_this_laid, .int x_this_isKept, .ref h_this_pile, .ref h_this_tape, .int x_this_taped, .ref h_this_letters, .int m_this_at, .int m_this_begun, .int m_this_token, .int m_this_value, .int m_this_opened, .int m_this_steps, .ref h_this_code0, .ref h_this_read, .ref h_this_saved, .ref h_this_plan, .ref h_this_bestPlan, .int x_this_most, .int x_this_many, .int x_this_few, .int x_this_everHome, .ref h_this_offThen, .ref h_this_paidThen, .int x_this_firstFit, .ref h_this_rows, .int x_this_rowMany, .ref h_this_sorts, .ref h_this_sizes, .ref h_this_number, .ref h_this_holds, .ref h_this_heldOne, .ref h_this_trace, .int x_this_traced, .int x_this_own, .int x_this_isParted]), (h_this_code0, ia G 200 m_this_code0), (h_this_letters, ca G 144 f_this_letters), (h_this_tape, ia G 200 f_this_tape)] := by
  refine mFi.of (by decide +kernel) (Nat.le_of_ble_eq_true rfl) ?_
  intro p e s m below meth c A C hr hlk h ls hl
  obtain ⟨hx, hb, hml, hown, hts⟩ := id C
  replace hl : lv_has ls 4 [(0, .ref h_this)] := hl
  unfold f_X9_readsOne at hf
  refine with_K G A 4 (fun K hK1 hK2 => ?_)
  have L41 : ∀ (n : Nat) (v1 : Int32) (v2 : Int32) (v3 : Int32) (y_this_at : Int32) (y_this_begun : Int32) (y_this_token : Int32) (y_this_value : Int32) (y_this_opened : Int32) (y_this_steps : Int32) (g_this_code0 : Nat → Int32), f_X9_readsOne_L41 n v1 v2 v3 y_this_at y_this_begun y_this_token y_this_value y_this_opened y_this_steps g_this_code0 = some (r, m_this_at, m_this_begun, m_this_token, m_this_value, m_this_opened, m_this_steps, m_this_code0) → K 41 ([] : List Value) [(h_this, ob 9 [.ref h_this_s, .ref h_this_kept, .ref h_this_laid, .int x_this_isKept, .ref h_this_pile, .ref h_this_tape, .int x_this_taped, .ref h_this_letters, .int y_this_at, .int y_this_begun, .int y_this_token, .int y_this_value, .int y_this_opened, .int y_this_steps, .ref h_this_code0, .ref h_this_read, .ref h_this_saved, .ref h_this_plan, .ref h_this_bestPlan, .int x_this_most, .int x_this_many, .int x_this_few, .int x_this_everHome, .ref h_this_offThen, .ref h_this_paidThen, .int x_this_firstFit, .ref h_this_rows, .int x_this_rowMany, .ref h_this_sorts, .ref h_this_sizes, .ref h_this_number, .ref h_this_holds, .ref h_this_heldOne, .ref h_this_trace, .int x_this_traced, .int x_this_own, .int x_this_isParted]), (h_this_code0, ia G 200 g_this_code0), (h_this_letters, ca G 144 f_this_letters), (h_this_tape, ia G 200 f_this_tape)] [(0, .ref h_this), (1, .int v1), (2, .int v2), (3, .int v3)] := by
    intro n
    induction n with
    | zero =>
      intro v1 v2 v3 y_this_at y_this_begun y_this_token y_this_value y_this_opened y_this_steps g_this_code0 hf
      replace hf : (none : Option _) = some _ := hf
      cases hf
    | succ n ih =>
      intro v1 v2 v3 y_this_at y_this_begun y_this_token y_this_value y_this_opened y_this_steps g_this_code0 hf
      rw [f_X9_readsOne_L41] at hf
      refine hK1 _ _ _ _ (fun H locs ls h hl => ?_)
      refine lv_iload_n hx hb dX9_readsOne_41 rfl (lv_at hl 3 rfl) ?_
      refine lv_iload_n hx hb dX9_readsOne_42 rfl (lv_at hl 1 rfl) ?_
      refine lv_icmp_ge (tgt := 63) hx hb dX9_readsOne_43 rfl (fun c17 => ?_) (fun c17 => ?_)
      · replace hf := ifp c17 hf
        refine lv_iload_n hx hb dX9_readsOne_63 rfl (lv_at hl 2 rfl) ?_
        replace hf := chkB_inv hf
        obtain ⟨hb18, hf⟩ := hf
        cases hf
        exact r_iret C h hr hlk hb18 dX9_readsOne_64
      · replace hf := ifn c17 hf
        refine lv_iload_n hx hb dX9_readsOne_46 rfl (lv_at hl 2 rfl) ?_
        refine lv_if_eq (tgt := 63) hx hb dX9_readsOne_47 rfl (fun c19 => ?_) (fun c19 => ?_)
        · replace hf := ifp c19 hf
          refine lv_iload_n hx hb dX9_readsOne_63 rfl (lv_at hl 2 rfl) ?_
          replace hf := chkB_inv hf
          obtain ⟨hb20, hf⟩ := hf
          cases hf
          exact r_iret C h hr hlk hb20 dX9_readsOne_64
        · replace hf := ifn c19 hf
          refine lv_aload_n hx hb dX9_readsOne_50 rfl (lv_at hl 0 rfl) ?_
          refine lv_sipush (v := (10015 : Int32)) hx hb dX9_readsOne_51 rfl ?_
          replace hf := bd2_inv hf
          obtain ⟨y21, g22, hc23, hf⟩ := hf
          refine r_cvV (ws' := [(h_this, ob 9 [.ref h_this_s, .ref h_this_kept, .ref h_this_laid, .int x_this_isKept, .ref h_this_pile, .ref h_this_tape, .int x_this_taped, .ref h_this_letters, .int y_this_at, .int y_this_begun, .int y_this_token, .int y_this_value, .int y_this_opened, .int y21, .ref h_this_code0, .ref h_this_read, .ref h_this_saved, .ref h_this_plan, .ref h_this_bestPlan, .int x_this_most, .int x_this_many, .int x_this_few, .int x_this_everHome, .ref h_this_offThen, .ref h_this_paidThen, .int x_this_firstFit, .ref h_this_rows, .int x_this_rowMany, .ref h_this_sorts, .ref h_this_sizes, .ref h_this_number, .ref h_this_holds, .ref h_this_heldOne, .ref h_this_trace, .int x_this_traced, .int x_this_own, .int x_this_isParted]), (h_this_code0, ia G 200 g22), (h_this_letters, ca G 144 f_this_letters), (h_this_tape, ia G 200 f_this_tape)]) C h (c_X9_lays hc23) mv_X9_161 rfl 0 rfl [0, 1] rfl rfl rfl rfl rfl hl.1 rfl (Nat.le_of_ble_eq_true rfl) (rok (by omega)) dX9_readsOne_54 (fun H locs h => ?_)
          obtain ⟨t24, et24⟩ : ∃ y : Int32, y = v3 + (1 : Int32) := ⟨_, rfl⟩
          replace hf := lt1_inv et24 hf
          refine lv_iinc (v := t24) (lv' := [(3, .int t24), (0, .ref h_this), (1, .int v1), (2, .int v2)]) hx hb dX9_readsOne_57 hl (k := 3) rfl (by rw [et24]; rfl) (by decide) rfl (fun ls hl => ?_)
          refine lv_goto (tgt := 41) hx hb dX9_readsOne_60 rfl ?_
          exact hK2 _ _ _ _ (ih v1 v2 t24 y_this_at y_this_begun y_this_token y_this_value y_this_opened y21 g22 hf) _ _ _ h (lv_sub hl [1, 2, 3, 0] rfl)
  have B38 : ∀ (v1 : Int32) (s0 : Int32) (y_this_at : Int32) (y_this_begun : Int32) (y_this_token : Int32) (y_this_value : Int32) (y_this_opened : Int32) (y_this_steps : Int32) (g_this_code0 : Nat → Int32), f_X9_readsOne_b38 v1 s0 y_this_at y_this_begun y_this_token y_this_value y_this_opened y_this_steps g_this_code0 = some (r, m_this_at, m_this_begun, m_this_token, m_this_value, m_this_opened, m_this_steps, m_this_code0) → K 38 [.int s0] [(h_this, ob 9 [.ref h_this_s, .ref h_this_kept, .ref h_this_laid, .int x_this_isKept, .ref h_this_pile, .ref h_this_tape, .int x_this_taped, .ref h_this_letters, .int y_this_at, .int y_this_begun, .int y_this_token, .int y_this_value, .int y_this_opened, .int y_this_steps, .ref h_this_code0, .ref h_this_read, .ref h_this_saved, .ref h_this_plan, .ref h_this_bestPlan, .int x_this_most, .int x_this_many, .int x_this_few, .int x_this_everHome, .ref h_this_offThen, .ref h_this_paidThen, .int x_this_firstFit, .ref h_this_rows, .int x_this_rowMany, .ref h_this_sorts, .ref h_this_sizes, .ref h_this_number, .ref h_this_holds, .ref h_this_heldOne, .ref h_this_trace, .int x_this_traced, .int x_this_own, .int x_this_isParted]), (h_this_code0, ia G 200 g_this_code0), (h_this_letters, ca G 144 f_this_letters), (h_this_tape, ia G 200 f_this_tape)] [(0, .ref h_this), (1, .int v1)] := by
    intro v1 s0 y_this_at y_this_begun y_this_token y_this_value y_this_opened y_this_steps g_this_code0 hf
    unfold f_X9_readsOne_b38 at hf
    refine hK1 _ _ _ _ (fun H locs ls h hl => ?_)
    refine lv_istore_n (lv' := [(2, .int s0), (0, .ref h_this), (1, .int v1)]) hx hb dX9_readsOne_38 rfl hl (by decide) rfl (fun ls hl => ?_)
    refine lv_iconst (v := (0 : Int32)) hx hb dX9_readsOne_39 rfl ?_
    refine lv_istore_n (lv' := [(3, .int (0 : Int32)), (2, .int s0), (0, .ref h_this), (1, .int v1)]) hx hb dX9_readsOne_40 rfl hl (by decide) rfl (fun ls hl => ?_)
    exact hK2 _ _ _ _ (L41 1000 v1 s0 (0 : Int32) y_this_at y_this_begun y_this_token y_this_value y_this_opened y_this_steps g_this_code0 hf) _ _ _ h (lv_sub hl [2, 3, 1, 0] rfl)
  have B17 : ∀ (v1 : Int32) (y_this_at : Int32) (y_this_begun : Int32) (y_this_token : Int32) (y_this_value : Int32), f_X9_readsOne_b17 self x_this_taped x_this_opened x_this_steps f_this_code0 f_this_letters f_this_tape v1 y_this_at y_this_begun y_this_token y_this_value = some (r, m_this_at, m_this_begun, m_this_token, m_this_value, m_this_opened, m_this_steps, m_this_code0) → K 17 ([] : List Value) [(h_this, ob 9 [.ref h_this_s, .ref h_this_kept, .ref h_this_laid, .int x_this_isKept, .ref h_this_pile, .ref h_this_tape, .int x_this_taped, .ref h_this_letters, .int y_this_at, .int y_this_begun, .int y_this_token, .int y_this_value, .int x_this_opened, .int x_this_steps, .ref h_this_code0, .ref h_this_read, .ref h_this_saved, .ref h_this_plan, .ref h_this_bestPlan, .int x_this_most, .int x_this_many, .int x_this_few, .int x_this_everHome, .ref h_this_offThen, .ref h_this_paidThen, .int x_this_firstFit, .ref h_this_rows, .int x_this_rowMany, .ref h_this_sorts, .ref h_this_sizes, .ref h_this_number, .ref h_this_holds, .ref h_this_heldOne, .ref h_this_trace, .int x_this_traced, .int x_this_own, .int x_this_isParted]), (h_this_code0, ia G 200 f_this_code0), (h_this_letters, ca G 144 f_this_letters), (h_this_tape, ia G 200 f_this_tape)] [(0, .ref h_this), (1, .int v1)] := by
    intro v1 y_this_at y_this_begun y_this_token y_this_value hf
    unfold f_X9_readsOne_b17 at hf
    refine hK1 _ _ _ _ (fun H locs ls h hl => ?_)
    refine lv_aload_n hx hb dX9_readsOne_17 rfl (lv_at hl 0 rfl) ?_
    refine r_get C h fk_X9_140 0 rfl rfl dX9_readsOne_18 ?_
    refine lv_sipush (v := (240 : Int32)) hx hb dX9_readsOne_21 rfl ?_
    refine lv_icmp_ne (tgt := 34) hx hb dX9_readsOne_24 rfl (fun c8 => ?_) (fun c8 => ?_)
    · replace hf := ifn c8 hf
      refine lv_aload_n hx hb dX9_readsOne_34 rfl (lv_at hl 0 rfl) ?_
      replace hf := bd7_inv hf
      obtain ⟨r9, y10, y11, y12, y13, y14, g15, hc16, hf⟩ := hf
      refine r_ciV (ws' := [(h_this, ob 9 [.ref h_this_s, .ref h_this_kept, .ref h_this_laid, .int x_this_isKept, .ref h_this_pile, .ref h_this_tape, .int x_this_taped, .ref h_this_letters, .int y10, .int y11, .int y12, .int y13, .int x_this_opened, .int y14, .ref h_this_code0, .ref h_this_read, .ref h_this_saved, .ref h_this_plan, .ref h_this_bestPlan, .int x_this_most, .int x_this_many, .int x_this_few, .int x_this_everHome, .ref h_this_offThen, .ref h_this_paidThen, .int x_this_firstFit, .ref h_this_rows, .int x_this_rowMany, .ref h_this_sorts, .ref h_this_sizes, .ref h_this_number, .ref h_this_holds, .ref h_this_heldOne, .ref h_this_trace, .int x_this_traced, .int x_this_own, .int x_this_isParted]), (h_this_code0, ia G 200 g15), (h_this_letters, ca G 144 f_this_letters), (h_this_tape, ia G 200 f_this_tape)]) C h (c_X9_readsLike hc16) mv_X9_181 rfl 0 rfl [0, 1, 2, 3] rfl rfl rfl rfl rfl hl.1 rfl (Nat.le_of_ble_eq_true rfl) (rok (by omega)) dX9_readsOne_35 (fun H locs h => ?_)
      exact hK2 _ _ _ _ (B38 v1 r9 y10 y11 y12 y13 x_this_opened y14 g15 hf) _ _ _ h (lv_sub hl [0, 1] rfl)
    · replace hf := ifp c8 hf
      refine lv_aload_n hx hb dX9_readsOne_27 rfl (lv_at hl 0 rfl) ?_
      replace hf := bd8_inv hf
      obtain ⟨r25, y26, y27, y28, y29, y30, y31, g32, hc33, hf⟩ := hf
      refine r_ciV (ws' := [(h_this, ob 9 [.ref h_this_s, .ref h_this_kept, .ref h_this_laid, .int x_this_isKept, .ref h_this_pile, .ref h_this_tape, .int x_this_taped, .ref h_this_letters, .int y26, .int y27, .int y28, .int y29, .int y30, .int y31, .ref h_this_code0, .ref h_this_read, .ref h_this_saved, .ref h_this_plan, .ref h_this_bestPlan, .int x_this_most, .int x_this_many, .int x_this_few, .int x_this_everHome, .ref h_this_offThen, .ref h_this_paidThen, .int x_this_firstFit, .ref h_this_rows, .int x_this_rowMany, .ref h_this_sorts, .ref h_this_sizes, .ref h_this_number, .ref h_this_holds, .ref h_this_heldOne, .ref h_this_trace, .int x_this_traced, .int x_this_own, .int x_this_isParted]), (h_this_code0, ia G 200 g32), (h_this_letters, ca G 144 f_this_letters), (h_this_tape, ia G 200 f_this_tape)]) C h (c_X9_readsWithin hself hc33) mv_X9_178 rfl 0 rfl [0, 1, 2, 3] rfl rfl rfl rfl rfl hl.1 rfl (Nat.le_of_ble_eq_true rfl) (rok (by omega)) dX9_readsOne_28 (fun H locs h => ?_)
      refine lv_goto (tgt := 38) hx hb dX9_readsOne_31 rfl ?_
      exact hK2 _ _ _ _ (B38 v1 r25 y26 y27 y28 y29 y30 y31 g32 hf) _ _ _ h (lv_sub hl [0, 1] rfl)
  have L2 : ∀ (n : Nat) (v1 : Int32) (y_this_at : Int32) (y_this_begun : Int32) (y_this_token : Int32) (y_this_value : Int32), f_X9_readsOne_L2 self x_this_taped x_this_opened x_this_steps f_this_code0 f_this_letters f_this_tape n v1 y_this_at y_this_begun y_this_token y_this_value = some (r, m_this_at, m_this_begun, m_this_token, m_this_value, m_this_opened, m_this_steps, m_this_code0) → K 2 ([] : List Value) [(h_this, ob 9 [.ref h_this_s, .ref h_this_kept, .ref h_this_laid, .int x_this_isKept, .ref h_this_pile, .ref h_this_tape, .int x_this_taped, .ref h_this_letters, .int y_this_at, .int y_this_begun, .int y_this_token, .int y_this_value, .int x_this_opened, .int x_this_steps, .ref h_this_code0, .ref h_this_read, .ref h_this_saved, .ref h_this_plan, .ref h_this_bestPlan, .int x_this_most, .int x_this_many, .int x_this_few, .int x_this_everHome, .ref h_this_offThen, .ref h_this_paidThen, .int x_this_firstFit, .ref h_this_rows, .int x_this_rowMany, .ref h_this_sorts, .ref h_this_sizes, .ref h_this_number, .ref h_this_holds, .ref h_this_heldOne, .ref h_this_trace, .int x_this_traced, .int x_this_own, .int x_this_isParted]), (h_this_code0, ia G 200 f_this_code0), (h_this_letters, ca G 144 f_this_letters), (h_this_tape, ia G 200 f_this_tape)] [(0, .ref h_this), (1, .int v1)] := by
    intro n
    induction n with
    | zero =>
      intro v1 y_this_at y_this_begun y_this_token y_this_value hf
      replace hf : (none : Option _) = some _ := hf
      cases hf
    | succ n ih =>
      intro v1 y_this_at y_this_begun y_this_token y_this_value hf
      rw [f_X9_readsOne_L2] at hf
      refine hK1 _ _ _ _ (fun H locs ls h hl => ?_)
      refine lv_aload_n hx hb dX9_readsOne_2 rfl (lv_at hl 0 rfl) ?_
      refine lv_bipush (v := (10 : Int32)) hx hb dX9_readsOne_3 rfl ?_
      replace hf := bd5_inv hf
      obtain ⟨r1, y2, y3, y4, y5, hc6, hf⟩ := hf
      refine r_ciV (ws' := [(h_this, ob 9 [.ref h_this_s, .ref h_this_kept, .ref h_this_laid, .int x_this_isKept, .ref h_this_pile, .ref h_this_tape, .int x_this_taped, .ref h_this_letters, .int y2, .int y3, .int y4, .int y5, .int x_this_opened, .int x_this_steps, .ref h_this_code0, .ref h_this_read, .ref h_this_saved, .ref h_this_plan, .ref h_this_bestPlan, .int x_this_most, .int x_this_many, .int x_this_few, .int x_this_everHome, .ref h_this_offThen, .ref h_this_paidThen, .int x_this_firstFit, .ref h_this_rows, .int x_this_rowMany, .ref h_this_sorts, .ref h_this_sizes, .ref h_this_number, .ref h_this_holds, .ref h_this_heldOne, .ref h_this_trace, .int x_this_traced, .int x_this_own, .int x_this_isParted]), (h_this_code0, ia G 200 f_this_code0), (h_this_letters, ca G 144 f_this_letters), (h_this_tape, ia G 200 f_this_tape)]) C h (c_X9_takes hc6) mv_X9_175 rfl 0 rfl [0, 2, 3] rfl rfl rfl rfl rfl hl.1 rfl (Nat.le_of_ble_eq_true rfl) (rok (by omega)) dX9_readsOne_5 (fun H locs h => ?_)
      refine lv_if_eq (tgt := 17) hx hb dX9_readsOne_8 rfl (fun c7 => ?_) (fun c7 => ?_)
      · replace hf := ifp c7 hf
        exact hK2 _ _ _ _ (B17 v1 y2 y3 y4 y5 hf) _ _ _ h (lv_sub hl [0, 1] rfl)
      · replace hf := ifn c7 hf
        obtain ⟨t34, et34⟩ : ∃ y : Int32, y = v1 + (1 : Int32) := ⟨_, rfl⟩
        replace hf := lt1_inv et34 hf
        refine lv_iinc (v := t34) (lv' := [(1, .int t34), (0, .ref h_this)]) hx hb dX9_readsOne_11 hl (k := 1) rfl (by rw [et34]; rfl) (by decide) rfl (fun ls hl => ?_)
        refine lv_goto (tgt := 2) hx hb dX9_readsOne_14 rfl ?_
        exact hK2 _ _ _ _ (ih t34 y2 y3 y4 y5 hf) _ _ _ h (lv_sub hl [1, 0] rfl)
  refine lv_iconst (v := (0 : Int32)) hx hb dX9_readsOne_0 rfl ?_
  refine lv_istore_n (lv' := [(1, .int (0 : Int32)), (0, .ref h_this)]) hx hb dX9_readsOne_1 rfl hl (by decide) rfl (fun ls hl => ?_)
  exact hK2 _ _ _ _ (L2 1000 (0 : Int32) x_this_at x_this_begun x_this_token x_this_value hf) _ _ _ h (lv_sub hl [1, 0] rfl)
def f_X9_readsAll_L5 (self : Int32 → Int32 → Int32 → Int32 → Int32 → Int32 → Int32 → (Nat → Int32) → (Nat → Int32) → (Nat → Int32) → Option (Int32 × Int32 × Int32 × Int32 × Int32 × Int32 × Int32 × (Nat → Int32))) (x_this_taped : Int32) (f_this_letters : Nat → Int32) (f_this_tape : Nat → Int32) : Nat → Int32 → Int32 → Int32 → Int32 → Int32 → Int32 → Int32 → (Nat → Int32) → Option (Int32 × Int32 × Int32 × Int32 × Int32 × Int32 × Int32 × (Nat → Int32))
  | 0, _, _, _, _, _, _, _, _ => none
  | n + 1, v1, y_this_at, y_this_begun, y_this_token, y_this_value, y_this_opened, y_this_steps, g_this_code0 => (if v1 = 0 then chkB v1 (some (v1, y_this_at, y_this_begun, y_this_token, y_this_value, y_this_opened, y_this_steps, g_this_code0)) else bd5 (f_X9_takes (11 : Int32) x_this_taped y_this_at y_this_begun y_this_token y_this_value f_this_letters f_this_tape) (fun r12 y13 y14 y15 y16 => (if r12 = 0 then chkB v1 (some (v1, y13, y14, y15, y16, y_this_opened, y_this_steps, g_this_code0)) else bd8 (f_X9_readsOne self x_this_taped y13 y14 y15 y16 y_this_opened y_this_steps g_this_code0 f_this_letters f_this_tape) (fun r20 y21 y22 y23 y24 y25 y26 g27 => (if r20 = 0 then (f_X9_readsAll_L5 self x_this_taped f_this_letters f_this_tape n) r20 y21 y22 y23 y24 y25 y26 g27 else bd2 (f_X9_lays (10013 : Int32) y26 g27) (fun y30 g31 => (f_X9_readsAll_L5 self x_this_taped f_this_letters f_this_tape n) r20 y21 y22 y23 y24 y25 y30 g31))))))
def f_X9_readsAll (self : Int32 → Int32 → Int32 → Int32 → Int32 → Int32 → Int32 → (Nat → Int32) → (Nat → Int32) → (Nat → Int32) → Option (Int32 × Int32 × Int32 × Int32 × Int32 × Int32 × Int32 × (Nat → Int32))) (x_this_taped : Int32) (x_this_at : Int32) (x_this_begun : Int32) (x_this_token : Int32) (x_this_value : Int32) (x_this_opened : Int32) (x_this_steps : Int32) (f_this_code0 : Nat → Int32) (f_this_letters : Nat → Int32) (f_this_tape : Nat → Int32) : Option (Int32 × Int32 × Int32 × Int32 × Int32 × Int32 × Int32 × (Nat → Int32)) := bd8 (f_X9_readsOne self x_this_taped x_this_at x_this_begun x_this_token x_this_value x_this_opened x_this_steps f_this_code0 f_this_letters f_this_tape) (fun r1 y2 y3 y4 y5 y6 y7 g8 => f_X9_readsAll_L5 self x_this_taped f_this_letters f_this_tape 1000 r1 y2 y3 y4 y5 y6 y7 g8)
set_option maxRecDepth 100000 in
set_option maxHeartbeats 4000000 in
theorem c_X9_readsAll {l : Launch} {G : Gt} {self : Int32 → Int32 → Int32 → Int32 → Int32 → Int32 → Int32 → (Nat → Int32) → (Nat → Int32) → (Nat → Int32) → Option (Int32 × Int32 × Int32 × Int32 × Int32 × Int32 × Int32 × (Nat → Int32))} {H0 : Nat} (hself : ∀ {h_this h_this_s h_this_kept h_this_laid h_this_pile h_this_tape h_this_letters h_this_code0 h_this_read h_this_saved h_this_plan h_this_bestPlan h_this_offThen h_this_paidThen h_this_rows h_this_sorts h_this_sizes h_this_number h_this_holds h_this_heldOne h_this_trace : Nat} {x_this_isKept : Int32} {x_this_taped : Int32} {x_this_at : Int32} {x_this_begun : Int32} {x_this_token : Int32} {x_this_value : Int32} {x_this_opened : Int32} {x_this_steps : Int32} {x_this_most : Int32} {x_this_many : Int32} {x_this_few : Int32} {x_this_everHome : Int32} {x_this_firstFit : Int32} {x_this_rowMany : Int32} {x_this_traced : Int32} {x_this_own : Int32} {x_this_isParted : Int32} {f_this_code0 : Nat → Int32} {f_this_letters : Nat → Int32} {f_this_tape : Nat → Int32} {r : Int32} {m_this_at : Int32} {m_this_begun : Int32} {m_this_token : Int32} {m_this_value : Int32} {m_this_opened : Int32} {m_this_steps : Int32} {m_this_code0 : Nat → Int32} , self x_this_taped x_this_at x_this_begun x_this_token x_this_value x_this_opened x_this_steps f_this_code0 f_this_letters f_this_tape = some (r, m_this_at, m_this_begun, m_this_token, m_this_value, m_this_opened, m_this_steps, m_this_code0) → mFi l G yX9_readsCondition cX9_readsCondition 2 .boolean H0 [.ref h_this] [(h_this, ob 9 [.ref h_this_s, .ref h_this_kept, .ref h_this_laid, .int x_this_isKept, .ref h_this_pile, .ref h_this_tape, .int x_this_taped, .ref h_this_letters, .int x_this_at, .int x_this_begun, .int x_this_token, .int x_this_value, .int x_this_opened, .int x_this_steps, .ref h_this_code0, .ref h_this_read, .ref h_this_saved, .ref h_this_plan, .ref h_this_bestPlan, .int x_this_most, .int x_this_many, .int x_this_few, .int x_this_everHome, .ref h_this_offThen, .ref h_this_paidThen, .int x_this_firstFit, .ref h_this_rows, .int x_this_rowMany, .ref h_this_sorts, .ref h_this_sizes, .ref h_this_number, .ref h_this_holds, .ref h_this_heldOne, .ref h_this_trace, .int x_this_traced, .int x_this_own, .int x_this_isParted]), (h_this_code0, ia G 200 f_this_code0), (h_this_letters, ca G 144 f_this_letters), (h_this_tape, ia G 200 f_this_tape)] r [(h_this, ob 9 [.ref h_this_s, .ref h_this_kept, .ref h_this_laid, .int x_this_isKept, .ref h_this_pile, .ref h_this_tape, .int x_this_taped, .ref h_this_letters, .int m_this_at, .int m_this_begun, .int m_this_token, .int m_this_value, .int m_this_opened, .int m_this_steps, .ref h_this_code0, .ref h_this_read, .ref h_this_saved, .ref h_this_plan, .ref h_this_bestPlan, .int x_this_most, .int x_this_many, .int x_this_few, .int x_this_everHome, .ref h_this_offThen, .ref h_this_paidThen, .int x_this_firstFit, .ref h_this_rows, .int x_this_rowMany, .ref h_this_sorts, .ref h_this_sizes, .ref h_this_number, .ref h_this_holds, .ref h_this_heldOne, .ref h_this_trace, .int x_this_traced, .int x_this_own, .int x_this_isParted]), (h_this_code0, ia G 200 m_this_code0), (h_this_letters, ca G 144 f_this_letters), (h_this_tape, ia G 200 f_this_tape)]) {h_this h_this_s h_this_kept h_this_laid h_this_pile h_this_tape h_this_letters h_this_code0 h_this_read h_this_saved h_this_plan h_this_bestPlan h_this_offThen h_this_paidThen h_this_rows h_this_sorts h_this_sizes h_this_number h_this_holds h_this_heldOne h_this_trace : Nat} {x_this_isKept : Int32} {x_this_taped : Int32} {x_this_at : Int32} {x_this_begun : Int32} {x_this_token : Int32} {x_this_value : Int32} {x_this_opened : Int32} {x_this_steps : Int32} {x_this_most : Int32} {x_this_many : Int32} {x_this_few : Int32} {x_this_everHome : Int32} {x_this_firstFit : Int32} {x_this_rowMany : Int32} {x_this_traced : Int32} {x_this_own : Int32} {x_this_isParted : Int32} {f_this_code0 : Nat → Int32} {f_this_letters : Nat → Int32} {f_this_tape : Nat → Int32} {r : Int32} {m_this_at : Int32} {m_this_begun : Int32} {m_this_token : Int32} {m_this_value : Int32} {m_this_opened : Int32} {m_this_steps : Int32} {m_this_code0 : Nat → Int32} (hf : f_X9_readsAll self x_this_taped x_this_at x_this_begun x_this_token x_this_value x_this_opened x_this_steps f_this_code0 f_this_letters f_this_tape = some (r, m_this_at, m_this_begun, m_this_token, m_this_value, m_this_opened, m_this_steps, m_this_code0)) : mFi l G yX9_readsAll cX9_readsAll 2 .boolean (H0 + 7) [.ref h_this] [(h_this, ob 9 [.ref h_this_s, .ref h_this_kept, .ref h_this_laid, .int x_this_isKept, .ref h_this_pile, .ref h_this_tape, .int x_this_taped, .ref h_this_letters, .int x_this_at, .int x_this_begun, .int x_this_token, .int x_this_value, .int x_this_opened, .int x_this_steps, .ref h_this_code0, .ref h_this_read, .ref h_this_saved, .ref h_this_plan, .ref h_this_bestPlan, .int x_this_most, .int x_this_many, .int x_this_few, .int x_this_everHome, .ref h_this_offThen, .ref h_this_paidThen, .int x_this_firstFit, .ref h_this_rows, .int x_this_rowMany, .ref h_this_sorts, .ref h_this_sizes, .ref h_this_number, .ref h_this_holds, .ref h_this_heldOne, .ref h_this_trace, .int x_this_traced, .int x_this_own, .int x_this_isParted]), (h_this_code0, ia G 200 f_this_code0), (h_this_letters, ca G 144 f_this_letters), (h_this_tape, ia G 200 f_this_tape)] r [(h_this, ob 9 [.ref h_this_s, .ref h_this_kept, .ref h_this_laid, .int x_this_isKept, .ref h_this_pile, .ref h_this_tape, .int x_this_taped, .ref h_this_letters, .int m_this_at, .int m_this_begun, .int m_this_token, .int m_this_value, .int m_this_opened, .int m_this_steps, .ref h_this_code0, .ref h_this_read, .ref h_this_saved, .ref h_this_plan, .ref h_this_bestPlan, .int x_this_most, .int x_this_many, .int x_this_few, .int x_this_everHome, .ref h_this_offThen, .ref h_this_paidThen, .int x_this_firstFit, .ref h_this_rows, .int x_this_rowMany, .ref h_this_sorts, .ref h_this_sizes, .ref h_this_number, .ref h_this_holds, .ref h_this_heldOne, .ref h_this_trace, .int x_this_traced, .int x_this_own, .int x_this_isParted]), (h_this_code0, ia G 200 m_this_code0), (h_this_letters, ca G 144 f_this_letters), (h_this_tape, ia G 200 f_this_tape)] := by
  refine mFi.of (by decide +kernel) (Nat.le_of_ble_eq_true rfl) ?_
  intro p e s m below meth c A C hr hlk h ls hl
  obtain ⟨hx, hb, hml, hown, hts⟩ := id C
  replace hl : lv_has ls 2 [(0, .ref h_this)] := hl
  unfold f_X9_readsAll at hf
  refine with_K G A 2 (fun K hK1 hK2 => ?_)
  have L5 : ∀ (n : Nat) (v1 : Int32) (y_this_at : Int32) (y_this_begun : Int32) (y_this_token : Int32) (y_this_value : Int32) (y_this_opened : Int32) (y_this_steps : Int32) (g_this_code0 : Nat → Int32), f_X9_readsAll_L5 self x_this_taped f_this_letters f_this_tape n v1 y_this_at y_this_begun y_this_token y_this_value y_this_opened y_this_steps g_this_code0 = some (r, m_this_at, m_this_begun, m_this_token, m_this_value, m_this_opened, m_this_steps, m_this_code0) → K 5 ([] : List Value) [(h_this, ob 9 [.ref h_this_s, .ref h_this_kept, .ref h_this_laid, .int x_this_isKept, .ref h_this_pile, .ref h_this_tape, .int x_this_taped, .ref h_this_letters, .int y_this_at, .int y_this_begun, .int y_this_token, .int y_this_value, .int y_this_opened, .int y_this_steps, .ref h_this_code0, .ref h_this_read, .ref h_this_saved, .ref h_this_plan, .ref h_this_bestPlan, .int x_this_most, .int x_this_many, .int x_this_few, .int x_this_everHome, .ref h_this_offThen, .ref h_this_paidThen, .int x_this_firstFit, .ref h_this_rows, .int x_this_rowMany, .ref h_this_sorts, .ref h_this_sizes, .ref h_this_number, .ref h_this_holds, .ref h_this_heldOne, .ref h_this_trace, .int x_this_traced, .int x_this_own, .int x_this_isParted]), (h_this_code0, ia G 200 g_this_code0), (h_this_letters, ca G 144 f_this_letters), (h_this_tape, ia G 200 f_this_tape)] [(0, .ref h_this), (1, .int v1)] := by
    intro n
    induction n with
    | zero =>
      intro v1 y_this_at y_this_begun y_this_token y_this_value y_this_opened y_this_steps g_this_code0 hf
      replace hf : (none : Option _) = some _ := hf
      cases hf
    | succ n ih =>
      intro v1 y_this_at y_this_begun y_this_token y_this_value y_this_opened y_this_steps g_this_code0 hf
      rw [f_X9_readsAll_L5] at hf
      refine hK1 _ _ _ _ (fun H locs ls h hl => ?_)
      refine lv_iload_n hx hb dX9_readsAll_5 rfl (lv_at hl 1 rfl) ?_
      refine lv_if_eq (tgt := 37) hx hb dX9_readsAll_6 rfl (fun c10 => ?_) (fun c10 => ?_)
      · replace hf := ifp c10 hf
        refine lv_iload_n hx hb dX9_readsAll_37 rfl (lv_at hl 1 rfl) ?_
        replace hf := chkB_inv hf
        obtain ⟨hb11, hf⟩ := hf
        cases hf
        exact r_iret C h hr hlk hb11 dX9_readsAll_38
      · replace hf := ifn c10 hf
        refine lv_aload_n hx hb dX9_readsAll_9 rfl (lv_at hl 0 rfl) ?_
        refine lv_bipush (v := (11 : Int32)) hx hb dX9_readsAll_10 rfl ?_
        replace hf := bd5_inv hf
        obtain ⟨r12, y13, y14, y15, y16, hc17, hf⟩ := hf
        refine r_ciV (ws' := [(h_this, ob 9 [.ref h_this_s, .ref h_this_kept, .ref h_this_laid, .int x_this_isKept, .ref h_this_pile, .ref h_this_tape, .int x_this_taped, .ref h_this_letters, .int y13, .int y14, .int y15, .int y16, .int y_this_opened, .int y_this_steps, .ref h_this_code0, .ref h_this_read, .ref h_this_saved, .ref h_this_plan, .ref h_this_bestPlan, .int x_this_most, .int x_this_many, .int x_this_few, .int x_this_everHome, .ref h_this_offThen, .ref h_this_paidThen, .int x_this_firstFit, .ref h_this_rows, .int x_this_rowMany, .ref h_this_sorts, .ref h_this_sizes, .ref h_this_number, .ref h_this_holds, .ref h_this_heldOne, .ref h_this_trace, .int x_this_traced, .int x_this_own, .int x_this_isParted]), (h_this_code0, ia G 200 g_this_code0), (h_this_letters, ca G 144 f_this_letters), (h_this_tape, ia G 200 f_this_tape)]) C h (c_X9_takes hc17) mv_X9_175 rfl 0 rfl [0, 2, 3] rfl rfl rfl rfl rfl hl.1 rfl (Nat.le_of_ble_eq_true rfl) (rok (by omega)) dX9_readsAll_12 (fun H locs h => ?_)
        refine lv_if_eq (tgt := 37) hx hb dX9_readsAll_15 rfl (fun c18 => ?_) (fun c18 => ?_)
        · replace hf := ifp c18 hf
          refine lv_iload_n hx hb dX9_readsAll_37 rfl (lv_at hl 1 rfl) ?_
          replace hf := chkB_inv hf
          obtain ⟨hb19, hf⟩ := hf
          cases hf
          exact r_iret C h hr hlk hb19 dX9_readsAll_38
        · replace hf := ifn c18 hf
          refine lv_aload_n hx hb dX9_readsAll_18 rfl (lv_at hl 0 rfl) ?_
          replace hf := bd8_inv hf
          obtain ⟨r20, y21, y22, y23, y24, y25, y26, g27, hc28, hf⟩ := hf
          refine r_ciV (ws' := [(h_this, ob 9 [.ref h_this_s, .ref h_this_kept, .ref h_this_laid, .int x_this_isKept, .ref h_this_pile, .ref h_this_tape, .int x_this_taped, .ref h_this_letters, .int y21, .int y22, .int y23, .int y24, .int y25, .int y26, .ref h_this_code0, .ref h_this_read, .ref h_this_saved, .ref h_this_plan, .ref h_this_bestPlan, .int x_this_most, .int x_this_many, .int x_this_few, .int x_this_everHome, .ref h_this_offThen, .ref h_this_paidThen, .int x_this_firstFit, .ref h_this_rows, .int x_this_rowMany, .ref h_this_sorts, .ref h_this_sizes, .ref h_this_number, .ref h_this_holds, .ref h_this_heldOne, .ref h_this_trace, .int x_this_traced, .int x_this_own, .int x_this_isParted]), (h_this_code0, ia G 200 g27), (h_this_letters, ca G 144 f_this_letters), (h_this_tape, ia G 200 f_this_tape)]) C h (c_X9_readsOne hself hc28) mv_X9_184 rfl 0 rfl [0, 1, 2, 3] rfl rfl rfl rfl rfl hl.1 rfl (Nat.le_of_ble_eq_true rfl) (rok (by omega)) dX9_readsAll_19 (fun H locs h => ?_)
          refine lv_istore_n (lv' := [(1, .int r20), (0, .ref h_this)]) hx hb dX9_readsAll_22 rfl hl (by decide) rfl (fun ls hl => ?_)
          refine lv_iload_n hx hb dX9_readsAll_23 rfl (lv_at hl 0 rfl) ?_
          refine lv_if_eq (tgt := 5) hx hb dX9_readsAll_24 rfl (fun c29 => ?_) (fun c29 => ?_)
          · replace hf := ifp c29 hf
            exact hK2 _ _ _ _ (ih r20 y21 y22 y23 y24 y25 y26 g27 hf) _ _ _ h (lv_sub hl [1, 0] rfl)
          · replace hf := ifn c29 hf
            refine lv_aload_n hx hb dX9_readsAll_27 rfl (lv_at hl 1 rfl) ?_
            refine lv_sipush (v := (10013 : Int32)) hx hb dX9_readsAll_28 rfl ?_
            replace hf := bd2_inv hf
            obtain ⟨y30, g31, hc32, hf⟩ := hf
            refine r_cvV (ws' := [(h_this, ob 9 [.ref h_this_s, .ref h_this_kept, .ref h_this_laid, .int x_this_isKept, .ref h_this_pile, .ref h_this_tape, .int x_this_taped, .ref h_this_letters, .int y21, .int y22, .int y23, .int y24, .int y25, .int y30, .ref h_this_code0, .ref h_this_read, .ref h_this_saved, .ref h_this_plan, .ref h_this_bestPlan, .int x_this_most, .int x_this_many, .int x_this_few, .int x_this_everHome, .ref h_this_offThen, .ref h_this_paidThen, .int x_this_firstFit, .ref h_this_rows, .int x_this_rowMany, .ref h_this_sorts, .ref h_this_sizes, .ref h_this_number, .ref h_this_holds, .ref h_this_heldOne, .ref h_this_trace, .int x_this_traced, .int x_this_own, .int x_this_isParted]), (h_this_code0, ia G 200 g31), (h_this_letters, ca G 144 f_this_letters), (h_this_tape, ia G 200 f_this_tape)]) C h (c_X9_lays hc32) mv_X9_161 rfl 0 rfl [0, 1] rfl rfl rfl rfl rfl hl.1 rfl (Nat.le_of_ble_eq_true rfl) (rok (by omega)) dX9_readsAll_31 (fun H locs h => ?_)
            refine lv_goto (tgt := 5) hx hb dX9_readsAll_34 rfl ?_
            exact hK2 _ _ _ _ (ih r20 y21 y22 y23 y24 y25 y30 g31 hf) _ _ _ h (lv_sub hl [1, 0] rfl)
  refine lv_aload_n hx hb dX9_readsAll_0 rfl (lv_at hl 0 rfl) ?_
  replace hf := bd8_inv hf
  obtain ⟨r1, y2, y3, y4, y5, y6, y7, g8, hc9, hf⟩ := hf
  refine r_ciV (ws' := [(h_this, ob 9 [.ref h_this_s, .ref h_this_kept, .ref h_this_laid, .int x_this_isKept, .ref h_this_pile, .ref h_this_tape, .int x_this_taped, .ref h_this_letters, .int y2, .int y3, .int y4, .int y5, .int y6, .int y7, .ref h_this_code0, .ref h_this_read, .ref h_this_saved, .ref h_this_plan, .ref h_this_bestPlan, .int x_this_most, .int x_this_many, .int x_this_few, .int x_this_everHome, .ref h_this_offThen, .ref h_this_paidThen, .int x_this_firstFit, .ref h_this_rows, .int x_this_rowMany, .ref h_this_sorts, .ref h_this_sizes, .ref h_this_number, .ref h_this_holds, .ref h_this_heldOne, .ref h_this_trace, .int x_this_traced, .int x_this_own, .int x_this_isParted]), (h_this_code0, ia G 200 g8), (h_this_letters, ca G 144 f_this_letters), (h_this_tape, ia G 200 f_this_tape)]) C h (c_X9_readsOne hself hc9) mv_X9_184 rfl 0 rfl [0, 1, 2, 3] rfl rfl rfl rfl rfl hl.1 rfl (Nat.le_of_ble_eq_true rfl) (rok (by omega)) dX9_readsAll_1 (fun H locs h => ?_)
  refine lv_istore_n (lv' := [(1, .int r1), (0, .ref h_this)]) hx hb dX9_readsAll_4 rfl hl (by decide) rfl (fun ls hl => ?_)
  exact hK2 _ _ _ _ (L5 1000 r1 y2 y3 y4 y5 y6 y7 g8 hf) _ _ _ h (lv_sub hl [1, 0] rfl)
def f_X9_readsCondition_L5 (self : Int32 → Int32 → Int32 → Int32 → Int32 → Int32 → Int32 → (Nat → Int32) → (Nat → Int32) → (Nat → Int32) → Option (Int32 × Int32 × Int32 × Int32 × Int32 × Int32 × Int32 × (Nat → Int32))) (x_this_taped : Int32) (f_this_letters : Nat → Int32) (f_this_tape : Nat → Int32) : Nat → Int32 → Int32 → Int32 → Int32 → Int32 → Int32 → Int32 → (Nat → Int32) → Option (Int32 × Int32 × Int32 × Int32 × Int32 × Int32 × Int32 × (Nat → Int32))
  | 0, _, _, _, _, _, _, _, _ => none
  | n + 1, v1, y_this_at, y_this_begun, y_this_token, y_this_value, y_this_opened, y_this_steps, g_this_code0 => (if v1 = 0 then chkB v1 (some (v1, y_this_at, y_this_begun, y_this_token, y_this_value, y_this_opened, y_this_steps, g_this_code0)) else bd5 (f_X9_takes (12 : Int32) x_this_taped y_this_at y_this_begun y_this_token y_this_value f_this_letters f_this_tape) (fun r12 y13 y14 y15 y16 => (if r12 = 0 then chkB v1 (some (v1, y13, y14, y15, y16, y_this_opened, y_this_steps, g_this_code0)) else bd8 (f_X9_readsAll self x_this_taped y13 y14 y15 y16 y_this_opened y_this_steps g_this_code0 f_this_letters f_this_tape) (fun r20 y21 y22 y23 y24 y25 y26 g27 => (if r20 = 0 then (f_X9_readsCondition_L5 self x_this_taped f_this_letters f_this_tape n) r20 y21 y22 y23 y24 y25 y26 g27 else bd2 (f_X9_lays (10014 : Int32) y26 g27) (fun y30 g31 => (f_X9_readsCondition_L5 self x_this_taped f_this_letters f_this_tape n) r20 y21 y22 y23 y24 y25 y30 g31))))))
def f_X9_readsCondition (self : Int32 → Int32 → Int32 → Int32 → Int32 → Int32 → Int32 → (Nat → Int32) → (Nat → Int32) → (Nat → Int32) → Option (Int32 × Int32 × Int32 × Int32 × Int32 × Int32 × Int32 × (Nat → Int32))) (x_this_taped : Int32) (x_this_at : Int32) (x_this_begun : Int32) (x_this_token : Int32) (x_this_value : Int32) (x_this_opened : Int32) (x_this_steps : Int32) (f_this_code0 : Nat → Int32) (f_this_letters : Nat → Int32) (f_this_tape : Nat → Int32) : Option (Int32 × Int32 × Int32 × Int32 × Int32 × Int32 × Int32 × (Nat → Int32)) := bd8 (f_X9_readsAll self x_this_taped x_this_at x_this_begun x_this_token x_this_value x_this_opened x_this_steps f_this_code0 f_this_letters f_this_tape) (fun r1 y2 y3 y4 y5 y6 y7 g8 => f_X9_readsCondition_L5 self x_this_taped f_this_letters f_this_tape 1000 r1 y2 y3 y4 y5 y6 y7 g8)
set_option maxRecDepth 100000 in
set_option maxHeartbeats 4000000 in
theorem c_X9_readsCondition {l : Launch} {G : Gt} {self : Int32 → Int32 → Int32 → Int32 → Int32 → Int32 → Int32 → (Nat → Int32) → (Nat → Int32) → (Nat → Int32) → Option (Int32 × Int32 × Int32 × Int32 × Int32 × Int32 × Int32 × (Nat → Int32))} {H0 : Nat} (hself : ∀ {h_this h_this_s h_this_kept h_this_laid h_this_pile h_this_tape h_this_letters h_this_code0 h_this_read h_this_saved h_this_plan h_this_bestPlan h_this_offThen h_this_paidThen h_this_rows h_this_sorts h_this_sizes h_this_number h_this_holds h_this_heldOne h_this_trace : Nat} {x_this_isKept : Int32} {x_this_taped : Int32} {x_this_at : Int32} {x_this_begun : Int32} {x_this_token : Int32} {x_this_value : Int32} {x_this_opened : Int32} {x_this_steps : Int32} {x_this_most : Int32} {x_this_many : Int32} {x_this_few : Int32} {x_this_everHome : Int32} {x_this_firstFit : Int32} {x_this_rowMany : Int32} {x_this_traced : Int32} {x_this_own : Int32} {x_this_isParted : Int32} {f_this_code0 : Nat → Int32} {f_this_letters : Nat → Int32} {f_this_tape : Nat → Int32} {r : Int32} {m_this_at : Int32} {m_this_begun : Int32} {m_this_token : Int32} {m_this_value : Int32} {m_this_opened : Int32} {m_this_steps : Int32} {m_this_code0 : Nat → Int32} , self x_this_taped x_this_at x_this_begun x_this_token x_this_value x_this_opened x_this_steps f_this_code0 f_this_letters f_this_tape = some (r, m_this_at, m_this_begun, m_this_token, m_this_value, m_this_opened, m_this_steps, m_this_code0) → mFi l G yX9_readsCondition cX9_readsCondition 2 .boolean H0 [.ref h_this] [(h_this, ob 9 [.ref h_this_s, .ref h_this_kept, .ref h_this_laid, .int x_this_isKept, .ref h_this_pile, .ref h_this_tape, .int x_this_taped, .ref h_this_letters, .int x_this_at, .int x_this_begun, .int x_this_token, .int x_this_value, .int x_this_opened, .int x_this_steps, .ref h_this_code0, .ref h_this_read, .ref h_this_saved, .ref h_this_plan, .ref h_this_bestPlan, .int x_this_most, .int x_this_many, .int x_this_few, .int x_this_everHome, .ref h_this_offThen, .ref h_this_paidThen, .int x_this_firstFit, .ref h_this_rows, .int x_this_rowMany, .ref h_this_sorts, .ref h_this_sizes, .ref h_this_number, .ref h_this_holds, .ref h_this_heldOne, .ref h_this_trace, .int x_this_traced, .int x_this_own, .int x_this_isParted]), (h_this_code0, ia G 200 f_this_code0), (h_this_letters, ca G 144 f_this_letters), (h_this_tape, ia G 200 f_this_tape)] r [(h_this, ob 9 [.ref h_this_s, .ref h_this_kept, .ref h_this_laid, .int x_this_isKept, .ref h_this_pile, .ref h_this_tape, .int x_this_taped, .ref h_this_letters, .int m_this_at, .int m_this_begun, .int m_this_token, .int m_this_value, .int m_this_opened, .int m_this_steps, .ref h_this_code0, .ref h_this_read, .ref h_this_saved, .ref h_this_plan, .ref h_this_bestPlan, .int x_this_most, .int x_this_many, .int x_this_few, .int x_this_everHome, .ref h_this_offThen, .ref h_this_paidThen, .int x_this_firstFit, .ref h_this_rows, .int x_this_rowMany, .ref h_this_sorts, .ref h_this_sizes, .ref h_this_number, .ref h_this_holds, .ref h_this_heldOne, .ref h_this_trace, .int x_this_traced, .int x_this_own, .int x_this_isParted]), (h_this_code0, ia G 200 m_this_code0), (h_this_letters, ca G 144 f_this_letters), (h_this_tape, ia G 200 f_this_tape)]) {h_this h_this_s h_this_kept h_this_laid h_this_pile h_this_tape h_this_letters h_this_code0 h_this_read h_this_saved h_this_plan h_this_bestPlan h_this_offThen h_this_paidThen h_this_rows h_this_sorts h_this_sizes h_this_number h_this_holds h_this_heldOne h_this_trace : Nat} {x_this_isKept : Int32} {x_this_taped : Int32} {x_this_at : Int32} {x_this_begun : Int32} {x_this_token : Int32} {x_this_value : Int32} {x_this_opened : Int32} {x_this_steps : Int32} {x_this_most : Int32} {x_this_many : Int32} {x_this_few : Int32} {x_this_everHome : Int32} {x_this_firstFit : Int32} {x_this_rowMany : Int32} {x_this_traced : Int32} {x_this_own : Int32} {x_this_isParted : Int32} {f_this_code0 : Nat → Int32} {f_this_letters : Nat → Int32} {f_this_tape : Nat → Int32} {r : Int32} {m_this_at : Int32} {m_this_begun : Int32} {m_this_token : Int32} {m_this_value : Int32} {m_this_opened : Int32} {m_this_steps : Int32} {m_this_code0 : Nat → Int32} (hf : f_X9_readsCondition self x_this_taped x_this_at x_this_begun x_this_token x_this_value x_this_opened x_this_steps f_this_code0 f_this_letters f_this_tape = some (r, m_this_at, m_this_begun, m_this_token, m_this_value, m_this_opened, m_this_steps, m_this_code0)) : mFi l G yX9_readsCondition cX9_readsCondition 2 .boolean (H0 + 8) [.ref h_this] [(h_this, ob 9 [.ref h_this_s, .ref h_this_kept, .ref h_this_laid, .int x_this_isKept, .ref h_this_pile, .ref h_this_tape, .int x_this_taped, .ref h_this_letters, .int x_this_at, .int x_this_begun, .int x_this_token, .int x_this_value, .int x_this_opened, .int x_this_steps, .ref h_this_code0, .ref h_this_read, .ref h_this_saved, .ref h_this_plan, .ref h_this_bestPlan, .int x_this_most, .int x_this_many, .int x_this_few, .int x_this_everHome, .ref h_this_offThen, .ref h_this_paidThen, .int x_this_firstFit, .ref h_this_rows, .int x_this_rowMany, .ref h_this_sorts, .ref h_this_sizes, .ref h_this_number, .ref h_this_holds, .ref h_this_heldOne, .ref h_this_trace, .int x_this_traced, .int x_this_own, .int x_this_isParted]), (h_this_code0, ia G 200 f_this_code0), (h_this_letters, ca G 144 f_this_letters), (h_this_tape, ia G 200 f_this_tape)] r [(h_this, ob 9 [.ref h_this_s, .ref h_this_kept, .ref h_this_laid, .int x_this_isKept, .ref h_this_pile, .ref h_this_tape, .int x_this_taped, .ref h_this_letters, .int m_this_at, .int m_this_begun, .int m_this_token, .int m_this_value, .int m_this_opened, .int m_this_steps, .ref h_this_code0, .ref h_this_read, .ref h_this_saved, .ref h_this_plan, .ref h_this_bestPlan, .int x_this_most, .int x_this_many, .int x_this_few, .int x_this_everHome, .ref h_this_offThen, .ref h_this_paidThen, .int x_this_firstFit, .ref h_this_rows, .int x_this_rowMany, .ref h_this_sorts, .ref h_this_sizes, .ref h_this_number, .ref h_this_holds, .ref h_this_heldOne, .ref h_this_trace, .int x_this_traced, .int x_this_own, .int x_this_isParted]), (h_this_code0, ia G 200 m_this_code0), (h_this_letters, ca G 144 f_this_letters), (h_this_tape, ia G 200 f_this_tape)] := by
  refine mFi.of (by decide +kernel) (Nat.le_of_ble_eq_true rfl) ?_
  intro p e s m below meth c A C hr hlk h ls hl
  obtain ⟨hx, hb, hml, hown, hts⟩ := id C
  replace hl : lv_has ls 2 [(0, .ref h_this)] := hl
  unfold f_X9_readsCondition at hf
  refine with_K G A 2 (fun K hK1 hK2 => ?_)
  have L5 : ∀ (n : Nat) (v1 : Int32) (y_this_at : Int32) (y_this_begun : Int32) (y_this_token : Int32) (y_this_value : Int32) (y_this_opened : Int32) (y_this_steps : Int32) (g_this_code0 : Nat → Int32), f_X9_readsCondition_L5 self x_this_taped f_this_letters f_this_tape n v1 y_this_at y_this_begun y_this_token y_this_value y_this_opened y_this_steps g_this_code0 = some (r, m_this_at, m_this_begun, m_this_token, m_this_value, m_this_opened, m_this_steps, m_this_code0) → K 5 ([] : List Value) [(h_this, ob 9 [.ref h_this_s, .ref h_this_kept, .ref h_this_laid, .int x_this_isKept, .ref h_this_pile, .ref h_this_tape, .int x_this_taped, .ref h_this_letters, .int y_this_at, .int y_this_begun, .int y_this_token, .int y_this_value, .int y_this_opened, .int y_this_steps, .ref h_this_code0, .ref h_this_read, .ref h_this_saved, .ref h_this_plan, .ref h_this_bestPlan, .int x_this_most, .int x_this_many, .int x_this_few, .int x_this_everHome, .ref h_this_offThen, .ref h_this_paidThen, .int x_this_firstFit, .ref h_this_rows, .int x_this_rowMany, .ref h_this_sorts, .ref h_this_sizes, .ref h_this_number, .ref h_this_holds, .ref h_this_heldOne, .ref h_this_trace, .int x_this_traced, .int x_this_own, .int x_this_isParted]), (h_this_code0, ia G 200 g_this_code0), (h_this_letters, ca G 144 f_this_letters), (h_this_tape, ia G 200 f_this_tape)] [(0, .ref h_this), (1, .int v1)] := by
    intro n
    induction n with
    | zero =>
      intro v1 y_this_at y_this_begun y_this_token y_this_value y_this_opened y_this_steps g_this_code0 hf
      replace hf : (none : Option _) = some _ := hf
      cases hf
    | succ n ih =>
      intro v1 y_this_at y_this_begun y_this_token y_this_value y_this_opened y_this_steps g_this_code0 hf
      rw [f_X9_readsCondition_L5] at hf
      refine hK1 _ _ _ _ (fun H locs ls h hl => ?_)
      refine lv_iload_n hx hb dX9_readsCondition_5 rfl (lv_at hl 1 rfl) ?_
      refine lv_if_eq (tgt := 37) hx hb dX9_readsCondition_6 rfl (fun c10 => ?_) (fun c10 => ?_)
      · replace hf := ifp c10 hf
        refine lv_iload_n hx hb dX9_readsCondition_37 rfl (lv_at hl 1 rfl) ?_
        replace hf := chkB_inv hf
        obtain ⟨hb11, hf⟩ := hf
        cases hf
        exact r_iret C h hr hlk hb11 dX9_readsCondition_38
      · replace hf := ifn c10 hf
        refine lv_aload_n hx hb dX9_readsCondition_9 rfl (lv_at hl 0 rfl) ?_
        refine lv_bipush (v := (12 : Int32)) hx hb dX9_readsCondition_10 rfl ?_
        replace hf := bd5_inv hf
        obtain ⟨r12, y13, y14, y15, y16, hc17, hf⟩ := hf
        refine r_ciV (ws' := [(h_this, ob 9 [.ref h_this_s, .ref h_this_kept, .ref h_this_laid, .int x_this_isKept, .ref h_this_pile, .ref h_this_tape, .int x_this_taped, .ref h_this_letters, .int y13, .int y14, .int y15, .int y16, .int y_this_opened, .int y_this_steps, .ref h_this_code0, .ref h_this_read, .ref h_this_saved, .ref h_this_plan, .ref h_this_bestPlan, .int x_this_most, .int x_this_many, .int x_this_few, .int x_this_everHome, .ref h_this_offThen, .ref h_this_paidThen, .int x_this_firstFit, .ref h_this_rows, .int x_this_rowMany, .ref h_this_sorts, .ref h_this_sizes, .ref h_this_number, .ref h_this_holds, .ref h_this_heldOne, .ref h_this_trace, .int x_this_traced, .int x_this_own, .int x_this_isParted]), (h_this_code0, ia G 200 g_this_code0), (h_this_letters, ca G 144 f_this_letters), (h_this_tape, ia G 200 f_this_tape)]) C h (c_X9_takes hc17) mv_X9_175 rfl 0 rfl [0, 2, 3] rfl rfl rfl rfl rfl hl.1 rfl (Nat.le_of_ble_eq_true rfl) (rok (by omega)) dX9_readsCondition_12 (fun H locs h => ?_)
        refine lv_if_eq (tgt := 37) hx hb dX9_readsCondition_15 rfl (fun c18 => ?_) (fun c18 => ?_)
        · replace hf := ifp c18 hf
          refine lv_iload_n hx hb dX9_readsCondition_37 rfl (lv_at hl 1 rfl) ?_
          replace hf := chkB_inv hf
          obtain ⟨hb19, hf⟩ := hf
          cases hf
          exact r_iret C h hr hlk hb19 dX9_readsCondition_38
        · replace hf := ifn c18 hf
          refine lv_aload_n hx hb dX9_readsCondition_18 rfl (lv_at hl 0 rfl) ?_
          replace hf := bd8_inv hf
          obtain ⟨r20, y21, y22, y23, y24, y25, y26, g27, hc28, hf⟩ := hf
          refine r_ciV (ws' := [(h_this, ob 9 [.ref h_this_s, .ref h_this_kept, .ref h_this_laid, .int x_this_isKept, .ref h_this_pile, .ref h_this_tape, .int x_this_taped, .ref h_this_letters, .int y21, .int y22, .int y23, .int y24, .int y25, .int y26, .ref h_this_code0, .ref h_this_read, .ref h_this_saved, .ref h_this_plan, .ref h_this_bestPlan, .int x_this_most, .int x_this_many, .int x_this_few, .int x_this_everHome, .ref h_this_offThen, .ref h_this_paidThen, .int x_this_firstFit, .ref h_this_rows, .int x_this_rowMany, .ref h_this_sorts, .ref h_this_sizes, .ref h_this_number, .ref h_this_holds, .ref h_this_heldOne, .ref h_this_trace, .int x_this_traced, .int x_this_own, .int x_this_isParted]), (h_this_code0, ia G 200 g27), (h_this_letters, ca G 144 f_this_letters), (h_this_tape, ia G 200 f_this_tape)]) C h (c_X9_readsAll hself hc28) mv_X9_187 rfl 0 rfl [0, 1, 2, 3] rfl rfl rfl rfl rfl hl.1 rfl (Nat.le_of_ble_eq_true rfl) (rok (by omega)) dX9_readsCondition_19 (fun H locs h => ?_)
          refine lv_istore_n (lv' := [(1, .int r20), (0, .ref h_this)]) hx hb dX9_readsCondition_22 rfl hl (by decide) rfl (fun ls hl => ?_)
          refine lv_iload_n hx hb dX9_readsCondition_23 rfl (lv_at hl 0 rfl) ?_
          refine lv_if_eq (tgt := 5) hx hb dX9_readsCondition_24 rfl (fun c29 => ?_) (fun c29 => ?_)
          · replace hf := ifp c29 hf
            exact hK2 _ _ _ _ (ih r20 y21 y22 y23 y24 y25 y26 g27 hf) _ _ _ h (lv_sub hl [1, 0] rfl)
          · replace hf := ifn c29 hf
            refine lv_aload_n hx hb dX9_readsCondition_27 rfl (lv_at hl 1 rfl) ?_
            refine lv_sipush (v := (10014 : Int32)) hx hb dX9_readsCondition_28 rfl ?_
            replace hf := bd2_inv hf
            obtain ⟨y30, g31, hc32, hf⟩ := hf
            refine r_cvV (ws' := [(h_this, ob 9 [.ref h_this_s, .ref h_this_kept, .ref h_this_laid, .int x_this_isKept, .ref h_this_pile, .ref h_this_tape, .int x_this_taped, .ref h_this_letters, .int y21, .int y22, .int y23, .int y24, .int y25, .int y30, .ref h_this_code0, .ref h_this_read, .ref h_this_saved, .ref h_this_plan, .ref h_this_bestPlan, .int x_this_most, .int x_this_many, .int x_this_few, .int x_this_everHome, .ref h_this_offThen, .ref h_this_paidThen, .int x_this_firstFit, .ref h_this_rows, .int x_this_rowMany, .ref h_this_sorts, .ref h_this_sizes, .ref h_this_number, .ref h_this_holds, .ref h_this_heldOne, .ref h_this_trace, .int x_this_traced, .int x_this_own, .int x_this_isParted]), (h_this_code0, ia G 200 g31), (h_this_letters, ca G 144 f_this_letters), (h_this_tape, ia G 200 f_this_tape)]) C h (c_X9_lays hc32) mv_X9_161 rfl 0 rfl [0, 1] rfl rfl rfl rfl rfl hl.1 rfl (Nat.le_of_ble_eq_true rfl) (rok (by omega)) dX9_readsCondition_31 (fun H locs h => ?_)
            refine lv_goto (tgt := 5) hx hb dX9_readsCondition_34 rfl ?_
            exact hK2 _ _ _ _ (ih r20 y21 y22 y23 y24 y25 y30 g31 hf) _ _ _ h (lv_sub hl [1, 0] rfl)
  refine lv_aload_n hx hb dX9_readsCondition_0 rfl (lv_at hl 0 rfl) ?_
  replace hf := bd8_inv hf
  obtain ⟨r1, y2, y3, y4, y5, y6, y7, g8, hc9, hf⟩ := hf
  refine r_ciV (ws' := [(h_this, ob 9 [.ref h_this_s, .ref h_this_kept, .ref h_this_laid, .int x_this_isKept, .ref h_this_pile, .ref h_this_tape, .int x_this_taped, .ref h_this_letters, .int y2, .int y3, .int y4, .int y5, .int y6, .int y7, .ref h_this_code0, .ref h_this_read, .ref h_this_saved, .ref h_this_plan, .ref h_this_bestPlan, .int x_this_most, .int x_this_many, .int x_this_few, .int x_this_everHome, .ref h_this_offThen, .ref h_this_paidThen, .int x_this_firstFit, .ref h_this_rows, .int x_this_rowMany, .ref h_this_sorts, .ref h_this_sizes, .ref h_this_number, .ref h_this_holds, .ref h_this_heldOne, .ref h_this_trace, .int x_this_traced, .int x_this_own, .int x_this_isParted]), (h_this_code0, ia G 200 g8), (h_this_letters, ca G 144 f_this_letters), (h_this_tape, ia G 200 f_this_tape)]) C h (c_X9_readsAll hself hc9) mv_X9_187 rfl 0 rfl [0, 1, 2, 3] rfl rfl rfl rfl rfl hl.1 rfl (Nat.le_of_ble_eq_true rfl) (rok (by omega)) dX9_readsCondition_1 (fun H locs h => ?_)
  refine lv_istore_n (lv' := [(1, .int r1), (0, .ref h_this)]) hx hb dX9_readsCondition_4 rfl hl (by decide) rfl (fun ls hl => ?_)
  exact hK2 _ _ _ _ (L5 1000 r1 y2 y3 y4 y5 y6 y7 g8 hf) _ _ _ h (lv_sub hl [1, 0] rfl)
def F_X9_readsCondition : Nat → Int32 → Int32 → Int32 → Int32 → Int32 → Int32 → Int32 → (Nat → Int32) → (Nat → Int32) → (Nat → Int32) → Option (Int32 × Int32 × Int32 × Int32 × Int32 × Int32 × Int32 × (Nat → Int32))
  | 0, _, _, _, _, _, _, _, _, _, _ => none
  | d + 1, x_this_taped, x_this_at, x_this_begun, x_this_token, x_this_value, x_this_opened, x_this_steps, f_this_code0, f_this_letters, f_this_tape => f_X9_readsCondition (F_X9_readsCondition d) x_this_taped x_this_at x_this_begun x_this_token x_this_value x_this_opened x_this_steps f_this_code0 f_this_letters f_this_tape
theorem C_X9_readsCondition {l : Launch} {G : Gt} (d : Nat) : ∀ {h_this h_this_s h_this_kept h_this_laid h_this_pile h_this_tape h_this_letters h_this_code0 h_this_read h_this_saved h_this_plan h_this_bestPlan h_this_offThen h_this_paidThen h_this_rows h_this_sorts h_this_sizes h_this_number h_this_holds h_this_heldOne h_this_trace : Nat} {x_this_isKept : Int32} {x_this_taped : Int32} {x_this_at : Int32} {x_this_begun : Int32} {x_this_token : Int32} {x_this_value : Int32} {x_this_opened : Int32} {x_this_steps : Int32} {x_this_most : Int32} {x_this_many : Int32} {x_this_few : Int32} {x_this_everHome : Int32} {x_this_firstFit : Int32} {x_this_rowMany : Int32} {x_this_traced : Int32} {x_this_own : Int32} {x_this_isParted : Int32} {f_this_code0 : Nat → Int32} {f_this_letters : Nat → Int32} {f_this_tape : Nat → Int32} {r : Int32} {m_this_at : Int32} {m_this_begun : Int32} {m_this_token : Int32} {m_this_value : Int32} {m_this_opened : Int32} {m_this_steps : Int32} {m_this_code0 : Nat → Int32} , F_X9_readsCondition d x_this_taped x_this_at x_this_begun x_this_token x_this_value x_this_opened x_this_steps f_this_code0 f_this_letters f_this_tape = some (r, m_this_at, m_this_begun, m_this_token, m_this_value, m_this_opened, m_this_steps, m_this_code0) → mFi l G yX9_readsCondition cX9_readsCondition 2 .boolean (d * 8) [.ref h_this] [(h_this, ob 9 [.ref h_this_s, .ref h_this_kept, .ref h_this_laid, .int x_this_isKept, .ref h_this_pile, .ref h_this_tape, .int x_this_taped, .ref h_this_letters, .int x_this_at, .int x_this_begun, .int x_this_token, .int x_this_value, .int x_this_opened, .int x_this_steps, .ref h_this_code0, .ref h_this_read, .ref h_this_saved, .ref h_this_plan, .ref h_this_bestPlan, .int x_this_most, .int x_this_many, .int x_this_few, .int x_this_everHome, .ref h_this_offThen, .ref h_this_paidThen, .int x_this_firstFit, .ref h_this_rows, .int x_this_rowMany, .ref h_this_sorts, .ref h_this_sizes, .ref h_this_number, .ref h_this_holds, .ref h_this_heldOne, .ref h_this_trace, .int x_this_traced, .int x_this_own, .int x_this_isParted]), (h_this_code0, ia G 200 f_this_code0), (h_this_letters, ca G 144 f_this_letters), (h_this_tape, ia G 200 f_this_tape)] r [(h_this, ob 9 [.ref h_this_s, .ref h_this_kept, .ref h_this_laid, .int x_this_isKept, .ref h_this_pile, .ref h_this_tape, .int x_this_taped, .ref h_this_letters, .int m_this_at, .int m_this_begun, .int m_this_token, .int m_this_value, .int m_this_opened, .int m_this_steps, .ref h_this_code0, .ref h_this_read, .ref h_this_saved, .ref h_this_plan, .ref h_this_bestPlan, .int x_this_most, .int x_this_many, .int x_this_few, .int x_this_everHome, .ref h_this_offThen, .ref h_this_paidThen, .int x_this_firstFit, .ref h_this_rows, .int x_this_rowMany, .ref h_this_sorts, .ref h_this_sizes, .ref h_this_number, .ref h_this_holds, .ref h_this_heldOne, .ref h_this_trace, .int x_this_traced, .int x_this_own, .int x_this_isParted]), (h_this_code0, ia G 200 m_this_code0), (h_this_letters, ca G 144 f_this_letters), (h_this_tape, ia G 200 f_this_tape)] := by
  induction d with
  | zero =>
    intros
    rename_i hf
    replace hf : (none : Option _) = some _ := hf
    cases hf
  | succ d ih =>
    intros
    rename_i hf
    rw [Nat.succ_mul]
    exact c_X9_readsCondition (self := F_X9_readsCondition d) ih hf
def f_X9_readsRule_b59 (p0 : Int32) (x_this_taped : Int32) (f_this_letters : Nat → Int32) (f_this_tape : Nat → Int32) (y_this_at : Int32) (y_this_begun : Int32) (y_this_token : Int32) (y_this_value : Int32) (y_this_opened : Int32) (y_this_steps : Int32) (g_this_code0 : Nat → Int32) (g_this_read : Nat → Int32) : Option (Int32 × Int32 × Int32 × Int32 × Int32 × Int32 × Int32 × (Nat → Int32) × (Nat → Int32)) := bd1 (f_X9_in1 y_this_token (6 : Int32) (8 : Int32)) (fun r18 => (if r18 = 0 then some ((0 : Int32), y_this_at, y_this_begun, y_this_token, y_this_value, y_this_opened, y_this_steps, g_this_code0, g_this_read) else lt1 (y_this_token - (6 : Int32)) (fun (t21 : Int32) => chkI (((3 : Int32) * p0) + (1 : Int32)) 24 (chkI (((3 : Int32) * p0) + (2 : Int32)) 24 (bd4 (f_X9_next x_this_taped y_this_at y_this_value f_this_letters f_this_tape) (fun y24 y25 y26 y27 => bd5 (f_X9_takes (259 : Int32) x_this_taped y24 y25 y26 y27 f_this_letters f_this_tape) (fun r29 y30 y31 y32 y33 => chkB r29 (some (r29, y30, y31, y32, y33, y_this_opened, y_this_steps, g_this_code0, upd (upd g_this_read (((3 : Int32) * p0) + (1 : Int32)).toNatClampNeg t21) (((3 : Int32) * p0) + (2 : Int32)).toNatClampNeg y_this_steps)))))))))
def f_X9_readsRule (p0 : Int32) (x_this_taped : Int32) (x_this_at : Int32) (x_this_begun : Int32) (x_this_token : Int32) (x_this_value : Int32) (x_this_opened : Int32) (x_this_steps : Int32) (f_this_code0 : Nat → Int32) (f_this_letters : Nat → Int32) (f_this_read : Nat → Int32) (f_this_tape : Nat → Int32) : Option (Int32 × Int32 × Int32 × Int32 × Int32 × Int32 × Int32 × (Nat → Int32) × (Nat → Int32)) := (if p0 = (8 : Int32) then some ((0 : Int32), x_this_at, x_this_begun, x_this_token, x_this_value, x_this_opened, x_this_steps, f_this_code0, f_this_read) else bd1 (f_X9_in1 x_this_token (0 : Int32) (5 : Int32)) (fun r2 => (if r2 = 0 then some ((0 : Int32), x_this_at, x_this_begun, x_this_token, x_this_value, x_this_opened, x_this_steps, f_this_code0, f_this_read) else chkI ((3 : Int32) * p0) 24 (bd4 (f_X9_next x_this_taped x_this_at x_this_value f_this_letters f_this_tape) (fun y6 y7 y8 y9 => bd5 (f_X9_takes (9 : Int32) x_this_taped y6 y7 y8 y9 f_this_letters f_this_tape) (fun r11 y12 y13 y14 y15 => (if r11 = 0 then f_X9_readsRule_b59 p0 x_this_taped f_this_letters f_this_tape y12 y13 y14 y15 (0 : Int32) x_this_steps f_this_code0 (upd f_this_read ((3 : Int32) * p0).toNatClampNeg x_this_token) else bd8 (F_X9_readsCondition 6 x_this_taped y12 y13 y14 y15 (0 : Int32) x_this_steps f_this_code0 f_this_letters f_this_tape) (fun r36 y37 y38 y39 y40 y41 y42 g43 => (if r36 = 0 then some ((0 : Int32), y37, y38, y39, y40, y41, y42, g43, upd f_this_read ((3 : Int32) * p0).toNatClampNeg x_this_token) else f_X9_readsRule_b59 p0 x_this_taped f_this_letters f_this_tape y37 y38 y39 y40 y41 y42 g43 (upd f_this_read ((3 : Int32) * p0).toNatClampNeg x_this_token))))))))))
set_option maxRecDepth 100000 in
set_option maxHeartbeats 4000000 in
theorem c_X9_readsRule {l : Launch} {G : Gt} {h_this h_this_s h_this_kept h_this_laid h_this_pile h_this_tape h_this_letters h_this_code0 h_this_read h_this_saved h_this_plan h_this_bestPlan h_this_offThen h_this_paidThen h_this_rows h_this_sorts h_this_sizes h_this_number h_this_holds h_this_heldOne h_this_trace : Nat} {p0 : Int32} {x_this_isKept : Int32} {x_this_taped : Int32} {x_this_at : Int32} {x_this_begun : Int32} {x_this_token : Int32} {x_this_value : Int32} {x_this_opened : Int32} {x_this_steps : Int32} {x_this_most : Int32} {x_this_many : Int32} {x_this_few : Int32} {x_this_everHome : Int32} {x_this_firstFit : Int32} {x_this_rowMany : Int32} {x_this_traced : Int32} {x_this_own : Int32} {x_this_isParted : Int32} {f_this_code0 : Nat → Int32} {f_this_letters : Nat → Int32} {f_this_read : Nat → Int32} {f_this_tape : Nat → Int32} {r : Int32} {m_this_at : Int32} {m_this_begun : Int32} {m_this_token : Int32} {m_this_value : Int32} {m_this_opened : Int32} {m_this_steps : Int32} {m_this_code0 : Nat → Int32} {m_this_read : Nat → Int32} (hf : f_X9_readsRule p0 x_this_taped x_this_at x_this_begun x_this_token x_this_value x_this_opened x_this_steps f_this_code0 f_this_letters f_this_read f_this_tape = some (r, m_this_at, m_this_begun, m_this_token, m_this_value, m_this_opened, m_this_steps, m_this_code0, m_this_read)) : mFi l G yX9_readsRule cX9_readsRule 2 .boolean 49 [.ref h_this, .int p0] [(h_this, ob 9 [.ref h_this_s, .ref h_this_kept, .ref h_this_laid, .int x_this_isKept, .ref h_this_pile, .ref h_this_tape, .int x_this_taped, .ref h_this_letters, .int x_this_at, .int x_this_begun, .int x_this_token, .int x_this_value, .int x_this_opened, .int x_this_steps, .ref h_this_code0, .ref h_this_read, .ref h_this_saved, .ref h_this_plan, .ref h_this_bestPlan, .int x_this_most, .int x_this_many, .int x_this_few, .int x_this_everHome, .ref h_this_offThen, .ref h_this_paidThen, .int x_this_firstFit, .ref h_this_rows, .int x_this_rowMany, .ref h_this_sorts, .ref h_this_sizes, .ref h_this_number, .ref h_this_holds, .ref h_this_heldOne, .ref h_this_trace, .int x_this_traced, .int x_this_own, .int x_this_isParted]), (h_this_code0, ia G 200 f_this_code0), (h_this_letters, ca G 144 f_this_letters), (h_this_read, ia G 24 f_this_read), (h_this_tape, ia G 200 f_this_tape)] r [(h_this, ob 9 [.ref h_this_s, .ref h_this_kept, .ref h_this_laid, .int x_this_isKept, .ref h_this_pile, .ref h_this_tape, .int x_this_taped, .ref h_this_letters, .int m_this_at, .int m_this_begun, .int m_this_token, .int m_this_value, .int m_this_opened, .int m_this_steps, .ref h_this_code0, .ref h_this_read, .ref h_this_saved, .ref h_this_plan, .ref h_this_bestPlan, .int x_this_most, .int x_this_many, .int x_this_few, .int x_this_everHome, .ref h_this_offThen, .ref h_this_paidThen, .int x_this_firstFit, .ref h_this_rows, .int x_this_rowMany, .ref h_this_sorts, .ref h_this_sizes, .ref h_this_number, .ref h_this_holds, .ref h_this_heldOne, .ref h_this_trace, .int x_this_traced, .int x_this_own, .int x_this_isParted]), (h_this_code0, ia G 200 m_this_code0), (h_this_letters, ca G 144 f_this_letters), (h_this_read, ia G 24 m_this_read), (h_this_tape, ia G 200 f_this_tape)] := by
  refine mFi.of (by decide +kernel) (Nat.le_of_ble_eq_true rfl) ?_
  intro p e s m below meth c A C hr hlk h ls hl
  obtain ⟨hx, hb, hml, hown, hts⟩ := id C
  replace hl : lv_has ls 2 [(0, .ref h_this), (1, .int p0)] := hl
  unfold f_X9_readsRule at hf
  refine with_K G A 2 (fun K hK1 hK2 => ?_)
  have B59 : ∀ (y_this_at : Int32) (y_this_begun : Int32) (y_this_token : Int32) (y_this_value : Int32) (y_this_opened : Int32) (y_this_steps : Int32) (g_this_code0 : Nat → Int32) (g_this_read : Nat → Int32), f_X9_readsRule_b59 p0 x_this_taped f_this_letters f_this_tape y_this_at y_this_begun y_this_token y_this_value y_this_opened y_this_steps g_this_code0 g_this_read = some (r, m_this_at, m_this_begun, m_this_token, m_this_value, m_this_opened, m_this_steps, m_this_code0, m_this_read) → K 59 ([] : List Value) [(h_this, ob 9 [.ref h_this_s, .ref h_this_kept, .ref h_this_laid, .int x_this_isKept, .ref h_this_pile, .ref h_this_tape, .int x_this_taped, .ref h_this_letters, .int y_this_at, .int y_this_begun, .int y_this_token, .int y_this_value, .int y_this_opened, .int y_this_steps, .ref h_this_code0, .ref h_this_read, .ref h_this_saved, .ref h_this_plan, .ref h_this_bestPlan, .int x_this_most, .int x_this_many, .int x_this_few, .int x_this_everHome, .ref h_this_offThen, .ref h_this_paidThen, .int x_this_firstFit, .ref h_this_rows, .int x_this_rowMany, .ref h_this_sorts, .ref h_this_sizes, .ref h_this_number, .ref h_this_holds, .ref h_this_heldOne, .ref h_this_trace, .int x_this_traced, .int x_this_own, .int x_this_isParted]), (h_this_code0, ia G 200 g_this_code0), (h_this_letters, ca G 144 f_this_letters), (h_this_read, ia G 24 g_this_read), (h_this_tape, ia G 200 f_this_tape)] [(0, .ref h_this), (1, .int p0)] := by
    intro y_this_at y_this_begun y_this_token y_this_value y_this_opened y_this_steps g_this_code0 g_this_read hf
    unfold f_X9_readsRule_b59 at hf
    refine hK1 _ _ _ _ (fun H locs ls h hl => ?_)
    refine lv_aload_n hx hb dX9_readsRule_59 rfl (lv_at hl 0 rfl) ?_
    refine r_get C h fk_X9_140 0 rfl rfl dX9_readsRule_60 ?_
    refine lv_bipush (v := (6 : Int32)) hx hb dX9_readsRule_63 rfl ?_
    refine lv_bipush (v := (8 : Int32)) hx hb dX9_readsRule_65 rfl ?_
    replace hf := bd1_inv hf
    obtain ⟨r18, hc19, hf⟩ := hf
    refine r_ciS0 C h (c_X9_in1 hc19) ms_X9_71 rfl [] rfl rfl hl.1 rfl (Nat.le_of_ble_eq_true rfl) (rok (by decide)) dX9_readsRule_67 (fun H locs h => ?_)
    refine lv_if_ne (tgt := 75) hx hb dX9_readsRule_70 rfl (fun c20 => ?_) (fun c20 => ?_)
    · replace hf := ifn c20 hf
      refine lv_aload_n hx hb dX9_readsRule_75 rfl (lv_at hl 0 rfl) ?_
      refine r_get C h fk_X9_32 0 rfl rfl dX9_readsRule_76 ?_
      refine lv_iconst (v := (3 : Int32)) hx hb dX9_readsRule_79 rfl ?_
      refine lv_iload_n hx hb dX9_readsRule_80 rfl (lv_at hl 1 rfl) ?_
      refine lv_imul hx hb dX9_readsRule_81 ?_
      refine lv_iconst (v := (1 : Int32)) hx hb dX9_readsRule_82 rfl ?_
      refine lv_iadd hx hb dX9_readsRule_83 ?_
      refine lv_aload_n hx hb dX9_readsRule_84 rfl (lv_at hl 0 rfl) ?_
      refine r_get C h fk_X9_140 0 rfl rfl dX9_readsRule_85 ?_
      refine lv_bipush (v := (6 : Int32)) hx hb dX9_readsRule_88 rfl ?_
      refine lv_isub hx hb dX9_readsRule_90 ?_
      refine lv_topi (fun t21 et21 => ?_)
      replace hf := lt1_inv et21 hf
      replace hf := chkI_inv hf
      obtain ⟨hi22, hf⟩ := hf
      refine r_iast (ws' := [(h_this, ob 9 [.ref h_this_s, .ref h_this_kept, .ref h_this_laid, .int x_this_isKept, .ref h_this_pile, .ref h_this_tape, .int x_this_taped, .ref h_this_letters, .int y_this_at, .int y_this_begun, .int y_this_token, .int y_this_value, .int y_this_opened, .int y_this_steps, .ref h_this_code0, .ref h_this_read, .ref h_this_saved, .ref h_this_plan, .ref h_this_bestPlan, .int x_this_most, .int x_this_many, .int x_this_few, .int x_this_everHome, .ref h_this_offThen, .ref h_this_paidThen, .int x_this_firstFit, .ref h_this_rows, .int x_this_rowMany, .ref h_this_sorts, .ref h_this_sizes, .ref h_this_number, .ref h_this_holds, .ref h_this_heldOne, .ref h_this_trace, .int x_this_traced, .int x_this_own, .int x_this_isParted]), (h_this_code0, ia G 200 g_this_code0), (h_this_letters, ca G 144 f_this_letters), (h_this_read, ia G 24 (upd g_this_read (((3 : Int32) * p0) + (1 : Int32)).toNatClampNeg t21)), (h_this_tape, ia G 200 f_this_tape)]) C h 3 rfl hi22 dX9_readsRule_91 rfl (fun H locs h => ?_)
      refine lv_aload_n hx hb dX9_readsRule_92 rfl (lv_at hl 0 rfl) ?_
      refine r_get C h fk_X9_32 0 rfl rfl dX9_readsRule_93 ?_
      refine lv_iconst (v := (3 : Int32)) hx hb dX9_readsRule_96 rfl ?_
      refine lv_iload_n hx hb dX9_readsRule_97 rfl (lv_at hl 1 rfl) ?_
      refine lv_imul hx hb dX9_readsRule_98 ?_
      refine lv_iconst (v := (2 : Int32)) hx hb dX9_readsRule_99 rfl ?_
      refine lv_iadd hx hb dX9_readsRule_100 ?_
      refine lv_aload_n hx hb dX9_readsRule_101 rfl (lv_at hl 0 rfl) ?_
      refine r_get C h fk_X9_158 0 rfl rfl dX9_readsRule_102 ?_
      replace hf := chkI_inv hf
      obtain ⟨hi23, hf⟩ := hf
      refine r_iast (ws' := [(h_this, ob 9 [.ref h_this_s, .ref h_this_kept, .ref h_this_laid, .int x_this_isKept, .ref h_this_pile, .ref h_this_tape, .int x_this_taped, .ref h_this_letters, .int y_this_at, .int y_this_begun, .int y_this_token, .int y_this_value, .int y_this_opened, .int y_this_steps, .ref h_this_code0, .ref h_this_read, .ref h_this_saved, .ref h_this_plan, .ref h_this_bestPlan, .int x_this_most, .int x_this_many, .int x_this_few, .int x_this_everHome, .ref h_this_offThen, .ref h_this_paidThen, .int x_this_firstFit, .ref h_this_rows, .int x_this_rowMany, .ref h_this_sorts, .ref h_this_sizes, .ref h_this_number, .ref h_this_holds, .ref h_this_heldOne, .ref h_this_trace, .int x_this_traced, .int x_this_own, .int x_this_isParted]), (h_this_code0, ia G 200 g_this_code0), (h_this_letters, ca G 144 f_this_letters), (h_this_read, ia G 24 (upd (upd g_this_read (((3 : Int32) * p0) + (1 : Int32)).toNatClampNeg t21) (((3 : Int32) * p0) + (2 : Int32)).toNatClampNeg y_this_steps)), (h_this_tape, ia G 200 f_this_tape)]) C h 3 rfl hi23 dX9_readsRule_105 rfl (fun H locs h => ?_)
      refine lv_aload_n hx hb dX9_readsRule_106 rfl (lv_at hl 0 rfl) ?_
      replace hf := bd4_inv hf
      obtain ⟨y24, y25, y26, y27, hc28, hf⟩ := hf
      refine r_cvV (ws' := [(h_this, ob 9 [.ref h_this_s, .ref h_this_kept, .ref h_this_laid, .int x_this_isKept, .ref h_this_pile, .ref h_this_tape, .int x_this_taped, .ref h_this_letters, .int y24, .int y25, .int y26, .int y27, .int y_this_opened, .int y_this_steps, .ref h_this_code0, .ref h_this_read, .ref h_this_saved, .ref h_this_plan, .ref h_this_bestPlan, .int x_this_most, .int x_this_many, .int x_this_few, .int x_this_everHome, .ref h_this_offThen, .ref h_this_paidThen, .int x_this_firstFit, .ref h_this_rows, .int x_this_rowMany, .ref h_this_sorts, .ref h_this_sizes, .ref h_this_number, .ref h_this_holds, .ref h_this_heldOne, .ref h_this_trace, .int x_this_traced, .int x_this_own, .int x_this_isParted]), (h_this_code0, ia G 200 g_this_code0), (h_this_letters, ca G 144 f_this_letters), (h_this_read, ia G 24 (upd (upd g_this_read (((3 : Int32) * p0) + (1 : Int32)).toNatClampNeg t21) (((3 : Int32) * p0) + (2 : Int32)).toNatClampNeg y_this_steps)), (h_this_tape, ia G 200 f_this_tape)]) C h (c_X9_next hc28) mv_X9_155 rfl 0 rfl [0, 2, 4] rfl rfl rfl rfl rfl hl.1 rfl (Nat.le_of_ble_eq_true rfl) (rok (by decide)) dX9_readsRule_107 (fun H locs h => ?_)
      refine lv_aload_n hx hb dX9_readsRule_110 rfl (lv_at hl 0 rfl) ?_
      refine lv_sipush (v := (259 : Int32)) hx hb dX9_readsRule_111 rfl ?_
      replace hf := bd5_inv hf
      obtain ⟨r29, y30, y31, y32, y33, hc34, hf⟩ := hf
      refine r_ciV (ws' := [(h_this, ob 9 [.ref h_this_s, .ref h_this_kept, .ref h_this_laid, .int x_this_isKept, .ref h_this_pile, .ref h_this_tape, .int x_this_taped, .ref h_this_letters, .int y30, .int y31, .int y32, .int y33, .int y_this_opened, .int y_this_steps, .ref h_this_code0, .ref h_this_read, .ref h_this_saved, .ref h_this_plan, .ref h_this_bestPlan, .int x_this_most, .int x_this_many, .int x_this_few, .int x_this_everHome, .ref h_this_offThen, .ref h_this_paidThen, .int x_this_firstFit, .ref h_this_rows, .int x_this_rowMany, .ref h_this_sorts, .ref h_this_sizes, .ref h_this_number, .ref h_this_holds, .ref h_this_heldOne, .ref h_this_trace, .int x_this_traced, .int x_this_own, .int x_this_isParted]), (h_this_code0, ia G 200 g_this_code0), (h_this_letters, ca G 144 f_this_letters), (h_this_read, ia G 24 (upd (upd g_this_read (((3 : Int32) * p0) + (1 : Int32)).toNatClampNeg t21) (((3 : Int32) * p0) + (2 : Int32)).toNatClampNeg y_this_steps)), (h_this_tape, ia G 200 f_this_tape)]) C h (c_X9_takes hc34) mv_X9_175 rfl 0 rfl [0, 2, 4] rfl rfl rfl rfl rfl hl.1 rfl (Nat.le_of_ble_eq_true rfl) (rok (by decide)) dX9_readsRule_114 (fun H locs h => ?_)
      replace hf := chkB_inv hf
      obtain ⟨hb35, hf⟩ := hf
      cases hf
      exact r_iret C h hr hlk hb35 dX9_readsRule_117
    · replace hf := ifp c20 hf
      refine lv_iconst (v := (0 : Int32)) hx hb dX9_readsRule_73 rfl ?_
      cases hf
      exact r_iret C h hr hlk rfl dX9_readsRule_74
  refine lv_iload_n hx hb dX9_readsRule_0 rfl (lv_at hl 1 rfl) ?_
  refine lv_bipush (v := (8 : Int32)) hx hb dX9_readsRule_1 rfl ?_
  refine lv_icmp_eq (tgt := 18) hx hb dX9_readsRule_3 rfl (fun c1 => ?_) (fun c1 => ?_)
  · replace hf := ifp c1 hf
    refine lv_iconst (v := (0 : Int32)) hx hb dX9_readsRule_18 rfl ?_
    cases hf
    exact r_iret C h hr hlk rfl dX9_readsRule_19
  · replace hf := ifn c1 hf
    refine lv_aload_n hx hb dX9_readsRule_6 rfl (lv_at hl 0 rfl) ?_
    refine r_get C h fk_X9_140 0 rfl rfl dX9_readsRule_7 ?_
    refine lv_iconst (v := (0 : Int32)) hx hb dX9_readsRule_10 rfl ?_
    refine lv_iconst (v := (5 : Int32)) hx hb dX9_readsRule_11 rfl ?_
    replace hf := bd1_inv hf
    obtain ⟨r2, hc3, hf⟩ := hf
    refine r_ciS0 C h (c_X9_in1 hc3) ms_X9_71 rfl [] rfl rfl hl.1 rfl (Nat.le_of_ble_eq_true rfl) (rok (by decide)) dX9_readsRule_12 (fun H locs h => ?_)
    refine lv_if_ne (tgt := 20) hx hb dX9_readsRule_15 rfl (fun c4 => ?_) (fun c4 => ?_)
    · replace hf := ifn c4 hf
      refine lv_aload_n hx hb dX9_readsRule_20 rfl (lv_at hl 0 rfl) ?_
      refine r_get C h fk_X9_32 0 rfl rfl dX9_readsRule_21 ?_
      refine lv_iconst (v := (3 : Int32)) hx hb dX9_readsRule_24 rfl ?_
      refine lv_iload_n hx hb dX9_readsRule_25 rfl (lv_at hl 1 rfl) ?_
      refine lv_imul hx hb dX9_readsRule_26 ?_
      refine lv_aload_n hx hb dX9_readsRule_27 rfl (lv_at hl 0 rfl) ?_
      refine r_get C h fk_X9_140 0 rfl rfl dX9_readsRule_28 ?_
      replace hf := chkI_inv hf
      obtain ⟨hi5, hf⟩ := hf
      refine r_iast (ws' := [(h_this, ob 9 [.ref h_this_s, .ref h_this_kept, .ref h_this_laid, .int x_this_isKept, .ref h_this_pile, .ref h_this_tape, .int x_this_taped, .ref h_this_letters, .int x_this_at, .int x_this_begun, .int x_this_token, .int x_this_value, .int x_this_opened, .int x_this_steps, .ref h_this_code0, .ref h_this_read, .ref h_this_saved, .ref h_this_plan, .ref h_this_bestPlan, .int x_this_most, .int x_this_many, .int x_this_few, .int x_this_everHome, .ref h_this_offThen, .ref h_this_paidThen, .int x_this_firstFit, .ref h_this_rows, .int x_this_rowMany, .ref h_this_sorts, .ref h_this_sizes, .ref h_this_number, .ref h_this_holds, .ref h_this_heldOne, .ref h_this_trace, .int x_this_traced, .int x_this_own, .int x_this_isParted]), (h_this_code0, ia G 200 f_this_code0), (h_this_letters, ca G 144 f_this_letters), (h_this_read, ia G 24 (upd f_this_read ((3 : Int32) * p0).toNatClampNeg x_this_token)), (h_this_tape, ia G 200 f_this_tape)]) C h 3 rfl hi5 dX9_readsRule_31 rfl (fun H locs h => ?_)
      refine lv_aload_n hx hb dX9_readsRule_32 rfl (lv_at hl 0 rfl) ?_
      replace hf := bd4_inv hf
      obtain ⟨y6, y7, y8, y9, hc10, hf⟩ := hf
      refine r_cvV (ws' := [(h_this, ob 9 [.ref h_this_s, .ref h_this_kept, .ref h_this_laid, .int x_this_isKept, .ref h_this_pile, .ref h_this_tape, .int x_this_taped, .ref h_this_letters, .int y6, .int y7, .int y8, .int y9, .int x_this_opened, .int x_this_steps, .ref h_this_code0, .ref h_this_read, .ref h_this_saved, .ref h_this_plan, .ref h_this_bestPlan, .int x_this_most, .int x_this_many, .int x_this_few, .int x_this_everHome, .ref h_this_offThen, .ref h_this_paidThen, .int x_this_firstFit, .ref h_this_rows, .int x_this_rowMany, .ref h_this_sorts, .ref h_this_sizes, .ref h_this_number, .ref h_this_holds, .ref h_this_heldOne, .ref h_this_trace, .int x_this_traced, .int x_this_own, .int x_this_isParted]), (h_this_code0, ia G 200 f_this_code0), (h_this_letters, ca G 144 f_this_letters), (h_this_read, ia G 24 (upd f_this_read ((3 : Int32) * p0).toNatClampNeg x_this_token)), (h_this_tape, ia G 200 f_this_tape)]) C h (c_X9_next hc10) mv_X9_155 rfl 0 rfl [0, 2, 4] rfl rfl rfl rfl rfl hl.1 rfl (Nat.le_of_ble_eq_true rfl) (rok (by decide)) dX9_readsRule_33 (fun H locs h => ?_)
      refine lv_aload_n hx hb dX9_readsRule_36 rfl (lv_at hl 0 rfl) ?_
      refine lv_iconst (v := (0 : Int32)) hx hb dX9_readsRule_37 rfl ?_
      refine r_put (ws' := [(h_this, ob 9 [.ref h_this_s, .ref h_this_kept, .ref h_this_laid, .int x_this_isKept, .ref h_this_pile, .ref h_this_tape, .int x_this_taped, .ref h_this_letters, .int y6, .int y7, .int y8, .int y9, .int (0 : Int32), .int x_this_steps, .ref h_this_code0, .ref h_this_read, .ref h_this_saved, .ref h_this_plan, .ref h_this_bestPlan, .int x_this_most, .int x_this_many, .int x_this_few, .int x_this_everHome, .ref h_this_offThen, .ref h_this_paidThen, .int x_this_firstFit, .ref h_this_rows, .int x_this_rowMany, .ref h_this_sorts, .ref h_this_sizes, .ref h_this_number, .ref h_this_holds, .ref h_this_heldOne, .ref h_this_trace, .int x_this_traced, .int x_this_own, .int x_this_isParted]), (h_this_code0, ia G 200 f_this_code0), (h_this_letters, ca G 144 f_this_letters), (h_this_read, ia G 24 (upd f_this_read ((3 : Int32) * p0).toNatClampNeg x_this_token)), (h_this_tape, ia G 200 f_this_tape)]) C h fw_X9_169 0 rfl rfl rfl (Nat.le_of_ble_eq_true rfl) dX9_readsRule_38 rfl (fun H locs h => ?_)
      refine lv_aload_n hx hb dX9_readsRule_41 rfl (lv_at hl 0 rfl) ?_
      refine lv_bipush (v := (9 : Int32)) hx hb dX9_readsRule_42 rfl ?_
      replace hf := bd5_inv hf
      obtain ⟨r11, y12, y13, y14, y15, hc16, hf⟩ := hf
      refine r_ciV (ws' := [(h_this, ob 9 [.ref h_this_s, .ref h_this_kept, .ref h_this_laid, .int x_this_isKept, .ref h_this_pile, .ref h_this_tape, .int x_this_taped, .ref h_this_letters, .int y12, .int y13, .int y14, .int y15, .int (0 : Int32), .int x_this_steps, .ref h_this_code0, .ref h_this_read, .ref h_this_saved, .ref h_this_plan, .ref h_this_bestPlan, .int x_this_most, .int x_this_many, .int x_this_few, .int x_this_everHome, .ref h_this_offThen, .ref h_this_paidThen, .int x_this_firstFit, .ref h_this_rows, .int x_this_rowMany, .ref h_this_sorts, .ref h_this_sizes, .ref h_this_number, .ref h_this_holds, .ref h_this_heldOne, .ref h_this_trace, .int x_this_traced, .int x_this_own, .int x_this_isParted]), (h_this_code0, ia G 200 f_this_code0), (h_this_letters, ca G 144 f_this_letters), (h_this_read, ia G 24 (upd f_this_read ((3 : Int32) * p0).toNatClampNeg x_this_token)), (h_this_tape, ia G 200 f_this_tape)]) C h (c_X9_takes hc16) mv_X9_175 rfl 0 rfl [0, 2, 4] rfl rfl rfl rfl rfl hl.1 rfl (Nat.le_of_ble_eq_true rfl) (rok (by decide)) dX9_readsRule_44 (fun H locs h => ?_)
      refine lv_if_eq (tgt := 59) hx hb dX9_readsRule_47 rfl (fun c17 => ?_) (fun c17 => ?_)
      · replace hf := ifp c17 hf
        exact hK2 _ _ _ _ (B59 y12 y13 y14 y15 (0 : Int32) x_this_steps f_this_code0 (upd f_this_read ((3 : Int32) * p0).toNatClampNeg x_this_token) hf) _ _ _ h (lv_sub hl [0, 1] rfl)
      · replace hf := ifn c17 hf
        refine lv_aload_n hx hb dX9_readsRule_50 rfl (lv_at hl 0 rfl) ?_
        replace hf := bd8_inv hf
        obtain ⟨r36, y37, y38, y39, y40, y41, y42, g43, hc44, hf⟩ := hf
        refine r_ciV (ws' := [(h_this, ob 9 [.ref h_this_s, .ref h_this_kept, .ref h_this_laid, .int x_this_isKept, .ref h_this_pile, .ref h_this_tape, .int x_this_taped, .ref h_this_letters, .int y37, .int y38, .int y39, .int y40, .int y41, .int y42, .ref h_this_code0, .ref h_this_read, .ref h_this_saved, .ref h_this_plan, .ref h_this_bestPlan, .int x_this_most, .int x_this_many, .int x_this_few, .int x_this_everHome, .ref h_this_offThen, .ref h_this_paidThen, .int x_this_firstFit, .ref h_this_rows, .int x_this_rowMany, .ref h_this_sorts, .ref h_this_sizes, .ref h_this_number, .ref h_this_holds, .ref h_this_heldOne, .ref h_this_trace, .int x_this_traced, .int x_this_own, .int x_this_isParted]), (h_this_code0, ia G 200 g43), (h_this_letters, ca G 144 f_this_letters), (h_this_read, ia G 24 (upd f_this_read ((3 : Int32) * p0).toNatClampNeg x_this_token)), (h_this_tape, ia G 200 f_this_tape)]) C h (C_X9_readsCondition 6 hc44) mv_X9_172 rfl 0 rfl [0, 1, 2, 4] rfl rfl rfl rfl rfl hl.1 rfl (Nat.le_of_ble_eq_true rfl) (rok (by decide)) dX9_readsRule_51 (fun H locs h => ?_)
        refine lv_if_ne (tgt := 59) hx hb dX9_readsRule_54 rfl (fun c45 => ?_) (fun c45 => ?_)
        · replace hf := ifn c45 hf
          exact hK2 _ _ _ _ (B59 y37 y38 y39 y40 y41 y42 g43 (upd f_this_read ((3 : Int32) * p0).toNatClampNeg x_this_token) hf) _ _ _ h (lv_sub hl [0, 1] rfl)
        · replace hf := ifp c45 hf
          refine lv_iconst (v := (0 : Int32)) hx hb dX9_readsRule_57 rfl ?_
          cases hf
          exact r_iret C h hr hlk rfl dX9_readsRule_58
    · replace hf := ifp c4 hf
      refine lv_iconst (v := (0 : Int32)) hx hb dX9_readsRule_18 rfl ?_
      cases hf
      exact r_iret C h hr hlk rfl dX9_readsRule_19
def f_X9_rules_L98 : Nat → Int32 → Int32 → Int32 → Int32 → Int32 → Int32 → Int32 → Int32 → Int32 → (Nat → Int32) → (Nat → Int32) → (Nat → Int32) → Option (Int32 × Int32 × Int32 × Int32 × Int32 × Int32 × Int32 × Int32 × (Nat → Int32) × (Nat → Int32) × (Nat → Int32))
  | 0, _, _, _, _, _, _, _, _, _, _, _, _ => none
  | n + 1, v1, v3, y_this_taped, y_this_at, y_this_begun, y_this_token, y_this_value, y_this_opened, y_this_steps, g_this_code0, g_this_read, g_this_s => (if y_this_steps ≤ v3 then some (v1, y_this_taped, y_this_at, y_this_begun, y_this_token, y_this_value, y_this_opened, y_this_steps, g_this_code0, g_this_read, g_this_s) else chkI v3 200 (lt1 (g_this_code0 v3.toNatClampNeg) (fun (t11 : Int32) => chkI ((113 : Int32) + v3) 313 (lt1 (v3 + (1 : Int32)) (fun (t13 : Int32) => (f_X9_rules_L98 n) v1 t13 y_this_taped y_this_at y_this_begun y_this_token y_this_value y_this_opened y_this_steps g_this_code0 g_this_read (upd g_this_s ((113 : Int32) + v3).toNatClampNeg t11))))))
def f_X9_rules_b96 (v1 : Int32) (y_this_taped : Int32) (y_this_at : Int32) (y_this_begun : Int32) (y_this_token : Int32) (y_this_value : Int32) (y_this_opened : Int32) (y_this_steps : Int32) (g_this_code0 : Nat → Int32) (g_this_read : Nat → Int32) (g_this_s : Nat → Int32) : Option (Int32 × Int32 × Int32 × Int32 × Int32 × Int32 × Int32 × Int32 × (Nat → Int32) × (Nat → Int32) × (Nat → Int32)) := f_X9_rules_L98 1000 v1 (0 : Int32) y_this_taped y_this_at y_this_begun y_this_token y_this_value y_this_opened y_this_steps g_this_code0 g_this_read g_this_s
def f_X9_rules_L68 : Nat → Int32 → Int32 → Int32 → Int32 → Int32 → Int32 → Int32 → Int32 → Int32 → (Nat → Int32) → (Nat → Int32) → (Nat → Int32) → Option (Int32 × Int32 × Int32 × Int32 × Int32 × Int32 × Int32 × Int32 × (Nat → Int32) × (Nat → Int32) × (Nat → Int32))
  | 0, _, _, _, _, _, _, _, _, _, _, _, _ => none
  | n + 1, v1, v3, y_this_taped, y_this_at, y_this_begun, y_this_token, y_this_value, y_this_opened, y_this_steps, g_this_code0, g_this_read, g_this_s => (if ((3 : Int32) * v1) ≤ v3 then f_X9_rules_b96 v1 y_this_taped y_this_at y_this_begun y_this_token y_this_value y_this_opened y_this_steps g_this_code0 g_this_read g_this_s else chkI v3 24 (lt1 (g_this_read v3.toNatClampNeg) (fun (t15 : Int32) => chkI ((89 : Int32) + v3) 313 (lt1 (v3 + (1 : Int32)) (fun (t17 : Int32) => (f_X9_rules_L68 n) v1 t17 y_this_taped y_this_at y_this_begun y_this_token y_this_value y_this_opened y_this_steps g_this_code0 g_this_read (upd g_this_s ((89 : Int32) + v3).toNatClampNeg t15))))))
def f_X9_rules_b42 (f_this_s : Nat → Int32) (v1 : Int32) (v2 : Int32) (y_this_at : Int32) (y_this_begun : Int32) (y_this_token : Int32) (y_this_value : Int32) (y_this_opened : Int32) (y_this_steps : Int32) (g_this_code0 : Nat → Int32) (g_this_read : Nat → Int32) : Option (Int32 × Int32 × Int32 × Int32 × Int32 × Int32 × Int32 × Int32 × (Nat → Int32) × (Nat → Int32) × (Nat → Int32)) := (if v2 = 0 then some ((-100 : Int32) - y_this_begun, (0 : Int32), y_this_at, y_this_begun, y_this_token, y_this_value, y_this_opened, y_this_steps, g_this_code0, g_this_read, f_this_s) else f_X9_rules_L68 1000 v1 (0 : Int32) (0 : Int32) y_this_at y_this_begun y_this_token y_this_value y_this_opened y_this_steps g_this_code0 g_this_read (upd f_this_s 5 v1))
def f_X9_rules_L18 (x_this_taped : Int32) (f_this_letters : Nat → Int32) (f_this_s : Nat → Int32) (f_this_tape : Nat → Int32) : Nat → Int32 → Int32 → Int32 → Int32 → Int32 → Int32 → Int32 → Int32 → (Nat → Int32) → (Nat → Int32) → Option (Int32 × Int32 × Int32 × Int32 × Int32 × Int32 × Int32 × Int32 × (Nat → Int32) × (Nat → Int32) × (Nat → Int32))
  | 0, _, _, _, _, _, _, _, _, _, _ => none
  | n + 1, v1, v2, y_this_at, y_this_begun, y_this_token, y_this_value, y_this_opened, y_this_steps, g_this_code0, g_this_read => (if v2 = 0 then f_X9_rules_b42 f_this_s v1 v2 y_this_at y_this_begun y_this_token y_this_value y_this_opened y_this_steps g_this_code0 g_this_read else (if y_this_token = (-1 : Int32) then f_X9_rules_b42 f_this_s v1 v2 y_this_at y_this_begun y_this_token y_this_value y_this_opened y_this_steps g_this_code0 g_this_read else bd9 (f_X9_readsRule v1 x_this_taped y_this_at y_this_begun y_this_token y_this_value y_this_opened y_this_steps g_this_code0 f_this_letters g_this_read f_this_tape) (fun r19 y20 y21 y22 y23 y24 y25 g26 g27 => lt1 (v1 + (1 : Int32)) (fun (t29 : Int32) => (f_X9_rules_L18 x_this_taped f_this_letters f_this_s f_this_tape n) t29 r19 y20 y21 y22 y23 y24 y25 g26 g27))))
def f_X9_rules (x_this_taped : Int32) (x_this_value : Int32) (x_this_opened : Int32) (f_this_code0 : Nat → Int32) (f_this_letters : Nat → Int32) (f_this_read : Nat → Int32) (f_this_s : Nat → Int32) (f_this_tape : Nat → Int32) : Option (Int32 × Int32 × Int32 × Int32 × Int32 × Int32 × Int32 × Int32 × (Nat → Int32) × (Nat → Int32) × (Nat → Int32)) := bd4 (f_X9_next x_this_taped (0 : Int32) x_this_value f_this_letters f_this_tape) (fun y1 y2 y3 y4 => f_X9_rules_L18 x_this_taped f_this_letters f_this_s f_this_tape 1000 (0 : Int32) (1 : Int32) y1 y2 y3 y4 x_this_opened (0 : Int32) f_this_code0 f_this_read)
set_option maxRecDepth 100000 in
set_option maxHeartbeats 4000000 in
theorem c_X9_rules {l : Launch} {G : Gt} {h_this h_this_s h_this_kept h_this_laid h_this_pile h_this_tape h_this_letters h_this_code0 h_this_read h_this_saved h_this_plan h_this_bestPlan h_this_offThen h_this_paidThen h_this_rows h_this_sorts h_this_sizes h_this_number h_this_holds h_this_heldOne h_this_trace : Nat} {x_this_isKept : Int32} {x_this_taped : Int32} {x_this_at : Int32} {x_this_begun : Int32} {x_this_token : Int32} {x_this_value : Int32} {x_this_opened : Int32} {x_this_steps : Int32} {x_this_most : Int32} {x_this_many : Int32} {x_this_few : Int32} {x_this_everHome : Int32} {x_this_firstFit : Int32} {x_this_rowMany : Int32} {x_this_traced : Int32} {x_this_own : Int32} {x_this_isParted : Int32} {f_this_code0 : Nat → Int32} {f_this_letters : Nat → Int32} {f_this_read : Nat → Int32} {f_this_s : Nat → Int32} {f_this_tape : Nat → Int32} {r : Int32} {m_this_taped : Int32} {m_this_at : Int32} {m_this_begun : Int32} {m_this_token : Int32} {m_this_value : Int32} {m_this_opened : Int32} {m_this_steps : Int32} {m_this_code0 : Nat → Int32} {m_this_read : Nat → Int32} {m_this_s : Nat → Int32} (hf : f_X9_rules x_this_taped x_this_value x_this_opened f_this_code0 f_this_letters f_this_read f_this_s f_this_tape = some (r, m_this_taped, m_this_at, m_this_begun, m_this_token, m_this_value, m_this_opened, m_this_steps, m_this_code0, m_this_read, m_this_s)) : mFi l G yX9_rules cX9_rules 4 .int 50 [.ref h_this] [(h_this, ob 9 [.ref h_this_s, .ref h_this_kept, .ref h_this_laid, .int x_this_isKept, .ref h_this_pile, .ref h_this_tape, .int x_this_taped, .ref h_this_letters, .int x_this_at, .int x_this_begun, .int x_this_token, .int x_this_value, .int x_this_opened, .int x_this_steps, .ref h_this_code0, .ref h_this_read, .ref h_this_saved, .ref h_this_plan, .ref h_this_bestPlan, .int x_this_most, .int x_this_many, .int x_this_few, .int x_this_everHome, .ref h_this_offThen, .ref h_this_paidThen, .int x_this_firstFit, .ref h_this_rows, .int x_this_rowMany, .ref h_this_sorts, .ref h_this_sizes, .ref h_this_number, .ref h_this_holds, .ref h_this_heldOne, .ref h_this_trace, .int x_this_traced, .int x_this_own, .int x_this_isParted]), (h_this_code0, ia G 200 f_this_code0), (h_this_letters, ca G 144 f_this_letters), (h_this_read, ia G 24 f_this_read), (h_this_s, ia G 313 f_this_s), (h_this_tape, ia G 200 f_this_tape)] r [(h_this, ob 9 [.ref h_this_s, .ref h_this_kept, .ref h_this_laid, .int x_this_isKept, .ref h_this_pile, .ref h_this_tape, .int m_this_taped, .ref h_this_letters, .int m_this_at, .int m_this_begun, .int m_this_token, .int m_this_value, .int m_this_opened, .int m_this_steps, .ref h_this_code0, .ref h_this_read, .ref h_this_saved, .ref h_this_plan, .ref h_this_bestPlan, .int x_this_most, .int x_this_many, .int x_this_few, .int x_this_everHome, .ref h_this_offThen, .ref h_this_paidThen, .int x_this_firstFit, .ref h_this_rows, .int x_this_rowMany, .ref h_this_sorts, .ref h_this_sizes, .ref h_this_number, .ref h_this_holds, .ref h_this_heldOne, .ref h_this_trace, .int x_this_traced, .int x_this_own, .int x_this_isParted]), (h_this_code0, ia G 200 m_this_code0), (h_this_letters, ca G 144 f_this_letters), (h_this_read, ia G 24 m_this_read), (h_this_s, ia G 313 m_this_s), (h_this_tape, ia G 200 f_this_tape)] := by
  refine mFi.of (by decide +kernel) (Nat.le_of_ble_eq_true rfl) ?_
  intro p e s m below meth c A C hr hlk h ls hl
  obtain ⟨hx, hb, hml, hown, hts⟩ := id C
  replace hl : lv_has ls 4 [(0, .ref h_this)] := hl
  unfold f_X9_rules at hf
  refine with_K G A 4 (fun K hK1 hK2 => ?_)
  have L98 : ∀ (n : Nat) (v1 : Int32) (v3 : Int32) (y_this_taped : Int32) (y_this_at : Int32) (y_this_begun : Int32) (y_this_token : Int32) (y_this_value : Int32) (y_this_opened : Int32) (y_this_steps : Int32) (g_this_code0 : Nat → Int32) (g_this_read : Nat → Int32) (g_this_s : Nat → Int32), f_X9_rules_L98 n v1 v3 y_this_taped y_this_at y_this_begun y_this_token y_this_value y_this_opened y_this_steps g_this_code0 g_this_read g_this_s = some (r, m_this_taped, m_this_at, m_this_begun, m_this_token, m_this_value, m_this_opened, m_this_steps, m_this_code0, m_this_read, m_this_s) → K 98 ([] : List Value) [(h_this, ob 9 [.ref h_this_s, .ref h_this_kept, .ref h_this_laid, .int x_this_isKept, .ref h_this_pile, .ref h_this_tape, .int y_this_taped, .ref h_this_letters, .int y_this_at, .int y_this_begun, .int y_this_token, .int y_this_value, .int y_this_opened, .int y_this_steps, .ref h_this_code0, .ref h_this_read, .ref h_this_saved, .ref h_this_plan, .ref h_this_bestPlan, .int x_this_most, .int x_this_many, .int x_this_few, .int x_this_everHome, .ref h_this_offThen, .ref h_this_paidThen, .int x_this_firstFit, .ref h_this_rows, .int x_this_rowMany, .ref h_this_sorts, .ref h_this_sizes, .ref h_this_number, .ref h_this_holds, .ref h_this_heldOne, .ref h_this_trace, .int x_this_traced, .int x_this_own, .int x_this_isParted]), (h_this_code0, ia G 200 g_this_code0), (h_this_letters, ca G 144 f_this_letters), (h_this_read, ia G 24 g_this_read), (h_this_s, ia G 313 g_this_s), (h_this_tape, ia G 200 f_this_tape)] [(0, .ref h_this), (1, .int v1), (3, .int v3)] := by
    intro n
    induction n with
    | zero =>
      intro v1 v3 y_this_taped y_this_at y_this_begun y_this_token y_this_value y_this_opened y_this_steps g_this_code0 g_this_read g_this_s hf
      replace hf : (none : Option _) = some _ := hf
      cases hf
    | succ n ih =>
      intro v1 v3 y_this_taped y_this_at y_this_begun y_this_token y_this_value y_this_opened y_this_steps g_this_code0 g_this_read g_this_s hf
      rw [f_X9_rules_L98] at hf
      refine hK1 _ _ _ _ (fun H locs ls h hl => ?_)
      refine lv_iload_n hx hb dX9_rules_98 rfl (lv_at hl 2 rfl) ?_
      refine lv_aload_n hx hb dX9_rules_99 rfl (lv_at hl 0 rfl) ?_
      refine r_get C h fk_X9_158 0 rfl rfl dX9_rules_100 ?_
      refine lv_icmp_ge (tgt := 127) hx hb dX9_rules_103 rfl (fun c9 => ?_) (fun c9 => ?_)
      · replace hf := ifp c9 hf
        refine lv_iload_n hx hb dX9_rules_127 rfl (lv_at hl 1 rfl) ?_
        cases hf
        exact r_iret C h hr hlk rfl dX9_rules_128
      · replace hf := ifn c9 hf
        refine lv_aload_n hx hb dX9_rules_106 rfl (lv_at hl 0 rfl) ?_
        refine r_get C h fk_X9_9 0 rfl rfl dX9_rules_107 ?_
        refine lv_bipush (v := (113 : Int32)) hx hb dX9_rules_110 rfl ?_
        refine lv_iload_n hx hb dX9_rules_112 rfl (lv_at hl 2 rfl) ?_
        refine lv_iadd hx hb dX9_rules_113 ?_
        refine lv_aload_n hx hb dX9_rules_114 rfl (lv_at hl 0 rfl) ?_
        refine r_get C h fk_X9_29 0 rfl rfl dX9_rules_115 ?_
        refine lv_iload_n hx hb dX9_rules_118 rfl (lv_at hl 2 rfl) ?_
        replace hf := chkI_inv hf
        obtain ⟨hi10, hf⟩ := hf
        refine r_iald C h 1 rfl hi10 dX9_rules_119 ?_
        refine lv_topi (fun t11 et11 => ?_)
        replace hf := lt1_inv et11 hf
        replace hf := chkI_inv hf
        obtain ⟨hi12, hf⟩ := hf
        refine r_iast (ws' := [(h_this, ob 9 [.ref h_this_s, .ref h_this_kept, .ref h_this_laid, .int x_this_isKept, .ref h_this_pile, .ref h_this_tape, .int y_this_taped, .ref h_this_letters, .int y_this_at, .int y_this_begun, .int y_this_token, .int y_this_value, .int y_this_opened, .int y_this_steps, .ref h_this_code0, .ref h_this_read, .ref h_this_saved, .ref h_this_plan, .ref h_this_bestPlan, .int x_this_most, .int x_this_many, .int x_this_few, .int x_this_everHome, .ref h_this_offThen, .ref h_this_paidThen, .int x_this_firstFit, .ref h_this_rows, .int x_this_rowMany, .ref h_this_sorts, .ref h_this_sizes, .ref h_this_number, .ref h_this_holds, .ref h_this_heldOne, .ref h_this_trace, .int x_this_traced, .int x_this_own, .int x_this_isParted]), (h_this_code0, ia G 200 g_this_code0), (h_this_letters, ca G 144 f_this_letters), (h_this_read, ia G 24 g_this_read), (h_this_s, ia G 313 (upd g_this_s ((113 : Int32) + v3).toNatClampNeg t11)), (h_this_tape, ia G 200 f_this_tape)]) C h 4 rfl hi12 dX9_rules_120 rfl (fun H locs h => ?_)
        obtain ⟨t13, et13⟩ : ∃ y : Int32, y = v3 + (1 : Int32) := ⟨_, rfl⟩
        replace hf := lt1_inv et13 hf
        refine lv_iinc (v := t13) (lv' := [(3, .int t13), (0, .ref h_this), (1, .int v1)]) hx hb dX9_rules_121 hl (k := 2) rfl (by rw [et13]; rfl) (by decide) rfl (fun ls hl => ?_)
        refine lv_goto (tgt := 98) hx hb dX9_rules_124 rfl ?_
        exact hK2 _ _ _ _ (ih v1 t13 y_this_taped y_this_at y_this_begun y_this_token y_this_value y_this_opened y_this_steps g_this_code0 g_this_read (upd g_this_s ((113 : Int32) + v3).toNatClampNeg t11) hf) _ _ _ h (lv_sub hl [1, 2, 0] rfl)
  have B96 : ∀ (v1 : Int32) (y_this_taped : Int32) (y_this_at : Int32) (y_this_begun : Int32) (y_this_token : Int32) (y_this_value : Int32) (y_this_opened : Int32) (y_this_steps : Int32) (g_this_code0 : Nat → Int32) (g_this_read : Nat → Int32) (g_this_s : Nat → Int32), f_X9_rules_b96 v1 y_this_taped y_this_at y_this_begun y_this_token y_this_value y_this_opened y_this_steps g_this_code0 g_this_read g_this_s = some (r, m_this_taped, m_this_at, m_this_begun, m_this_token, m_this_value, m_this_opened, m_this_steps, m_this_code0, m_this_read, m_this_s) → K 96 ([] : List Value) [(h_this, ob 9 [.ref h_this_s, .ref h_this_kept, .ref h_this_laid, .int x_this_isKept, .ref h_this_pile, .ref h_this_tape, .int y_this_taped, .ref h_this_letters, .int y_this_at, .int y_this_begun, .int y_this_token, .int y_this_value, .int y_this_opened, .int y_this_steps, .ref h_this_code0, .ref h_this_read, .ref h_this_saved, .ref h_this_plan, .ref h_this_bestPlan, .int x_this_most, .int x_this_many, .int x_this_few, .int x_this_everHome, .ref h_this_offThen, .ref h_this_paidThen, .int x_this_firstFit, .ref h_this_rows, .int x_this_rowMany, .ref h_this_sorts, .ref h_this_sizes, .ref h_this_number, .ref h_this_holds, .ref h_this_heldOne, .ref h_this_trace, .int x_this_traced, .int x_this_own, .int x_this_isParted]), (h_this_code0, ia G 200 g_this_code0), (h_this_letters, ca G 144 f_this_letters), (h_this_read, ia G 24 g_this_read), (h_this_s, ia G 313 g_this_s), (h_this_tape, ia G 200 f_this_tape)] [(0, .ref h_this), (1, .int v1)] := by
    intro v1 y_this_taped y_this_at y_this_begun y_this_token y_this_value y_this_opened y_this_steps g_this_code0 g_this_read g_this_s hf
    unfold f_X9_rules_b96 at hf
    refine hK1 _ _ _ _ (fun H locs ls h hl => ?_)
    refine lv_iconst (v := (0 : Int32)) hx hb dX9_rules_96 rfl ?_
    refine lv_istore_n (lv' := [(3, .int (0 : Int32)), (0, .ref h_this), (1, .int v1)]) hx hb dX9_rules_97 rfl hl (by decide) rfl (fun ls hl => ?_)
    exact hK2 _ _ _ _ (L98 1000 v1 (0 : Int32) y_this_taped y_this_at y_this_begun y_this_token y_this_value y_this_opened y_this_steps g_this_code0 g_this_read g_this_s hf) _ _ _ h (lv_sub hl [1, 2, 0] rfl)
  have L68 : ∀ (n : Nat) (v1 : Int32) (v3 : Int32) (y_this_taped : Int32) (y_this_at : Int32) (y_this_begun : Int32) (y_this_token : Int32) (y_this_value : Int32) (y_this_opened : Int32) (y_this_steps : Int32) (g_this_code0 : Nat → Int32) (g_this_read : Nat → Int32) (g_this_s : Nat → Int32), f_X9_rules_L68 n v1 v3 y_this_taped y_this_at y_this_begun y_this_token y_this_value y_this_opened y_this_steps g_this_code0 g_this_read g_this_s = some (r, m_this_taped, m_this_at, m_this_begun, m_this_token, m_this_value, m_this_opened, m_this_steps, m_this_code0, m_this_read, m_this_s) → K 68 ([] : List Value) [(h_this, ob 9 [.ref h_this_s, .ref h_this_kept, .ref h_this_laid, .int x_this_isKept, .ref h_this_pile, .ref h_this_tape, .int y_this_taped, .ref h_this_letters, .int y_this_at, .int y_this_begun, .int y_this_token, .int y_this_value, .int y_this_opened, .int y_this_steps, .ref h_this_code0, .ref h_this_read, .ref h_this_saved, .ref h_this_plan, .ref h_this_bestPlan, .int x_this_most, .int x_this_many, .int x_this_few, .int x_this_everHome, .ref h_this_offThen, .ref h_this_paidThen, .int x_this_firstFit, .ref h_this_rows, .int x_this_rowMany, .ref h_this_sorts, .ref h_this_sizes, .ref h_this_number, .ref h_this_holds, .ref h_this_heldOne, .ref h_this_trace, .int x_this_traced, .int x_this_own, .int x_this_isParted]), (h_this_code0, ia G 200 g_this_code0), (h_this_letters, ca G 144 f_this_letters), (h_this_read, ia G 24 g_this_read), (h_this_s, ia G 313 g_this_s), (h_this_tape, ia G 200 f_this_tape)] [(0, .ref h_this), (1, .int v1), (3, .int v3)] := by
    intro n
    induction n with
    | zero =>
      intro v1 v3 y_this_taped y_this_at y_this_begun y_this_token y_this_value y_this_opened y_this_steps g_this_code0 g_this_read g_this_s hf
      replace hf : (none : Option _) = some _ := hf
      cases hf
    | succ n ih =>
      intro v1 v3 y_this_taped y_this_at y_this_begun y_this_token y_this_value y_this_opened y_this_steps g_this_code0 g_this_read g_this_s hf
      rw [f_X9_rules_L68] at hf
      refine hK1 _ _ _ _ (fun H locs ls h hl => ?_)
      refine lv_iload_n hx hb dX9_rules_68 rfl (lv_at hl 2 rfl) ?_
      refine lv_iconst (v := (3 : Int32)) hx hb dX9_rules_69 rfl ?_
      refine lv_iload_n hx hb dX9_rules_70 rfl (lv_at hl 1 rfl) ?_
      refine lv_imul hx hb dX9_rules_71 ?_
      refine lv_icmp_ge (tgt := 96) hx hb dX9_rules_72 rfl (fun c8 => ?_) (fun c8 => ?_)
      · replace hf := ifp c8 hf
        exact hK2 _ _ _ _ (B96 v1 y_this_taped y_this_at y_this_begun y_this_token y_this_value y_this_opened y_this_steps g_this_code0 g_this_read g_this_s hf) _ _ _ h (lv_sub hl [0, 1] rfl)
      · replace hf := ifn c8 hf
        refine lv_aload_n hx hb dX9_rules_75 rfl (lv_at hl 0 rfl) ?_
        refine r_get C h fk_X9_9 0 rfl rfl dX9_rules_76 ?_
        refine lv_bipush (v := (89 : Int32)) hx hb dX9_rules_79 rfl ?_
        refine lv_iload_n hx hb dX9_rules_81 rfl (lv_at hl 2 rfl) ?_
        refine lv_iadd hx hb dX9_rules_82 ?_
        refine lv_aload_n hx hb dX9_rules_83 rfl (lv_at hl 0 rfl) ?_
        refine r_get C h fk_X9_32 0 rfl rfl dX9_rules_84 ?_
        refine lv_iload_n hx hb dX9_rules_87 rfl (lv_at hl 2 rfl) ?_
        replace hf := chkI_inv hf
        obtain ⟨hi14, hf⟩ := hf
        refine r_iald C h 3 rfl hi14 dX9_rules_88 ?_
        refine lv_topi (fun t15 et15 => ?_)
        replace hf := lt1_inv et15 hf
        replace hf := chkI_inv hf
        obtain ⟨hi16, hf⟩ := hf
        refine r_iast (ws' := [(h_this, ob 9 [.ref h_this_s, .ref h_this_kept, .ref h_this_laid, .int x_this_isKept, .ref h_this_pile, .ref h_this_tape, .int y_this_taped, .ref h_this_letters, .int y_this_at, .int y_this_begun, .int y_this_token, .int y_this_value, .int y_this_opened, .int y_this_steps, .ref h_this_code0, .ref h_this_read, .ref h_this_saved, .ref h_this_plan, .ref h_this_bestPlan, .int x_this_most, .int x_this_many, .int x_this_few, .int x_this_everHome, .ref h_this_offThen, .ref h_this_paidThen, .int x_this_firstFit, .ref h_this_rows, .int x_this_rowMany, .ref h_this_sorts, .ref h_this_sizes, .ref h_this_number, .ref h_this_holds, .ref h_this_heldOne, .ref h_this_trace, .int x_this_traced, .int x_this_own, .int x_this_isParted]), (h_this_code0, ia G 200 g_this_code0), (h_this_letters, ca G 144 f_this_letters), (h_this_read, ia G 24 g_this_read), (h_this_s, ia G 313 (upd g_this_s ((89 : Int32) + v3).toNatClampNeg t15)), (h_this_tape, ia G 200 f_this_tape)]) C h 4 rfl hi16 dX9_rules_89 rfl (fun H locs h => ?_)
        obtain ⟨t17, et17⟩ : ∃ y : Int32, y = v3 + (1 : Int32) := ⟨_, rfl⟩
        replace hf := lt1_inv et17 hf
        refine lv_iinc (v := t17) (lv' := [(3, .int t17), (0, .ref h_this), (1, .int v1)]) hx hb dX9_rules_90 hl (k := 2) rfl (by rw [et17]; rfl) (by decide) rfl (fun ls hl => ?_)
        refine lv_goto (tgt := 68) hx hb dX9_rules_93 rfl ?_
        exact hK2 _ _ _ _ (ih v1 t17 y_this_taped y_this_at y_this_begun y_this_token y_this_value y_this_opened y_this_steps g_this_code0 g_this_read (upd g_this_s ((89 : Int32) + v3).toNatClampNeg t15) hf) _ _ _ h (lv_sub hl [1, 2, 0] rfl)
  have B42 : ∀ (v1 : Int32) (v2 : Int32) (y_this_at : Int32) (y_this_begun : Int32) (y_this_token : Int32) (y_this_value : Int32) (y_this_opened : Int32) (y_this_steps : Int32) (g_this_code0 : Nat → Int32) (g_this_read : Nat → Int32), f_X9_rules_b42 f_this_s v1 v2 y_this_at y_this_begun y_this_token y_this_value y_this_opened y_this_steps g_this_code0 g_this_read = some (r, m_this_taped, m_this_at, m_this_begun, m_this_token, m_this_value, m_this_opened, m_this_steps, m_this_code0, m_this_read, m_this_s) → K 42 ([] : List Value) [(h_this, ob 9 [.ref h_this_s, .ref h_this_kept, .ref h_this_laid, .int x_this_isKept, .ref h_this_pile, .ref h_this_tape, .int x_this_taped, .ref h_this_letters, .int y_this_at, .int y_this_begun, .int y_this_token, .int y_this_value, .int y_this_opened, .int y_this_steps, .ref h_this_code0, .ref h_this_read, .ref h_this_saved, .ref h_this_plan, .ref h_this_bestPlan, .int x_this_most, .int x_this_many, .int x_this_few, .int x_this_everHome, .ref h_this_offThen, .ref h_this_paidThen, .int x_this_firstFit, .ref h_this_rows, .int x_this_rowMany, .ref h_this_sorts, .ref h_this_sizes, .ref h_this_number, .ref h_this_holds, .ref h_this_heldOne, .ref h_this_trace, .int x_this_traced, .int x_this_own, .int x_this_isParted]), (h_this_code0, ia G 200 g_this_code0), (h_this_letters, ca G 144 f_this_letters), (h_this_read, ia G 24 g_this_read), (h_this_s, ia G 313 f_this_s), (h_this_tape, ia G 200 f_this_tape)] [(0, .ref h_this), (1, .int v1), (2, .int v2)] := by
    intro v1 v2 y_this_at y_this_begun y_this_token y_this_value y_this_opened y_this_steps g_this_code0 g_this_read hf
    unfold f_X9_rules_b42 at hf
    refine hK1 _ _ _ _ (fun H locs ls h hl => ?_)
    refine lv_aload_n hx hb dX9_rules_42 rfl (lv_at hl 0 rfl) ?_
    refine lv_iconst (v := (0 : Int32)) hx hb dX9_rules_43 rfl ?_
    refine r_put (ws' := [(h_this, ob 9 [.ref h_this_s, .ref h_this_kept, .ref h_this_laid, .int x_this_isKept, .ref h_this_pile, .ref h_this_tape, .int (0 : Int32), .ref h_this_letters, .int y_this_at, .int y_this_begun, .int y_this_token, .int y_this_value, .int y_this_opened, .int y_this_steps, .ref h_this_code0, .ref h_this_read, .ref h_this_saved, .ref h_this_plan, .ref h_this_bestPlan, .int x_this_most, .int x_this_many, .int x_this_few, .int x_this_everHome, .ref h_this_offThen, .ref h_this_paidThen, .int x_this_firstFit, .ref h_this_rows, .int x_this_rowMany, .ref h_this_sorts, .ref h_this_sizes, .ref h_this_number, .ref h_this_holds, .ref h_this_heldOne, .ref h_this_trace, .int x_this_traced, .int x_this_own, .int x_this_isParted]), (h_this_code0, ia G 200 g_this_code0), (h_this_letters, ca G 144 f_this_letters), (h_this_read, ia G 24 g_this_read), (h_this_s, ia G 313 f_this_s), (h_this_tape, ia G 200 f_this_tape)]) C h fw_X9_127 0 rfl rfl rfl (Nat.le_of_ble_eq_true rfl) dX9_rules_44 rfl (fun H locs h => ?_)
    refine lv_iload_n hx hb dX9_rules_47 rfl (lv_at hl 2 rfl) ?_
    refine lv_if_ne (tgt := 59) hx hb dX9_rules_48 rfl (fun c7 => ?_) (fun c7 => ?_)
    · replace hf := ifn c7 hf
      refine lv_aload_n hx hb dX9_rules_59 rfl (lv_at hl 0 rfl) ?_
      refine r_get C h fk_X9_9 0 rfl rfl dX9_rules_60 ?_
      refine lv_iconst (v := (5 : Int32)) hx hb dX9_rules_63 rfl ?_
      refine lv_iload_n hx hb dX9_rules_64 rfl (lv_at hl 1 rfl) ?_
      refine r_iastL (ws' := [(h_this, ob 9 [.ref h_this_s, .ref h_this_kept, .ref h_this_laid, .int x_this_isKept, .ref h_this_pile, .ref h_this_tape, .int (0 : Int32), .ref h_this_letters, .int y_this_at, .int y_this_begun, .int y_this_token, .int y_this_value, .int y_this_opened, .int y_this_steps, .ref h_this_code0, .ref h_this_read, .ref h_this_saved, .ref h_this_plan, .ref h_this_bestPlan, .int x_this_most, .int x_this_many, .int x_this_few, .int x_this_everHome, .ref h_this_offThen, .ref h_this_paidThen, .int x_this_firstFit, .ref h_this_rows, .int x_this_rowMany, .ref h_this_sorts, .ref h_this_sizes, .ref h_this_number, .ref h_this_holds, .ref h_this_heldOne, .ref h_this_trace, .int x_this_traced, .int x_this_own, .int x_this_isParted]), (h_this_code0, ia G 200 g_this_code0), (h_this_letters, ca G 144 f_this_letters), (h_this_read, ia G 24 g_this_read), (h_this_s, ia G 313 (upd f_this_s 5 v1)), (h_this_tape, ia G 200 f_this_tape)]) C h 4 rfl (vlit rfl) 5 rfl dX9_rules_65 rfl (fun H locs h => ?_)
      refine lv_iconst (v := (0 : Int32)) hx hb dX9_rules_66 rfl ?_
      refine lv_istore_n (lv' := [(3, .int (0 : Int32)), (0, .ref h_this), (1, .int v1), (2, .int v2)]) hx hb dX9_rules_67 rfl hl (by decide) rfl (fun ls hl => ?_)
      exact hK2 _ _ _ _ (L68 1000 v1 (0 : Int32) (0 : Int32) y_this_at y_this_begun y_this_token y_this_value y_this_opened y_this_steps g_this_code0 g_this_read (upd f_this_s 5 v1) hf) _ _ _ h (lv_sub hl [1, 2, 0] rfl)
    · replace hf := ifp c7 hf
      refine lv_bipush (v := (-100 : Int32)) hx hb dX9_rules_51 rfl ?_
      refine lv_aload_n hx hb dX9_rules_53 rfl (lv_at hl 0 rfl) ?_
      refine r_get C h fk_X9_134 0 rfl rfl dX9_rules_54 ?_
      refine lv_isub hx hb dX9_rules_57 ?_
      cases hf
      exact r_iret C h hr hlk rfl dX9_rules_58
  have L18 : ∀ (n : Nat) (v1 : Int32) (v2 : Int32) (y_this_at : Int32) (y_this_begun : Int32) (y_this_token : Int32) (y_this_value : Int32) (y_this_opened : Int32) (y_this_steps : Int32) (g_this_code0 : Nat → Int32) (g_this_read : Nat → Int32), f_X9_rules_L18 x_this_taped f_this_letters f_this_s f_this_tape n v1 v2 y_this_at y_this_begun y_this_token y_this_value y_this_opened y_this_steps g_this_code0 g_this_read = some (r, m_this_taped, m_this_at, m_this_begun, m_this_token, m_this_value, m_this_opened, m_this_steps, m_this_code0, m_this_read, m_this_s) → K 18 ([] : List Value) [(h_this, ob 9 [.ref h_this_s, .ref h_this_kept, .ref h_this_laid, .int x_this_isKept, .ref h_this_pile, .ref h_this_tape, .int x_this_taped, .ref h_this_letters, .int y_this_at, .int y_this_begun, .int y_this_token, .int y_this_value, .int y_this_opened, .int y_this_steps, .ref h_this_code0, .ref h_this_read, .ref h_this_saved, .ref h_this_plan, .ref h_this_bestPlan, .int x_this_most, .int x_this_many, .int x_this_few, .int x_this_everHome, .ref h_this_offThen, .ref h_this_paidThen, .int x_this_firstFit, .ref h_this_rows, .int x_this_rowMany, .ref h_this_sorts, .ref h_this_sizes, .ref h_this_number, .ref h_this_holds, .ref h_this_heldOne, .ref h_this_trace, .int x_this_traced, .int x_this_own, .int x_this_isParted]), (h_this_code0, ia G 200 g_this_code0), (h_this_letters, ca G 144 f_this_letters), (h_this_read, ia G 24 g_this_read), (h_this_s, ia G 313 f_this_s), (h_this_tape, ia G 200 f_this_tape)] [(0, .ref h_this), (1, .int v1), (2, .int v2)] := by
    intro n
    induction n with
    | zero =>
      intro v1 v2 y_this_at y_this_begun y_this_token y_this_value y_this_opened y_this_steps g_this_code0 g_this_read hf
      replace hf : (none : Option _) = some _ := hf
      cases hf
    | succ n ih =>
      intro v1 v2 y_this_at y_this_begun y_this_token y_this_value y_this_opened y_this_steps g_this_code0 g_this_read hf
      rw [f_X9_rules_L18] at hf
      refine hK1 _ _ _ _ (fun H locs ls h hl => ?_)
      refine lv_iload_n hx hb dX9_rules_18 rfl (lv_at hl 2 rfl) ?_
      refine lv_if_eq (tgt := 42) hx hb dX9_rules_19 rfl (fun c6 => ?_) (fun c6 => ?_)
      · replace hf := ifp c6 hf
        exact hK2 _ _ _ _ (B42 v1 v2 y_this_at y_this_begun y_this_token y_this_value y_this_opened y_this_steps g_this_code0 g_this_read hf) _ _ _ h (lv_sub hl [0, 1, 2] rfl)
      · replace hf := ifn c6 hf
        refine lv_aload_n hx hb dX9_rules_22 rfl (lv_at hl 0 rfl) ?_
        refine r_get C h fk_X9_140 0 rfl rfl dX9_rules_23 ?_
        refine lv_iconst (v := (-1 : Int32)) hx hb dX9_rules_26 rfl ?_
        refine lv_icmp_eq (tgt := 42) hx hb dX9_rules_27 rfl (fun c18 => ?_) (fun c18 => ?_)
        · replace hf := ifp c18 hf
          exact hK2 _ _ _ _ (B42 v1 v2 y_this_at y_this_begun y_this_token y_this_value y_this_opened y_this_steps g_this_code0 g_this_read hf) _ _ _ h (lv_sub hl [0, 1, 2] rfl)
        · replace hf := ifn c18 hf
          refine lv_aload_n hx hb dX9_rules_30 rfl (lv_at hl 0 rfl) ?_
          refine lv_iload_n hx hb dX9_rules_31 rfl (lv_at hl 1 rfl) ?_
          replace hf := bd9_inv hf
          obtain ⟨r19, y20, y21, y22, y23, y24, y25, g26, g27, hc28, hf⟩ := hf
          refine r_ciV (ws' := [(h_this, ob 9 [.ref h_this_s, .ref h_this_kept, .ref h_this_laid, .int x_this_isKept, .ref h_this_pile, .ref h_this_tape, .int x_this_taped, .ref h_this_letters, .int y20, .int y21, .int y22, .int y23, .int y24, .int y25, .ref h_this_code0, .ref h_this_read, .ref h_this_saved, .ref h_this_plan, .ref h_this_bestPlan, .int x_this_most, .int x_this_many, .int x_this_few, .int x_this_everHome, .ref h_this_offThen, .ref h_this_paidThen, .int x_this_firstFit, .ref h_this_rows, .int x_this_rowMany, .ref h_this_sorts, .ref h_this_sizes, .ref h_this_number, .ref h_this_holds, .ref h_this_heldOne, .ref h_this_trace, .int x_this_traced, .int x_this_own, .int x_this_isParted]), (h_this_code0, ia G 200 g26), (h_this_letters, ca G 144 f_this_letters), (h_this_read, ia G 24 g27), (h_this_s, ia G 313 f_this_s), (h_this_tape, ia G 200 f_this_tape)]) C h (c_X9_readsRule hc28) mv_X9_192 rfl 0 rfl [0, 1, 2, 3, 5] rfl rfl rfl rfl rfl hl.1 rfl (Nat.le_of_ble_eq_true rfl) (rok (by decide)) dX9_rules_32 (fun H locs h => ?_)
          refine lv_istore_n (lv' := [(2, .int r19), (0, .ref h_this), (1, .int v1)]) hx hb dX9_rules_35 rfl hl (by decide) rfl (fun ls hl => ?_)
          obtain ⟨t29, et29⟩ : ∃ y : Int32, y = v1 + (1 : Int32) := ⟨_, rfl⟩
          replace hf := lt1_inv et29 hf
          refine lv_iinc (v := t29) (lv' := [(1, .int t29), (2, .int r19), (0, .ref h_this)]) hx hb dX9_rules_36 hl (k := 2) rfl (by rw [et29]; rfl) (by decide) rfl (fun ls hl => ?_)
          refine lv_goto (tgt := 18) hx hb dX9_rules_39 rfl ?_
          exact hK2 _ _ _ _ (ih t29 r19 y20 y21 y22 y23 y24 y25 g26 g27 hf) _ _ _ h (lv_sub hl [2, 0, 1] rfl)
  refine lv_aload_n hx hb dX9_rules_0 rfl (lv_at hl 0 rfl) ?_
  refine lv_iconst (v := (0 : Int32)) hx hb dX9_rules_1 rfl ?_
  refine r_put (ws' := [(h_this, ob 9 [.ref h_this_s, .ref h_this_kept, .ref h_this_laid, .int x_this_isKept, .ref h_this_pile, .ref h_this_tape, .int x_this_taped, .ref h_this_letters, .int (0 : Int32), .int x_this_begun, .int x_this_token, .int x_this_value, .int x_this_opened, .int x_this_steps, .ref h_this_code0, .ref h_this_read, .ref h_this_saved, .ref h_this_plan, .ref h_this_bestPlan, .int x_this_most, .int x_this_many, .int x_this_few, .int x_this_everHome, .ref h_this_offThen, .ref h_this_paidThen, .int x_this_firstFit, .ref h_this_rows, .int x_this_rowMany, .ref h_this_sorts, .ref h_this_sizes, .ref h_this_number, .ref h_this_holds, .ref h_this_heldOne, .ref h_this_trace, .int x_this_traced, .int x_this_own, .int x_this_isParted]), (h_this_code0, ia G 200 f_this_code0), (h_this_letters, ca G 144 f_this_letters), (h_this_read, ia G 24 f_this_read), (h_this_s, ia G 313 f_this_s), (h_this_tape, ia G 200 f_this_tape)]) C h fw_X9_131 0 rfl rfl rfl (Nat.le_of_ble_eq_true rfl) dX9_rules_2 rfl (fun H locs h => ?_)
  refine lv_aload_n hx hb dX9_rules_5 rfl (lv_at hl 0 rfl) ?_
  refine lv_iconst (v := (0 : Int32)) hx hb dX9_rules_6 rfl ?_
  refine r_put (ws' := [(h_this, ob 9 [.ref h_this_s, .ref h_this_kept, .ref h_this_laid, .int x_this_isKept, .ref h_this_pile, .ref h_this_tape, .int x_this_taped, .ref h_this_letters, .int (0 : Int32), .int x_this_begun, .int x_this_token, .int x_this_value, .int x_this_opened, .int (0 : Int32), .ref h_this_code0, .ref h_this_read, .ref h_this_saved, .ref h_this_plan, .ref h_this_bestPlan, .int x_this_most, .int x_this_many, .int x_this_few, .int x_this_everHome, .ref h_this_offThen, .ref h_this_paidThen, .int x_this_firstFit, .ref h_this_rows, .int x_this_rowMany, .ref h_this_sorts, .ref h_this_sizes, .ref h_this_number, .ref h_this_holds, .ref h_this_heldOne, .ref h_this_trace, .int x_this_traced, .int x_this_own, .int x_this_isParted]), (h_this_code0, ia G 200 f_this_code0), (h_this_letters, ca G 144 f_this_letters), (h_this_read, ia G 24 f_this_read), (h_this_s, ia G 313 f_this_s), (h_this_tape, ia G 200 f_this_tape)]) C h fw_X9_158 0 rfl rfl rfl (Nat.le_of_ble_eq_true rfl) dX9_rules_7 rfl (fun H locs h => ?_)
  refine lv_iconst (v := (0 : Int32)) hx hb dX9_rules_10 rfl ?_
  refine lv_istore_n (lv' := [(1, .int (0 : Int32)), (0, .ref h_this)]) hx hb dX9_rules_11 rfl hl (by decide) rfl (fun ls hl => ?_)
  refine lv_aload_n hx hb dX9_rules_12 rfl (lv_at hl 1 rfl) ?_
  replace hf := bd4_inv hf
  obtain ⟨y1, y2, y3, y4, hc5, hf⟩ := hf
  refine r_cvV (ws' := [(h_this, ob 9 [.ref h_this_s, .ref h_this_kept, .ref h_this_laid, .int x_this_isKept, .ref h_this_pile, .ref h_this_tape, .int x_this_taped, .ref h_this_letters, .int y1, .int y2, .int y3, .int y4, .int x_this_opened, .int (0 : Int32), .ref h_this_code0, .ref h_this_read, .ref h_this_saved, .ref h_this_plan, .ref h_this_bestPlan, .int x_this_most, .int x_this_many, .int x_this_few, .int x_this_everHome, .ref h_this_offThen, .ref h_this_paidThen, .int x_this_firstFit, .ref h_this_rows, .int x_this_rowMany, .ref h_this_sorts, .ref h_this_sizes, .ref h_this_number, .ref h_this_holds, .ref h_this_heldOne, .ref h_this_trace, .int x_this_traced, .int x_this_own, .int x_this_isParted]), (h_this_code0, ia G 200 f_this_code0), (h_this_letters, ca G 144 f_this_letters), (h_this_read, ia G 24 f_this_read), (h_this_s, ia G 313 f_this_s), (h_this_tape, ia G 200 f_this_tape)]) C h (c_X9_next hc5) mv_X9_155 rfl 0 rfl [0, 2, 5] rfl rfl rfl rfl rfl hl.1 rfl (Nat.le_of_ble_eq_true rfl) (rok (by decide)) dX9_rules_13 (fun H locs h => ?_)
  refine lv_iconst (v := (1 : Int32)) hx hb dX9_rules_16 rfl ?_
  refine lv_istore_n (lv' := [(2, .int (1 : Int32)), (1, .int (0 : Int32)), (0, .ref h_this)]) hx hb dX9_rules_17 rfl hl (by decide) rfl (fun ls hl => ?_)
  exact hK2 _ _ _ _ (L18 1000 (0 : Int32) (1 : Int32) y1 y2 y3 y4 x_this_opened (0 : Int32) f_this_code0 f_this_read hf) _ _ _ h (lv_sub hl [2, 1, 0] rfl)
def f_X9_restOne_L2 (f_this_s : Nat → Int32) : Nat → Int32 → (Nat → Int32) → Option (Int32 × (Nat → Int32))
  | 0, _, _ => none
  | n + 1, v1, g_this_pile => (if (f_this_s 4) ≤ v1 then some ((-1 : Int32), g_this_pile) else bd2 (f_X9_mayEnter v1 g_this_pile f_this_s) (fun r2 g3 => (if r2 = 0 then lt1 (v1 + (1 : Int32)) (fun (t6 : Int32) => (f_X9_restOne_L2 f_this_s n) t6 g3) else some (v1, g3))))
def f_X9_restOne (f_this_pile : Nat → Int32) (f_this_s : Nat → Int32) : Option (Int32 × (Nat → Int32)) := f_X9_restOne_L2 f_this_s 1000 (0 : Int32) f_this_pile
set_option maxRecDepth 100000 in
set_option maxHeartbeats 4000000 in
theorem c_X9_restOne {l : Launch} {G : Gt} {h_this h_this_s h_this_kept h_this_laid h_this_pile h_this_tape h_this_letters h_this_code0 h_this_read h_this_saved h_this_plan h_this_bestPlan h_this_offThen h_this_paidThen h_this_rows h_this_sorts h_this_sizes h_this_number h_this_holds h_this_heldOne h_this_trace : Nat} {x_this_isKept : Int32} {x_this_taped : Int32} {x_this_at : Int32} {x_this_begun : Int32} {x_this_token : Int32} {x_this_value : Int32} {x_this_opened : Int32} {x_this_steps : Int32} {x_this_most : Int32} {x_this_many : Int32} {x_this_few : Int32} {x_this_everHome : Int32} {x_this_firstFit : Int32} {x_this_rowMany : Int32} {x_this_traced : Int32} {x_this_own : Int32} {x_this_isParted : Int32} {f_this_pile : Nat → Int32} {f_this_s : Nat → Int32} {r : Int32} {m_this_pile : Nat → Int32} (hf : f_X9_restOne f_this_pile f_this_s = some (r, m_this_pile)) : mFi l G yX9_restOne cX9_restOne 2 .int 5 [.ref h_this] [(h_this, ob 9 [.ref h_this_s, .ref h_this_kept, .ref h_this_laid, .int x_this_isKept, .ref h_this_pile, .ref h_this_tape, .int x_this_taped, .ref h_this_letters, .int x_this_at, .int x_this_begun, .int x_this_token, .int x_this_value, .int x_this_opened, .int x_this_steps, .ref h_this_code0, .ref h_this_read, .ref h_this_saved, .ref h_this_plan, .ref h_this_bestPlan, .int x_this_most, .int x_this_many, .int x_this_few, .int x_this_everHome, .ref h_this_offThen, .ref h_this_paidThen, .int x_this_firstFit, .ref h_this_rows, .int x_this_rowMany, .ref h_this_sorts, .ref h_this_sizes, .ref h_this_number, .ref h_this_holds, .ref h_this_heldOne, .ref h_this_trace, .int x_this_traced, .int x_this_own, .int x_this_isParted]), (h_this_pile, ia G 200 f_this_pile), (h_this_s, ia G 313 f_this_s)] r [(h_this, ob 9 [.ref h_this_s, .ref h_this_kept, .ref h_this_laid, .int x_this_isKept, .ref h_this_pile, .ref h_this_tape, .int x_this_taped, .ref h_this_letters, .int x_this_at, .int x_this_begun, .int x_this_token, .int x_this_value, .int x_this_opened, .int x_this_steps, .ref h_this_code0, .ref h_this_read, .ref h_this_saved, .ref h_this_plan, .ref h_this_bestPlan, .int x_this_most, .int x_this_many, .int x_this_few, .int x_this_everHome, .ref h_this_offThen, .ref h_this_paidThen, .int x_this_firstFit, .ref h_this_rows, .int x_this_rowMany, .ref h_this_sorts, .ref h_this_sizes, .ref h_this_number, .ref h_this_holds, .ref h_this_heldOne, .ref h_this_trace, .int x_this_traced, .int x_this_own, .int x_this_isParted]), (h_this_pile, ia G 200 m_this_pile), (h_this_s, ia G 313 f_this_s)] := by
  refine mFi.of (by decide +kernel) (Nat.le_of_ble_eq_true rfl) ?_
  intro p e s m below meth c A C hr hlk h ls hl
  obtain ⟨hx, hb, hml, hown, hts⟩ := id C
  replace hl : lv_has ls 2 [(0, .ref h_this)] := hl
  unfold f_X9_restOne at hf
  refine with_K G A 2 (fun K hK1 hK2 => ?_)
  have L2 : ∀ (n : Nat) (v1 : Int32) (g_this_pile : Nat → Int32), f_X9_restOne_L2 f_this_s n v1 g_this_pile = some (r, m_this_pile) → K 2 ([] : List Value) [(h_this, ob 9 [.ref h_this_s, .ref h_this_kept, .ref h_this_laid, .int x_this_isKept, .ref h_this_pile, .ref h_this_tape, .int x_this_taped, .ref h_this_letters, .int x_this_at, .int x_this_begun, .int x_this_token, .int x_this_value, .int x_this_opened, .int x_this_steps, .ref h_this_code0, .ref h_this_read, .ref h_this_saved, .ref h_this_plan, .ref h_this_bestPlan, .int x_this_most, .int x_this_many, .int x_this_few, .int x_this_everHome, .ref h_this_offThen, .ref h_this_paidThen, .int x_this_firstFit, .ref h_this_rows, .int x_this_rowMany, .ref h_this_sorts, .ref h_this_sizes, .ref h_this_number, .ref h_this_holds, .ref h_this_heldOne, .ref h_this_trace, .int x_this_traced, .int x_this_own, .int x_this_isParted]), (h_this_pile, ia G 200 g_this_pile), (h_this_s, ia G 313 f_this_s)] [(0, .ref h_this), (1, .int v1)] := by
    intro n
    induction n with
    | zero =>
      intro v1 g_this_pile hf
      replace hf : (none : Option _) = some _ := hf
      cases hf
    | succ n ih =>
      intro v1 g_this_pile hf
      rw [f_X9_restOne_L2] at hf
      refine hK1 _ _ _ _ (fun H locs ls h hl => ?_)
      refine lv_iload_n hx hb dX9_restOne_2 rfl (lv_at hl 1 rfl) ?_
      refine lv_aload_n hx hb dX9_restOne_3 rfl (lv_at hl 0 rfl) ?_
      refine r_get C h fk_X9_9 0 rfl rfl dX9_restOne_4 ?_
      refine lv_iconst (v := (4 : Int32)) hx hb dX9_restOne_7 rfl ?_
      refine r_ialdL C h 2 rfl (vlit rfl) 4 rfl dX9_restOne_8 ?_
      refine lv_icmp_ge (tgt := 28) hx hb dX9_restOne_9 rfl (fun c1 => ?_) (fun c1 => ?_)
      · replace hf := ifp c1 hf
        refine lv_iconst (v := (-1 : Int32)) hx hb dX9_restOne_28 rfl ?_
        cases hf
        exact r_iret C h hr hlk rfl dX9_restOne_29
      · replace hf := ifn c1 hf
        refine lv_aload_n hx hb dX9_restOne_12 rfl (lv_at hl 0 rfl) ?_
        refine lv_iload_n hx hb dX9_restOne_13 rfl (lv_at hl 1 rfl) ?_
        replace hf := bd2_inv hf
        obtain ⟨r2, g3, hc4, hf⟩ := hf
        refine r_ciV (ws' := [(h_this, ob 9 [.ref h_this_s, .ref h_this_kept, .ref h_this_laid, .int x_this_isKept, .ref h_this_pile, .ref h_this_tape, .int x_this_taped, .ref h_this_letters, .int x_this_at, .int x_this_begun, .int x_this_token, .int x_this_value, .int x_this_opened, .int x_this_steps, .ref h_this_code0, .ref h_this_read, .ref h_this_saved, .ref h_this_plan, .ref h_this_bestPlan, .int x_this_most, .int x_this_many, .int x_this_few, .int x_this_everHome, .ref h_this_offThen, .ref h_this_paidThen, .int x_this_firstFit, .ref h_this_rows, .int x_this_rowMany, .ref h_this_sorts, .ref h_this_sizes, .ref h_this_number, .ref h_this_holds, .ref h_this_heldOne, .ref h_this_trace, .int x_this_traced, .int x_this_own, .int x_this_isParted]), (h_this_pile, ia G 200 g3), (h_this_s, ia G 313 f_this_s)]) C h (c_X9_mayEnter hc4) mv_X9_205 rfl 0 rfl [0, 1, 2] rfl rfl rfl rfl rfl hl.1 rfl (Nat.le_of_ble_eq_true rfl) (rok (by decide)) dX9_restOne_14 (fun H locs h => ?_)
        refine lv_if_eq (tgt := 22) hx hb dX9_restOne_17 rfl (fun c5 => ?_) (fun c5 => ?_)
        · replace hf := ifp c5 hf
          obtain ⟨t6, et6⟩ : ∃ y : Int32, y = v1 + (1 : Int32) := ⟨_, rfl⟩
          replace hf := lt1_inv et6 hf
          refine lv_iinc (v := t6) (lv' := [(1, .int t6), (0, .ref h_this)]) hx hb dX9_restOne_22 hl (k := 1) rfl (by rw [et6]; rfl) (by decide) rfl (fun ls hl => ?_)
          refine lv_goto (tgt := 2) hx hb dX9_restOne_25 rfl ?_
          exact hK2 _ _ _ _ (ih t6 g3 hf) _ _ _ h (lv_sub hl [1, 0] rfl)
        · replace hf := ifn c5 hf
          refine lv_iload_n hx hb dX9_restOne_20 rfl (lv_at hl 1 rfl) ?_
          cases hf
          exact r_iret C h hr hlk rfl dX9_restOne_21
  refine lv_iconst (v := (0 : Int32)) hx hb dX9_restOne_0 rfl ?_
  refine lv_istore_n (lv' := [(1, .int (0 : Int32)), (0, .ref h_this)]) hx hb dX9_restOne_1 rfl hl (by decide) rfl (fun ls hl => ?_)
  exact hK2 _ _ _ _ (L2 1000 (0 : Int32) f_this_pile hf) _ _ _ h (lv_sub hl [1, 0] rfl)
def f_X9_enters (p0 : Int32) (f_this_s : Nat → Int32) : Option (Int32 × (Nat → Int32)) := bd1 (f_X9_paysOf p0 f_this_s) (fun r1 => (if r1 ≤ 0 then bd1 (f_X9_puts p0 (4 : Int32) (0 : Int32) f_this_s) (fun g4 => some (r1, g4)) else bd1 (f_X9_puts p0 (4 : Int32) (1 : Int32) f_this_s) (fun g6 => some (r1, g6))))
set_option maxRecDepth 100000 in
set_option maxHeartbeats 4000000 in
theorem c_X9_enters {l : Launch} {G : Gt} {h_this h_this_s h_this_kept h_this_laid h_this_pile h_this_tape h_this_letters h_this_code0 h_this_read h_this_saved h_this_plan h_this_bestPlan h_this_offThen h_this_paidThen h_this_rows h_this_sorts h_this_sizes h_this_number h_this_holds h_this_heldOne h_this_trace : Nat} {p0 : Int32} {x_this_isKept : Int32} {x_this_taped : Int32} {x_this_at : Int32} {x_this_begun : Int32} {x_this_token : Int32} {x_this_value : Int32} {x_this_opened : Int32} {x_this_steps : Int32} {x_this_most : Int32} {x_this_many : Int32} {x_this_few : Int32} {x_this_everHome : Int32} {x_this_firstFit : Int32} {x_this_rowMany : Int32} {x_this_traced : Int32} {x_this_own : Int32} {x_this_isParted : Int32} {f_this_s : Nat → Int32} {r : Int32} {m_this_s : Nat → Int32} (hf : f_X9_enters p0 f_this_s = some (r, m_this_s)) : mFi l G yX9_enters cX9_enters 3 .int 4 [.ref h_this, .int p0] [(h_this, ob 9 [.ref h_this_s, .ref h_this_kept, .ref h_this_laid, .int x_this_isKept, .ref h_this_pile, .ref h_this_tape, .int x_this_taped, .ref h_this_letters, .int x_this_at, .int x_this_begun, .int x_this_token, .int x_this_value, .int x_this_opened, .int x_this_steps, .ref h_this_code0, .ref h_this_read, .ref h_this_saved, .ref h_this_plan, .ref h_this_bestPlan, .int x_this_most, .int x_this_many, .int x_this_few, .int x_this_everHome, .ref h_this_offThen, .ref h_this_paidThen, .int x_this_firstFit, .ref h_this_rows, .int x_this_rowMany, .ref h_this_sorts, .ref h_this_sizes, .ref h_this_number, .ref h_this_holds, .ref h_this_heldOne, .ref h_this_trace, .int x_this_traced, .int x_this_own, .int x_this_isParted]), (h_this_s, ia G 313 f_this_s)] r [(h_this, ob 9 [.ref h_this_s, .ref h_this_kept, .ref h_this_laid, .int x_this_isKept, .ref h_this_pile, .ref h_this_tape, .int x_this_taped, .ref h_this_letters, .int x_this_at, .int x_this_begun, .int x_this_token, .int x_this_value, .int x_this_opened, .int x_this_steps, .ref h_this_code0, .ref h_this_read, .ref h_this_saved, .ref h_this_plan, .ref h_this_bestPlan, .int x_this_most, .int x_this_many, .int x_this_few, .int x_this_everHome, .ref h_this_offThen, .ref h_this_paidThen, .int x_this_firstFit, .ref h_this_rows, .int x_this_rowMany, .ref h_this_sorts, .ref h_this_sizes, .ref h_this_number, .ref h_this_holds, .ref h_this_heldOne, .ref h_this_trace, .int x_this_traced, .int x_this_own, .int x_this_isParted]), (h_this_s, ia G 313 m_this_s)] := by
  refine mFi.of (by decide +kernel) (Nat.le_of_ble_eq_true rfl) ?_
  intro p e s m below meth c A C hr hlk h ls hl
  obtain ⟨hx, hb, hml, hown, hts⟩ := id C
  replace hl : lv_has ls 3 [(0, .ref h_this), (1, .int p0)] := hl
  unfold f_X9_enters at hf
  refine lv_aload_n hx hb dX9_enters_0 rfl (lv_at hl 0 rfl) ?_
  refine lv_iload_n hx hb dX9_enters_1 rfl (lv_at hl 1 rfl) ?_
  replace hf := bd1_inv hf
  obtain ⟨r1, hc2, hf⟩ := hf
  refine r_ciV0 C h (c_X9_paysOf hc2) mv_X9_105 rfl 0 rfl [0, 1] rfl rfl hl.1 rfl (Nat.le_of_ble_eq_true rfl) (rok (by decide)) dX9_enters_2 (fun H locs h => ?_)
  refine lv_istore_n (lv' := [(2, .int r1), (0, .ref h_this), (1, .int p0)]) hx hb dX9_enters_5 rfl hl (by decide) rfl (fun ls hl => ?_)
  refine lv_aload_n hx hb dX9_enters_6 rfl (lv_at hl 1 rfl) ?_
  refine lv_iload_n hx hb dX9_enters_7 rfl (lv_at hl 2 rfl) ?_
  refine lv_iconst (v := (4 : Int32)) hx hb dX9_enters_8 rfl ?_
  refine lv_iload_n hx hb dX9_enters_9 rfl (lv_at hl 0 rfl) ?_
  refine lv_if_le (tgt := 17) hx hb dX9_enters_10 rfl (fun c3 => ?_) (fun c3 => ?_)
  · replace hf := ifp c3 hf
    refine lv_iconst (v := (0 : Int32)) hx hb dX9_enters_17 rfl ?_
    replace hf := bd1_inv hf
    obtain ⟨g4, hc5, hf⟩ := hf
    refine r_cvV (ws' := [(h_this, ob 9 [.ref h_this_s, .ref h_this_kept, .ref h_this_laid, .int x_this_isKept, .ref h_this_pile, .ref h_this_tape, .int x_this_taped, .ref h_this_letters, .int x_this_at, .int x_this_begun, .int x_this_token, .int x_this_value, .int x_this_opened, .int x_this_steps, .ref h_this_code0, .ref h_this_read, .ref h_this_saved, .ref h_this_plan, .ref h_this_bestPlan, .int x_this_most, .int x_this_many, .int x_this_few, .int x_this_everHome, .ref h_this_offThen, .ref h_this_paidThen, .int x_this_firstFit, .ref h_this_rows, .int x_this_rowMany, .ref h_this_sorts, .ref h_this_sizes, .ref h_this_number, .ref h_this_holds, .ref h_this_heldOne, .ref h_this_trace, .int x_this_traced, .int x_this_own, .int x_this_isParted]), (h_this_s, ia G 313 g4)]) C h (c_X9_puts hc5) mv_X9_195 rfl 0 rfl [0, 1] rfl rfl rfl rfl rfl hl.1 rfl (Nat.le_of_ble_eq_true rfl) (rok (by decide)) dX9_enters_18 (fun H locs h => ?_)
    refine lv_iload_n hx hb dX9_enters_21 rfl (lv_at hl 0 rfl) ?_
    cases hf
    exact r_iret C h hr hlk rfl dX9_enters_22
  · replace hf := ifn c3 hf
    refine lv_iconst (v := (1 : Int32)) hx hb dX9_enters_13 rfl ?_
    refine lv_goto (tgt := 18) hx hb dX9_enters_14 rfl ?_
    replace hf := bd1_inv hf
    obtain ⟨g6, hc7, hf⟩ := hf
    refine r_cvV (ws' := [(h_this, ob 9 [.ref h_this_s, .ref h_this_kept, .ref h_this_laid, .int x_this_isKept, .ref h_this_pile, .ref h_this_tape, .int x_this_taped, .ref h_this_letters, .int x_this_at, .int x_this_begun, .int x_this_token, .int x_this_value, .int x_this_opened, .int x_this_steps, .ref h_this_code0, .ref h_this_read, .ref h_this_saved, .ref h_this_plan, .ref h_this_bestPlan, .int x_this_most, .int x_this_many, .int x_this_few, .int x_this_everHome, .ref h_this_offThen, .ref h_this_paidThen, .int x_this_firstFit, .ref h_this_rows, .int x_this_rowMany, .ref h_this_sorts, .ref h_this_sizes, .ref h_this_number, .ref h_this_holds, .ref h_this_heldOne, .ref h_this_trace, .int x_this_traced, .int x_this_own, .int x_this_isParted]), (h_this_s, ia G 313 g6)]) C h (c_X9_puts hc7) mv_X9_195 rfl 0 rfl [0, 1] rfl rfl rfl rfl rfl hl.1 rfl (Nat.le_of_ble_eq_true rfl) (rok (by decide)) dX9_enters_18 (fun H locs h => ?_)
    refine lv_iload_n hx hb dX9_enters_21 rfl (lv_at hl 0 rfl) ?_
    cases hf
    exact r_iret C h hr hlk rfl dX9_enters_22
def f_X9_held (p0 : Int32) (p1 : Int32) : Option (Int32) := (if 0 ≤ p0 then (if p0 ≤ p1 then some p0 else some p1) else some (0 : Int32))
set_option maxRecDepth 100000 in
set_option maxHeartbeats 4000000 in
theorem c_X9_held {l : Launch} {G : Gt} {p0 : Int32} {p1 : Int32} {r : Int32} (hf : f_X9_held p0 p1 = some r) : mFi l G yX9_held cX9_held 2 .int 0 [.int p0, .int p1] ([] : va_W) r ([] : va_W) := by
  refine mFi.of (by decide +kernel) (Nat.le_of_ble_eq_true rfl) ?_
  intro p e s m below meth c A C hr hlk h ls hl
  obtain ⟨hx, hb, hml, hown, hts⟩ := id C
  replace hl : lv_has ls 2 [(0, .int p0), (1, .int p1)] := hl
  unfold f_X9_held at hf
  refine lv_iload_n hx hb dX9_held_0 rfl (lv_at hl 0 rfl) ?_
  refine lv_if_ge (tgt := 8) hx hb dX9_held_1 rfl (fun c1 => ?_) (fun c1 => ?_)
  · replace hf := ifp c1 hf
    refine lv_iload_n hx hb dX9_held_8 rfl (lv_at hl 0 rfl) ?_
    refine lv_iload_n hx hb dX9_held_9 rfl (lv_at hl 1 rfl) ?_
    refine lv_icmp_le (tgt := 17) hx hb dX9_held_10 rfl (fun c2 => ?_) (fun c2 => ?_)
    · replace hf := ifp c2 hf
      refine lv_iload_n hx hb dX9_held_17 rfl (lv_at hl 0 rfl) ?_
      cases hf
      exact r_iret C h hr hlk rfl dX9_held_18
    · replace hf := ifn c2 hf
      refine lv_iload_n hx hb dX9_held_13 rfl (lv_at hl 1 rfl) ?_
      refine lv_goto (tgt := 18) hx hb dX9_held_14 rfl ?_
      cases hf
      exact r_iret C h hr hlk rfl dX9_held_18
  · replace hf := ifn c1 hf
    refine lv_iconst (v := (0 : Int32)) hx hb dX9_held_4 rfl ?_
    refine lv_goto (tgt := 18) hx hb dX9_held_5 rfl ?_
    cases hf
    exact r_iret C h hr hlk rfl dX9_held_18
def f_X9_meets (p0 : Int32) (f_this_pile : Nat → Int32) (f_this_s : Nat → Int32) : Option (Int32 × (Nat → Int32) × (Nat → Int32)) := bd2 (f_X9_willOf p0 f_this_pile f_this_s) (fun r1 g2 => bd1 (f_X9_get p0 (4 : Int32) f_this_s) (fun r4 => (if r4 = (1 : Int32) then some ((0 : Int32), g2, f_this_s) else (if r1 = (1 : Int32) then some ((0 : Int32), g2, f_this_s) else (if r1 = 0 then bd2 (f_X9_enters p0 f_this_s) (fun r18 g19 => some (r18, g2, g19)) else bd1 (f_X9_get p0 (1 : Int32) f_this_s) (fun r9 => bd1 (f_X9_held (r9 + (12 : Int32)) (99 : Int32)) (fun r11 => bd1 (f_X9_puts p0 (1 : Int32) r11 f_this_s) (fun g13 => bd1 (f_X9_lightNow g13) (fun r15 => (if (r15 - r15 / (4 : Int32) * (4 : Int32)) ≤ (1 : Int32) then some ((0 : Int32), g2, g13) else some ((1 : Int32), g2, g13)))))))))))
set_option maxRecDepth 100000 in
set_option maxHeartbeats 4000000 in
theorem c_X9_meets {l : Launch} {G : Gt} {h_this h_this_s h_this_kept h_this_laid h_this_pile h_this_tape h_this_letters h_this_code0 h_this_read h_this_saved h_this_plan h_this_bestPlan h_this_offThen h_this_paidThen h_this_rows h_this_sorts h_this_sizes h_this_number h_this_holds h_this_heldOne h_this_trace : Nat} {p0 : Int32} {x_this_isKept : Int32} {x_this_taped : Int32} {x_this_at : Int32} {x_this_begun : Int32} {x_this_token : Int32} {x_this_value : Int32} {x_this_opened : Int32} {x_this_steps : Int32} {x_this_most : Int32} {x_this_many : Int32} {x_this_few : Int32} {x_this_everHome : Int32} {x_this_firstFit : Int32} {x_this_rowMany : Int32} {x_this_traced : Int32} {x_this_own : Int32} {x_this_isParted : Int32} {f_this_pile : Nat → Int32} {f_this_s : Nat → Int32} {r : Int32} {m_this_pile : Nat → Int32} {m_this_s : Nat → Int32} (hf : f_X9_meets p0 f_this_pile f_this_s = some (r, m_this_pile, m_this_s)) : mFi l G yX9_meets cX9_meets 3 .int 5 [.ref h_this, .int p0] [(h_this, ob 9 [.ref h_this_s, .ref h_this_kept, .ref h_this_laid, .int x_this_isKept, .ref h_this_pile, .ref h_this_tape, .int x_this_taped, .ref h_this_letters, .int x_this_at, .int x_this_begun, .int x_this_token, .int x_this_value, .int x_this_opened, .int x_this_steps, .ref h_this_code0, .ref h_this_read, .ref h_this_saved, .ref h_this_plan, .ref h_this_bestPlan, .int x_this_most, .int x_this_many, .int x_this_few, .int x_this_everHome, .ref h_this_offThen, .ref h_this_paidThen, .int x_this_firstFit, .ref h_this_rows, .int x_this_rowMany, .ref h_this_sorts, .ref h_this_sizes, .ref h_this_number, .ref h_this_holds, .ref h_this_heldOne, .ref h_this_trace, .int x_this_traced, .int x_this_own, .int x_this_isParted]), (h_this_pile, ia G 200 f_this_pile), (h_this_s, ia G 313 f_this_s)] r [(h_this, ob 9 [.ref h_this_s, .ref h_this_kept, .ref h_this_laid, .int x_this_isKept, .ref h_this_pile, .ref h_this_tape, .int x_this_taped, .ref h_this_letters, .int x_this_at, .int x_this_begun, .int x_this_token, .int x_this_value, .int x_this_opened, .int x_this_steps, .ref h_this_code0, .ref h_this_read, .ref h_this_saved, .ref h_this_plan, .ref h_this_bestPlan, .int x_this_most, .int x_this_many, .int x_this_few, .int x_this_everHome, .ref h_this_offThen, .ref h_this_paidThen, .int x_this_firstFit, .ref h_this_rows, .int x_this_rowMany, .ref h_this_sorts, .ref h_this_sizes, .ref h_this_number, .ref h_this_holds, .ref h_this_heldOne, .ref h_this_trace, .int x_this_traced, .int x_this_own, .int x_this_isParted]), (h_this_pile, ia G 200 m_this_pile), (h_this_s, ia G 313 m_this_s)] := by
  refine mFi.of (by decide +kernel) (Nat.le_of_ble_eq_true rfl) ?_
  intro p e s m below meth c A C hr hlk h ls hl
  obtain ⟨hx, hb, hml, hown, hts⟩ := id C
  replace hl : lv_has ls 3 [(0, .ref h_this), (1, .int p0)] := hl
  unfold f_X9_meets at hf
  refine lv_aload_n hx hb dX9_meets_0 rfl (lv_at hl 0 rfl) ?_
  refine lv_iload_n hx hb dX9_meets_1 rfl (lv_at hl 1 rfl) ?_
  replace hf := bd2_inv hf
  obtain ⟨r1, g2, hc3, hf⟩ := hf
  refine r_ciV (ws' := [(h_this, ob 9 [.ref h_this_s, .ref h_this_kept, .ref h_this_laid, .int x_this_isKept, .ref h_this_pile, .ref h_this_tape, .int x_this_taped, .ref h_this_letters, .int x_this_at, .int x_this_begun, .int x_this_token, .int x_this_value, .int x_this_opened, .int x_this_steps, .ref h_this_code0, .ref h_this_read, .ref h_this_saved, .ref h_this_plan, .ref h_this_bestPlan, .int x_this_most, .int x_this_many, .int x_this_few, .int x_this_everHome, .ref h_this_offThen, .ref h_this_paidThen, .int x_this_firstFit, .ref h_this_rows, .int x_this_rowMany, .ref h_this_sorts, .ref h_this_sizes, .ref h_this_number, .ref h_this_holds, .ref h_this_heldOne, .ref h_this_trace, .int x_this_traced, .int x_this_own, .int x_this_isParted]), (h_this_pile, ia G 200 g2), (h_this_s, ia G 313 f_this_s)]) C h (c_X9_willOf hc3) mv_X9_102 rfl 0 rfl [0, 1, 2] rfl rfl rfl rfl rfl hl.1 rfl (Nat.le_of_ble_eq_true rfl) (rok (by decide)) dX9_meets_2 (fun H locs h => ?_)
  refine lv_istore_n (lv' := [(2, .int r1), (0, .ref h_this), (1, .int p0)]) hx hb dX9_meets_5 rfl hl (by decide) rfl (fun ls hl => ?_)
  refine lv_aload_n hx hb dX9_meets_6 rfl (lv_at hl 1 rfl) ?_
  refine lv_iload_n hx hb dX9_meets_7 rfl (lv_at hl 2 rfl) ?_
  refine lv_iconst (v := (4 : Int32)) hx hb dX9_meets_8 rfl ?_
  replace hf := bd1_inv hf
  obtain ⟨r4, hc5, hf⟩ := hf
  refine r_ciV0 C h (c_X9_get hc5) mv_X9_79 rfl 0 rfl [0, 2] rfl rfl hl.1 rfl (Nat.le_of_ble_eq_true rfl) (rok (by decide)) dX9_meets_9 (fun H locs h => ?_)
  refine lv_iconst (v := (1 : Int32)) hx hb dX9_meets_12 rfl ?_
  refine lv_icmp_eq (tgt := 21) hx hb dX9_meets_13 rfl (fun c6 => ?_) (fun c6 => ?_)
  · replace hf := ifp c6 hf
    refine lv_iconst (v := (0 : Int32)) hx hb dX9_meets_21 rfl ?_
    cases hf
    exact r_iret C h hr hlk rfl dX9_meets_22
  · replace hf := ifn c6 hf
    refine lv_iload_n hx hb dX9_meets_16 rfl (lv_at hl 0 rfl) ?_
    refine lv_iconst (v := (1 : Int32)) hx hb dX9_meets_17 rfl ?_
    refine lv_icmp_ne (tgt := 23) hx hb dX9_meets_18 rfl (fun c7 => ?_) (fun c7 => ?_)
    · replace hf := ifn c7 hf
      refine lv_iload_n hx hb dX9_meets_23 rfl (lv_at hl 0 rfl) ?_
      refine lv_if_ne (tgt := 33) hx hb dX9_meets_24 rfl (fun c8 => ?_) (fun c8 => ?_)
      · replace hf := ifn c8 hf
        refine lv_aload_n hx hb dX9_meets_33 rfl (lv_at hl 1 rfl) ?_
        refine lv_iload_n hx hb dX9_meets_34 rfl (lv_at hl 2 rfl) ?_
        refine lv_iconst (v := (1 : Int32)) hx hb dX9_meets_35 rfl ?_
        refine lv_aload_n hx hb dX9_meets_36 rfl (lv_at hl 1 rfl) ?_
        refine lv_iload_n hx hb dX9_meets_37 rfl (lv_at hl 2 rfl) ?_
        refine lv_iconst (v := (1 : Int32)) hx hb dX9_meets_38 rfl ?_
        replace hf := bd1_inv hf
        obtain ⟨r9, hc10, hf⟩ := hf
        refine r_ciV0 C h (c_X9_get hc10) mv_X9_79 rfl 0 rfl [0, 2] rfl rfl hl.1 rfl (Nat.le_of_ble_eq_true rfl) (rok (by decide)) dX9_meets_39 (fun H locs h => ?_)
        refine lv_bipush (v := (12 : Int32)) hx hb dX9_meets_42 rfl ?_
        refine lv_iadd hx hb dX9_meets_44 ?_
        refine lv_bipush (v := (99 : Int32)) hx hb dX9_meets_45 rfl ?_
        replace hf := bd1_inv hf
        obtain ⟨r11, hc12, hf⟩ := hf
        refine r_ciS0 C h (c_X9_held hc12) ms_X9_202 rfl [] rfl rfl hl.1 rfl (Nat.le_of_ble_eq_true rfl) (rok (by decide)) dX9_meets_47 (fun H locs h => ?_)
        replace hf := bd1_inv hf
        obtain ⟨g13, hc14, hf⟩ := hf
        refine r_cvV (ws' := [(h_this, ob 9 [.ref h_this_s, .ref h_this_kept, .ref h_this_laid, .int x_this_isKept, .ref h_this_pile, .ref h_this_tape, .int x_this_taped, .ref h_this_letters, .int x_this_at, .int x_this_begun, .int x_this_token, .int x_this_value, .int x_this_opened, .int x_this_steps, .ref h_this_code0, .ref h_this_read, .ref h_this_saved, .ref h_this_plan, .ref h_this_bestPlan, .int x_this_most, .int x_this_many, .int x_this_few, .int x_this_everHome, .ref h_this_offThen, .ref h_this_paidThen, .int x_this_firstFit, .ref h_this_rows, .int x_this_rowMany, .ref h_this_sorts, .ref h_this_sizes, .ref h_this_number, .ref h_this_holds, .ref h_this_heldOne, .ref h_this_trace, .int x_this_traced, .int x_this_own, .int x_this_isParted]), (h_this_pile, ia G 200 g2), (h_this_s, ia G 313 g13)]) C h (c_X9_puts hc14) mv_X9_195 rfl 0 rfl [0, 2] rfl rfl rfl rfl rfl hl.1 rfl (Nat.le_of_ble_eq_true rfl) (rok (by decide)) dX9_meets_50 (fun H locs h => ?_)
        refine lv_aload_n hx hb dX9_meets_53 rfl (lv_at hl 1 rfl) ?_
        replace hf := bd1_inv hf
        obtain ⟨r15, hc16, hf⟩ := hf
        refine r_ciV0 C h (c_X9_lightNow hc16) mv_X9_83 rfl 0 rfl [0, 2] rfl rfl hl.1 rfl (Nat.le_of_ble_eq_true rfl) (rok (by decide)) dX9_meets_54 (fun H locs h => ?_)
        refine lv_iconst (v := (4 : Int32)) hx hb dX9_meets_57 rfl ?_
        refine lv_irem hx hb dX9_meets_58 (by decide) ?_
        refine lv_iconst (v := (1 : Int32)) hx hb dX9_meets_59 rfl ?_
        refine lv_icmp_le (tgt := 67) hx hb dX9_meets_60 rfl (fun c17 => ?_) (fun c17 => ?_)
        · replace hf := ifp c17 hf
          refine lv_iconst (v := (0 : Int32)) hx hb dX9_meets_67 rfl ?_
          cases hf
          exact r_iret C h hr hlk rfl dX9_meets_68
        · replace hf := ifn c17 hf
          refine lv_iconst (v := (1 : Int32)) hx hb dX9_meets_63 rfl ?_
          refine lv_goto (tgt := 68) hx hb dX9_meets_64 rfl ?_
          cases hf
          exact r_iret C h hr hlk rfl dX9_meets_68
      · replace hf := ifp c8 hf
        refine lv_aload_n hx hb dX9_meets_27 rfl (lv_at hl 1 rfl) ?_
        refine lv_iload_n hx hb dX9_meets_28 rfl (lv_at hl 2 rfl) ?_
        replace hf := bd2_inv hf
        obtain ⟨r18, g19, hc20, hf⟩ := hf
        refine r_ciV (ws' := [(h_this, ob 9 [.ref h_this_s, .ref h_this_kept, .ref h_this_laid, .int x_this_isKept, .ref h_this_pile, .ref h_this_tape, .int x_this_taped, .ref h_this_letters, .int x_this_at, .int x_this_begun, .int x_this_token, .int x_this_value, .int x_this_opened, .int x_this_steps, .ref h_this_code0, .ref h_this_read, .ref h_this_saved, .ref h_this_plan, .ref h_this_bestPlan, .int x_this_most, .int x_this_many, .int x_this_few, .int x_this_everHome, .ref h_this_offThen, .ref h_this_paidThen, .int x_this_firstFit, .ref h_this_rows, .int x_this_rowMany, .ref h_this_sorts, .ref h_this_sizes, .ref h_this_number, .ref h_this_holds, .ref h_this_heldOne, .ref h_this_trace, .int x_this_traced, .int x_this_own, .int x_this_isParted]), (h_this_pile, ia G 200 g2), (h_this_s, ia G 313 g19)]) C h (c_X9_enters hc20) mv_X9_199 rfl 0 rfl [0, 2] rfl rfl rfl rfl rfl hl.1 rfl (Nat.le_of_ble_eq_true rfl) (rok (by decide)) dX9_meets_29 (fun H locs h => ?_)
        cases hf
        exact r_iret C h hr hlk rfl dX9_meets_32
    · replace hf := ifp c7 hf
      refine lv_iconst (v := (0 : Int32)) hx hb dX9_meets_21 rfl ?_
      cases hf
      exact r_iret C h hr hlk rfl dX9_meets_22
def f_X9_goesBy_b136 (s0 : Int32) (s1 : Int32) (g_this_pile : Nat → Int32) (g_this_s : Nat → Int32) : Option (Int32 × (Nat → Int32) × (Nat → Int32)) := lt1 (s0 + s1) (fun (t8 : Int32) => lt1 ((g_this_s 0) + (1 : Int32)) (fun (t9 : Int32) => lt1 (((upd g_this_s 0 t9) 2) + t8) (fun (t10 : Int32) => some (t8, g_this_pile, upd (upd g_this_s 0 t9) 2 t10))))
def f_X9_goesBy_b115 (v3 : Int32) (v4 : Int32) (g_this_pile : Nat → Int32) (g_this_s : Nat → Int32) : Option (Int32 × (Nat → Int32) × (Nat → Int32)) := bd1 (f_X9_onRock g_this_s) (fun r4 => lt1 (v4 - r4) (fun (t6 : Int32) => (if t6 ≤ 0 then f_X9_goesBy_b136 v3 (0 : Int32) g_this_pile g_this_s else f_X9_goesBy_b136 v3 t6 g_this_pile g_this_s)))
def f_X9_goesBy_L35 : Nat → Int32 → Int32 → Int32 → (Nat → Int32) → (Nat → Int32) → Option (Int32 × (Nat → Int32) × (Nat → Int32))
  | 0, _, _, _, _, _ => none
  | n + 1, v3, v4, v5, g_this_pile, g_this_s => (if (g_this_s 4) ≤ v5 then f_X9_goesBy_b115 v3 v4 g_this_pile g_this_s else bd1 (f_X9_get v5 (4 : Int32) g_this_s) (fun r11 => lt1 (v4 + r11) (fun (t13 : Int32) => bd1 (f_X9_get v5 (1 : Int32) g_this_s) (fun r14 => bd1 (f_X9_nearsOf v5 g_this_s) (fun r16 => bd1 (f_X9_held (r14 - r16) (99 : Int32)) (fun r18 => bd1 (f_X9_get v5 (4 : Int32) g_this_s) (fun r20 => (if r20 = (1 : Int32) then bd1 (f_X9_get v5 (1 : Int32) g_this_s) (fun r26 => bd1 (f_X9_puts v5 (1 : Int32) r26 g_this_s) (fun g28 => lt1 (v5 + (1 : Int32)) (fun (t30 : Int32) => (f_X9_goesBy_L35 n) v3 t13 t30 g_this_pile g28))) else bd1 (f_X9_puts v5 (1 : Int32) r18 g_this_s) (fun g23 => lt1 (v5 + (1 : Int32)) (fun (t25 : Int32) => (f_X9_goesBy_L35 n) v3 t13 t25 g_this_pile g23))))))))))
def f_X9_goesBy_b28 (s0 : Int32) (g_this_pile : Nat → Int32) (g_this_s : Nat → Int32) : Option (Int32 × (Nat → Int32) × (Nat → Int32)) := f_X9_goesBy_L35 1000 s0 (0 : Int32) (0 : Int32) g_this_pile g_this_s
def f_X9_goesBy_b14 (f_this_s : Nat → Int32) (s0 : Int32) (g_this_pile : Nat → Int32) : Option (Int32 × (Nat → Int32) × (Nat → Int32)) := (if s0 < 0 then f_X9_goesBy_b28 (0 : Int32) g_this_pile f_this_s else bd3 (f_X9_meets s0 g_this_pile f_this_s) (fun r31 g32 g33 => f_X9_goesBy_b28 r31 g32 g33))
def f_X9_goesBy (p0 : Int32) (f_this_pile : Nat → Int32) (f_this_s : Nat → Int32) : Option (Int32 × (Nat → Int32) × (Nat → Int32)) := (if 0 ≤ p0 then f_X9_goesBy_b14 f_this_s (p0 - (1 : Int32)) f_this_pile else bd2 (f_X9_restOne f_this_pile f_this_s) (fun r35 g36 => f_X9_goesBy_b14 f_this_s r35 g36))
set_option maxRecDepth 100000 in
set_option maxHeartbeats 4000000 in
theorem c_X9_goesBy {l : Launch} {G : Gt} {h_this h_this_s h_this_kept h_this_laid h_this_pile h_this_tape h_this_letters h_this_code0 h_this_read h_this_saved h_this_plan h_this_bestPlan h_this_offThen h_this_paidThen h_this_rows h_this_sorts h_this_sizes h_this_number h_this_holds h_this_heldOne h_this_trace : Nat} {p0 : Int32} {x_this_isKept : Int32} {x_this_taped : Int32} {x_this_at : Int32} {x_this_begun : Int32} {x_this_token : Int32} {x_this_value : Int32} {x_this_opened : Int32} {x_this_steps : Int32} {x_this_most : Int32} {x_this_many : Int32} {x_this_few : Int32} {x_this_everHome : Int32} {x_this_firstFit : Int32} {x_this_rowMany : Int32} {x_this_traced : Int32} {x_this_own : Int32} {x_this_isParted : Int32} {f_this_pile : Nat → Int32} {f_this_s : Nat → Int32} {r : Int32} {m_this_pile : Nat → Int32} {m_this_s : Nat → Int32} (hf : f_X9_goesBy p0 f_this_pile f_this_s = some (r, m_this_pile, m_this_s)) : mFi l G yX9_goesBy cX9_goesBy 7 .int 6 [.ref h_this, .int p0] [(h_this, ob 9 [.ref h_this_s, .ref h_this_kept, .ref h_this_laid, .int x_this_isKept, .ref h_this_pile, .ref h_this_tape, .int x_this_taped, .ref h_this_letters, .int x_this_at, .int x_this_begun, .int x_this_token, .int x_this_value, .int x_this_opened, .int x_this_steps, .ref h_this_code0, .ref h_this_read, .ref h_this_saved, .ref h_this_plan, .ref h_this_bestPlan, .int x_this_most, .int x_this_many, .int x_this_few, .int x_this_everHome, .ref h_this_offThen, .ref h_this_paidThen, .int x_this_firstFit, .ref h_this_rows, .int x_this_rowMany, .ref h_this_sorts, .ref h_this_sizes, .ref h_this_number, .ref h_this_holds, .ref h_this_heldOne, .ref h_this_trace, .int x_this_traced, .int x_this_own, .int x_this_isParted]), (h_this_pile, ia G 200 f_this_pile), (h_this_s, ia G 313 f_this_s)] r [(h_this, ob 9 [.ref h_this_s, .ref h_this_kept, .ref h_this_laid, .int x_this_isKept, .ref h_this_pile, .ref h_this_tape, .int x_this_taped, .ref h_this_letters, .int x_this_at, .int x_this_begun, .int x_this_token, .int x_this_value, .int x_this_opened, .int x_this_steps, .ref h_this_code0, .ref h_this_read, .ref h_this_saved, .ref h_this_plan, .ref h_this_bestPlan, .int x_this_most, .int x_this_many, .int x_this_few, .int x_this_everHome, .ref h_this_offThen, .ref h_this_paidThen, .int x_this_firstFit, .ref h_this_rows, .int x_this_rowMany, .ref h_this_sorts, .ref h_this_sizes, .ref h_this_number, .ref h_this_holds, .ref h_this_heldOne, .ref h_this_trace, .int x_this_traced, .int x_this_own, .int x_this_isParted]), (h_this_pile, ia G 200 m_this_pile), (h_this_s, ia G 313 m_this_s)] := by
  refine mFi.of (by decide +kernel) (Nat.le_of_ble_eq_true rfl) ?_
  intro p e s m below meth c A C hr hlk h ls hl
  obtain ⟨hx, hb, hml, hown, hts⟩ := id C
  replace hl : lv_has ls 7 [(0, .ref h_this), (1, .int p0)] := hl
  unfold f_X9_goesBy at hf
  refine with_K G A 7 (fun K hK1 hK2 => ?_)
  have B136 : ∀ (s0 : Int32) (s1 : Int32) (g_this_pile : Nat → Int32) (g_this_s : Nat → Int32), f_X9_goesBy_b136 s0 s1 g_this_pile g_this_s = some (r, m_this_pile, m_this_s) → K 136 [.int s1, .int s0] [(h_this, ob 9 [.ref h_this_s, .ref h_this_kept, .ref h_this_laid, .int x_this_isKept, .ref h_this_pile, .ref h_this_tape, .int x_this_taped, .ref h_this_letters, .int x_this_at, .int x_this_begun, .int x_this_token, .int x_this_value, .int x_this_opened, .int x_this_steps, .ref h_this_code0, .ref h_this_read, .ref h_this_saved, .ref h_this_plan, .ref h_this_bestPlan, .int x_this_most, .int x_this_many, .int x_this_few, .int x_this_everHome, .ref h_this_offThen, .ref h_this_paidThen, .int x_this_firstFit, .ref h_this_rows, .int x_this_rowMany, .ref h_this_sorts, .ref h_this_sizes, .ref h_this_number, .ref h_this_holds, .ref h_this_heldOne, .ref h_this_trace, .int x_this_traced, .int x_this_own, .int x_this_isParted]), (h_this_pile, ia G 200 g_this_pile), (h_this_s, ia G 313 g_this_s)] [(0, .ref h_this)] := by
    intro s0 s1 g_this_pile g_this_s hf
    unfold f_X9_goesBy_b136 at hf
    refine hK1 _ _ _ _ (fun H locs ls h hl => ?_)
    refine lv_iadd hx hb dX9_goesBy_136 ?_
    refine lv_topi (fun t8 et8 => ?_)
    replace hf := lt1_inv et8 hf
    refine lv_istore_n (lv' := [(3, .int t8), (0, .ref h_this)]) hx hb dX9_goesBy_137 rfl hl (by decide) rfl (fun ls hl => ?_)
    refine lv_aload_n hx hb dX9_goesBy_138 rfl (lv_at hl 1 rfl) ?_
    refine r_get C h fk_X9_9 0 rfl rfl dX9_goesBy_139 ?_
    refine lv_iconst (v := (0 : Int32)) hx hb dX9_goesBy_142 rfl ?_
    refine lv_dup2_11 hx hb dX9_goesBy_143 rfl rfl ?_
    refine r_ialdL C h 2 rfl (vlit rfl) 0 rfl dX9_goesBy_144 ?_
    refine lv_iconst (v := (1 : Int32)) hx hb dX9_goesBy_145 rfl ?_
    refine lv_iadd hx hb dX9_goesBy_146 ?_
    refine lv_topi (fun t9 et9 => ?_)
    replace hf := lt1_inv et9 hf
    refine r_iastL (ws' := [(h_this, ob 9 [.ref h_this_s, .ref h_this_kept, .ref h_this_laid, .int x_this_isKept, .ref h_this_pile, .ref h_this_tape, .int x_this_taped, .ref h_this_letters, .int x_this_at, .int x_this_begun, .int x_this_token, .int x_this_value, .int x_this_opened, .int x_this_steps, .ref h_this_code0, .ref h_this_read, .ref h_this_saved, .ref h_this_plan, .ref h_this_bestPlan, .int x_this_most, .int x_this_many, .int x_this_few, .int x_this_everHome, .ref h_this_offThen, .ref h_this_paidThen, .int x_this_firstFit, .ref h_this_rows, .int x_this_rowMany, .ref h_this_sorts, .ref h_this_sizes, .ref h_this_number, .ref h_this_holds, .ref h_this_heldOne, .ref h_this_trace, .int x_this_traced, .int x_this_own, .int x_this_isParted]), (h_this_pile, ia G 200 g_this_pile), (h_this_s, ia G 313 (upd g_this_s 0 t9))]) C h 2 rfl (vlit rfl) 0 rfl dX9_goesBy_147 rfl (fun H locs h => ?_)
    refine lv_aload_n hx hb dX9_goesBy_148 rfl (lv_at hl 1 rfl) ?_
    refine r_get C h fk_X9_9 0 rfl rfl dX9_goesBy_149 ?_
    refine lv_iconst (v := (2 : Int32)) hx hb dX9_goesBy_152 rfl ?_
    refine lv_dup2_11 hx hb dX9_goesBy_153 rfl rfl ?_
    refine r_ialdL C h 2 rfl (vlit rfl) 2 rfl dX9_goesBy_154 ?_
    refine lv_iload_n hx hb dX9_goesBy_155 rfl (lv_at hl 0 rfl) ?_
    refine lv_iadd hx hb dX9_goesBy_156 ?_
    refine lv_topi (fun t10 et10 => ?_)
    replace hf := lt1_inv et10 hf
    refine r_iastL (ws' := [(h_this, ob 9 [.ref h_this_s, .ref h_this_kept, .ref h_this_laid, .int x_this_isKept, .ref h_this_pile, .ref h_this_tape, .int x_this_taped, .ref h_this_letters, .int x_this_at, .int x_this_begun, .int x_this_token, .int x_this_value, .int x_this_opened, .int x_this_steps, .ref h_this_code0, .ref h_this_read, .ref h_this_saved, .ref h_this_plan, .ref h_this_bestPlan, .int x_this_most, .int x_this_many, .int x_this_few, .int x_this_everHome, .ref h_this_offThen, .ref h_this_paidThen, .int x_this_firstFit, .ref h_this_rows, .int x_this_rowMany, .ref h_this_sorts, .ref h_this_sizes, .ref h_this_number, .ref h_this_holds, .ref h_this_heldOne, .ref h_this_trace, .int x_this_traced, .int x_this_own, .int x_this_isParted]), (h_this_pile, ia G 200 g_this_pile), (h_this_s, ia G 313 (upd (upd g_this_s 0 t9) 2 t10))]) C h 2 rfl (vlit rfl) 2 rfl dX9_goesBy_157 rfl (fun H locs h => ?_)
    refine lv_iload_n hx hb dX9_goesBy_158 rfl (lv_at hl 0 rfl) ?_
    cases hf
    exact r_iret C h hr hlk rfl dX9_goesBy_159
  have B115 : ∀ (v3 : Int32) (v4 : Int32) (g_this_pile : Nat → Int32) (g_this_s : Nat → Int32), f_X9_goesBy_b115 v3 v4 g_this_pile g_this_s = some (r, m_this_pile, m_this_s) → K 115 ([] : List Value) [(h_this, ob 9 [.ref h_this_s, .ref h_this_kept, .ref h_this_laid, .int x_this_isKept, .ref h_this_pile, .ref h_this_tape, .int x_this_taped, .ref h_this_letters, .int x_this_at, .int x_this_begun, .int x_this_token, .int x_this_value, .int x_this_opened, .int x_this_steps, .ref h_this_code0, .ref h_this_read, .ref h_this_saved, .ref h_this_plan, .ref h_this_bestPlan, .int x_this_most, .int x_this_many, .int x_this_few, .int x_this_everHome, .ref h_this_offThen, .ref h_this_paidThen, .int x_this_firstFit, .ref h_this_rows, .int x_this_rowMany, .ref h_this_sorts, .ref h_this_sizes, .ref h_this_number, .ref h_this_holds, .ref h_this_heldOne, .ref h_this_trace, .int x_this_traced, .int x_this_own, .int x_this_isParted]), (h_this_pile, ia G 200 g_this_pile), (h_this_s, ia G 313 g_this_s)] [(0, .ref h_this), (3, .int v3), (4, .int v4)] := by
    intro v3 v4 g_this_pile g_this_s hf
    unfold f_X9_goesBy_b115 at hf
    refine hK1 _ _ _ _ (fun H locs ls h hl => ?_)
    refine lv_iload hx hb dX9_goesBy_115 (lv_at hl 2 rfl) ?_
    refine lv_aload_n hx hb dX9_goesBy_117 rfl (lv_at hl 0 rfl) ?_
    replace hf := bd1_inv hf
    obtain ⟨r4, hc5, hf⟩ := hf
    refine r_ciV0 C h (c_X9_onRock hc5) mv_X9_217 rfl 0 rfl [0, 2] rfl rfl hl.1 rfl (Nat.le_of_ble_eq_true rfl) (rok (by decide)) dX9_goesBy_118 (fun H locs h => ?_)
    refine lv_isub hx hb dX9_goesBy_121 ?_
    refine lv_topi (fun t6 et6 => ?_)
    replace hf := lt1_inv et6 hf
    refine lv_istore (lv' := [(5, .int t6), (0, .ref h_this), (3, .int v3), (4, .int v4)]) hx hb dX9_goesBy_122 hl (by decide) rfl (fun ls hl => ?_)
    refine lv_iload_n hx hb dX9_goesBy_124 rfl (lv_at hl 2 rfl) ?_
    refine lv_iload hx hb dX9_goesBy_125 (lv_at hl 0 rfl) ?_
    refine lv_if_le (tgt := 135) hx hb dX9_goesBy_127 rfl (fun c7 => ?_) (fun c7 => ?_)
    · replace hf := ifp c7 hf
      refine lv_iconst (v := (0 : Int32)) hx hb dX9_goesBy_135 rfl ?_
      exact hK2 _ _ _ _ (B136 v3 (0 : Int32) g_this_pile g_this_s hf) _ _ _ h (lv_sub hl [1] rfl)
    · replace hf := ifn c7 hf
      refine lv_iload hx hb dX9_goesBy_130 (lv_at hl 0 rfl) ?_
      refine lv_goto (tgt := 136) hx hb dX9_goesBy_132 rfl ?_
      exact hK2 _ _ _ _ (B136 v3 t6 g_this_pile g_this_s hf) _ _ _ h (lv_sub hl [1] rfl)
  have L35 : ∀ (n : Nat) (v3 : Int32) (v4 : Int32) (v5 : Int32) (g_this_pile : Nat → Int32) (g_this_s : Nat → Int32), f_X9_goesBy_L35 n v3 v4 v5 g_this_pile g_this_s = some (r, m_this_pile, m_this_s) → K 35 ([] : List Value) [(h_this, ob 9 [.ref h_this_s, .ref h_this_kept, .ref h_this_laid, .int x_this_isKept, .ref h_this_pile, .ref h_this_tape, .int x_this_taped, .ref h_this_letters, .int x_this_at, .int x_this_begun, .int x_this_token, .int x_this_value, .int x_this_opened, .int x_this_steps, .ref h_this_code0, .ref h_this_read, .ref h_this_saved, .ref h_this_plan, .ref h_this_bestPlan, .int x_this_most, .int x_this_many, .int x_this_few, .int x_this_everHome, .ref h_this_offThen, .ref h_this_paidThen, .int x_this_firstFit, .ref h_this_rows, .int x_this_rowMany, .ref h_this_sorts, .ref h_this_sizes, .ref h_this_number, .ref h_this_holds, .ref h_this_heldOne, .ref h_this_trace, .int x_this_traced, .int x_this_own, .int x_this_isParted]), (h_this_pile, ia G 200 g_this_pile), (h_this_s, ia G 313 g_this_s)] [(0, .ref h_this), (3, .int v3), (4, .int v4), (5, .int v5)] := by
    intro n
    induction n with
    | zero =>
      intro v3 v4 v5 g_this_pile g_this_s hf
      replace hf : (none : Option _) = some _ := hf
      cases hf
    | succ n ih =>
      intro v3 v4 v5 g_this_pile g_this_s hf
      rw [f_X9_goesBy_L35] at hf
      refine hK1 _ _ _ _ (fun H locs ls h hl => ?_)
      refine lv_iload hx hb dX9_goesBy_35 (lv_at hl 3 rfl) ?_
      refine lv_aload_n hx hb dX9_goesBy_37 rfl (lv_at hl 0 rfl) ?_
      refine r_get C h fk_X9_9 0 rfl rfl dX9_goesBy_38 ?_
      refine lv_iconst (v := (4 : Int32)) hx hb dX9_goesBy_41 rfl ?_
      refine r_ialdL C h 2 rfl (vlit rfl) 4 rfl dX9_goesBy_42 ?_
      refine lv_icmp_ge (tgt := 115) hx hb dX9_goesBy_43 rfl (fun c3 => ?_) (fun c3 => ?_)
      · replace hf := ifp c3 hf
        exact hK2 _ _ _ _ (B115 v3 v4 g_this_pile g_this_s hf) _ _ _ h (lv_sub hl [0, 1, 2] rfl)
      · replace hf := ifn c3 hf
        refine lv_iload hx hb dX9_goesBy_46 (lv_at hl 2 rfl) ?_
        refine lv_aload_n hx hb dX9_goesBy_48 rfl (lv_at hl 0 rfl) ?_
        refine lv_iload hx hb dX9_goesBy_49 (lv_at hl 3 rfl) ?_
        refine lv_iconst (v := (4 : Int32)) hx hb dX9_goesBy_51 rfl ?_
        replace hf := bd1_inv hf
        obtain ⟨r11, hc12, hf⟩ := hf
        refine r_ciV0 C h (c_X9_get hc12) mv_X9_79 rfl 0 rfl [0, 2] rfl rfl hl.1 rfl (Nat.le_of_ble_eq_true rfl) (rok (by decide)) dX9_goesBy_52 (fun H locs h => ?_)
        refine lv_iadd hx hb dX9_goesBy_55 ?_
        refine lv_topi (fun t13 et13 => ?_)
        replace hf := lt1_inv et13 hf
        refine lv_istore (lv' := [(4, .int t13), (0, .ref h_this), (3, .int v3), (5, .int v5)]) hx hb dX9_goesBy_56 hl (by decide) rfl (fun ls hl => ?_)
        refine lv_aload_n hx hb dX9_goesBy_58 rfl (lv_at hl 1 rfl) ?_
        refine lv_iload hx hb dX9_goesBy_59 (lv_at hl 3 rfl) ?_
        refine lv_iconst (v := (1 : Int32)) hx hb dX9_goesBy_61 rfl ?_
        replace hf := bd1_inv hf
        obtain ⟨r14, hc15, hf⟩ := hf
        refine r_ciV0 C h (c_X9_get hc15) mv_X9_79 rfl 0 rfl [0, 2] rfl rfl hl.1 rfl (Nat.le_of_ble_eq_true rfl) (rok (by decide)) dX9_goesBy_62 (fun H locs h => ?_)
        refine lv_aload_n hx hb dX9_goesBy_65 rfl (lv_at hl 1 rfl) ?_
        refine lv_iload hx hb dX9_goesBy_66 (lv_at hl 3 rfl) ?_
        replace hf := bd1_inv hf
        obtain ⟨r16, hc17, hf⟩ := hf
        refine r_ciV0 C h (c_X9_nearsOf hc17) mv_X9_214 rfl 0 rfl [0, 2] rfl rfl hl.1 rfl (Nat.le_of_ble_eq_true rfl) (rok (by decide)) dX9_goesBy_68 (fun H locs h => ?_)
        refine lv_isub hx hb dX9_goesBy_71 ?_
        refine lv_bipush (v := (99 : Int32)) hx hb dX9_goesBy_72 rfl ?_
        replace hf := bd1_inv hf
        obtain ⟨r18, hc19, hf⟩ := hf
        refine r_ciS0 C h (c_X9_held hc19) ms_X9_202 rfl [] rfl rfl hl.1 rfl (Nat.le_of_ble_eq_true rfl) (rok (by decide)) dX9_goesBy_74 (fun H locs h => ?_)
        refine lv_istore (lv' := [(6, .int r18), (4, .int t13), (0, .ref h_this), (3, .int v3), (5, .int v5)]) hx hb dX9_goesBy_77 hl (by decide) rfl (fun ls hl => ?_)
        refine lv_aload_n hx hb dX9_goesBy_79 rfl (lv_at hl 2 rfl) ?_
        refine lv_iload hx hb dX9_goesBy_80 (lv_at hl 4 rfl) ?_
        refine lv_iconst (v := (1 : Int32)) hx hb dX9_goesBy_82 rfl ?_
        refine lv_aload_n hx hb dX9_goesBy_83 rfl (lv_at hl 2 rfl) ?_
        refine lv_iload hx hb dX9_goesBy_84 (lv_at hl 4 rfl) ?_
        refine lv_iconst (v := (4 : Int32)) hx hb dX9_goesBy_86 rfl ?_
        replace hf := bd1_inv hf
        obtain ⟨r20, hc21, hf⟩ := hf
        refine r_ciV0 C h (c_X9_get hc21) mv_X9_79 rfl 0 rfl [0, 2] rfl rfl hl.1 rfl (Nat.le_of_ble_eq_true rfl) (rok (by decide)) dX9_goesBy_87 (fun H locs h => ?_)
        refine lv_iconst (v := (1 : Int32)) hx hb dX9_goesBy_90 rfl ?_
        refine lv_icmp_ne (tgt := 104) hx hb dX9_goesBy_91 rfl (fun c22 => ?_) (fun c22 => ?_)
        · replace hf := ifn c22 hf
          refine lv_iload hx hb dX9_goesBy_104 (lv_at hl 0 rfl) ?_
          replace hf := bd1_inv hf
          obtain ⟨g23, hc24, hf⟩ := hf
          refine r_cvV (ws' := [(h_this, ob 9 [.ref h_this_s, .ref h_this_kept, .ref h_this_laid, .int x_this_isKept, .ref h_this_pile, .ref h_this_tape, .int x_this_taped, .ref h_this_letters, .int x_this_at, .int x_this_begun, .int x_this_token, .int x_this_value, .int x_this_opened, .int x_this_steps, .ref h_this_code0, .ref h_this_read, .ref h_this_saved, .ref h_this_plan, .ref h_this_bestPlan, .int x_this_most, .int x_this_many, .int x_this_few, .int x_this_everHome, .ref h_this_offThen, .ref h_this_paidThen, .int x_this_firstFit, .ref h_this_rows, .int x_this_rowMany, .ref h_this_sorts, .ref h_this_sizes, .ref h_this_number, .ref h_this_holds, .ref h_this_heldOne, .ref h_this_trace, .int x_this_traced, .int x_this_own, .int x_this_isParted]), (h_this_pile, ia G 200 g_this_pile), (h_this_s, ia G 313 g23)]) C h (c_X9_puts hc24) mv_X9_195 rfl 0 rfl [0, 2] rfl rfl rfl rfl rfl hl.1 rfl (Nat.le_of_ble_eq_true rfl) (rok (by decide)) dX9_goesBy_106 (fun H locs h => ?_)
          obtain ⟨t25, et25⟩ : ∃ y : Int32, y = v5 + (1 : Int32) := ⟨_, rfl⟩
          replace hf := lt1_inv et25 hf
          refine lv_iinc (v := t25) (lv' := [(5, .int t25), (6, .int r18), (4, .int t13), (0, .ref h_this), (3, .int v3)]) hx hb dX9_goesBy_109 hl (k := 4) rfl (by rw [et25]; rfl) (by decide) rfl (fun ls hl => ?_)
          refine lv_goto (tgt := 35) hx hb dX9_goesBy_112 rfl ?_
          exact hK2 _ _ _ _ (ih v3 t13 t25 g_this_pile g23 hf) _ _ _ h (lv_sub hl [3, 4, 2, 0] rfl)
        · replace hf := ifp c22 hf
          refine lv_aload_n hx hb dX9_goesBy_94 rfl (lv_at hl 2 rfl) ?_
          refine lv_iload hx hb dX9_goesBy_95 (lv_at hl 4 rfl) ?_
          refine lv_iconst (v := (1 : Int32)) hx hb dX9_goesBy_97 rfl ?_
          replace hf := bd1_inv hf
          obtain ⟨r26, hc27, hf⟩ := hf
          refine r_ciV0 C h (c_X9_get hc27) mv_X9_79 rfl 0 rfl [0, 2] rfl rfl hl.1 rfl (Nat.le_of_ble_eq_true rfl) (rok (by decide)) dX9_goesBy_98 (fun H locs h => ?_)
          refine lv_goto (tgt := 106) hx hb dX9_goesBy_101 rfl ?_
          replace hf := bd1_inv hf
          obtain ⟨g28, hc29, hf⟩ := hf
          refine r_cvV (ws' := [(h_this, ob 9 [.ref h_this_s, .ref h_this_kept, .ref h_this_laid, .int x_this_isKept, .ref h_this_pile, .ref h_this_tape, .int x_this_taped, .ref h_this_letters, .int x_this_at, .int x_this_begun, .int x_this_token, .int x_this_value, .int x_this_opened, .int x_this_steps, .ref h_this_code0, .ref h_this_read, .ref h_this_saved, .ref h_this_plan, .ref h_this_bestPlan, .int x_this_most, .int x_this_many, .int x_this_few, .int x_this_everHome, .ref h_this_offThen, .ref h_this_paidThen, .int x_this_firstFit, .ref h_this_rows, .int x_this_rowMany, .ref h_this_sorts, .ref h_this_sizes, .ref h_this_number, .ref h_this_holds, .ref h_this_heldOne, .ref h_this_trace, .int x_this_traced, .int x_this_own, .int x_this_isParted]), (h_this_pile, ia G 200 g_this_pile), (h_this_s, ia G 313 g28)]) C h (c_X9_puts hc29) mv_X9_195 rfl 0 rfl [0, 2] rfl rfl rfl rfl rfl hl.1 rfl (Nat.le_of_ble_eq_true rfl) (rok (by decide)) dX9_goesBy_106 (fun H locs h => ?_)
          obtain ⟨t30, et30⟩ : ∃ y : Int32, y = v5 + (1 : Int32) := ⟨_, rfl⟩
          replace hf := lt1_inv et30 hf
          refine lv_iinc (v := t30) (lv' := [(5, .int t30), (6, .int r18), (4, .int t13), (0, .ref h_this), (3, .int v3)]) hx hb dX9_goesBy_109 hl (k := 4) rfl (by rw [et30]; rfl) (by decide) rfl (fun ls hl => ?_)
          refine lv_goto (tgt := 35) hx hb dX9_goesBy_112 rfl ?_
          exact hK2 _ _ _ _ (ih v3 t13 t30 g_this_pile g28 hf) _ _ _ h (lv_sub hl [3, 4, 2, 0] rfl)
  have B28 : ∀ (s0 : Int32) (g_this_pile : Nat → Int32) (g_this_s : Nat → Int32), f_X9_goesBy_b28 s0 g_this_pile g_this_s = some (r, m_this_pile, m_this_s) → K 28 [.int s0] [(h_this, ob 9 [.ref h_this_s, .ref h_this_kept, .ref h_this_laid, .int x_this_isKept, .ref h_this_pile, .ref h_this_tape, .int x_this_taped, .ref h_this_letters, .int x_this_at, .int x_this_begun, .int x_this_token, .int x_this_value, .int x_this_opened, .int x_this_steps, .ref h_this_code0, .ref h_this_read, .ref h_this_saved, .ref h_this_plan, .ref h_this_bestPlan, .int x_this_most, .int x_this_many, .int x_this_few, .int x_this_everHome, .ref h_this_offThen, .ref h_this_paidThen, .int x_this_firstFit, .ref h_this_rows, .int x_this_rowMany, .ref h_this_sorts, .ref h_this_sizes, .ref h_this_number, .ref h_this_holds, .ref h_this_heldOne, .ref h_this_trace, .int x_this_traced, .int x_this_own, .int x_this_isParted]), (h_this_pile, ia G 200 g_this_pile), (h_this_s, ia G 313 g_this_s)] [(0, .ref h_this)] := by
    intro s0 g_this_pile g_this_s hf
    unfold f_X9_goesBy_b28 at hf
    refine hK1 _ _ _ _ (fun H locs ls h hl => ?_)
    refine lv_istore_n (lv' := [(3, .int s0), (0, .ref h_this)]) hx hb dX9_goesBy_28 rfl hl (by decide) rfl (fun ls hl => ?_)
    refine lv_iconst (v := (0 : Int32)) hx hb dX9_goesBy_29 rfl ?_
    refine lv_istore (lv' := [(4, .int (0 : Int32)), (3, .int s0), (0, .ref h_this)]) hx hb dX9_goesBy_30 hl (by decide) rfl (fun ls hl => ?_)
    refine lv_iconst (v := (0 : Int32)) hx hb dX9_goesBy_32 rfl ?_
    refine lv_istore (lv' := [(5, .int (0 : Int32)), (4, .int (0 : Int32)), (3, .int s0), (0, .ref h_this)]) hx hb dX9_goesBy_33 hl (by decide) rfl (fun ls hl => ?_)
    exact hK2 _ _ _ _ (L35 1000 s0 (0 : Int32) (0 : Int32) g_this_pile g_this_s hf) _ _ _ h (lv_sub hl [3, 2, 1, 0] rfl)
  have B14 : ∀ (s0 : Int32) (g_this_pile : Nat → Int32), f_X9_goesBy_b14 f_this_s s0 g_this_pile = some (r, m_this_pile, m_this_s) → K 14 [.int s0] [(h_this, ob 9 [.ref h_this_s, .ref h_this_kept, .ref h_this_laid, .int x_this_isKept, .ref h_this_pile, .ref h_this_tape, .int x_this_taped, .ref h_this_letters, .int x_this_at, .int x_this_begun, .int x_this_token, .int x_this_value, .int x_this_opened, .int x_this_steps, .ref h_this_code0, .ref h_this_read, .ref h_this_saved, .ref h_this_plan, .ref h_this_bestPlan, .int x_this_most, .int x_this_many, .int x_this_few, .int x_this_everHome, .ref h_this_offThen, .ref h_this_paidThen, .int x_this_firstFit, .ref h_this_rows, .int x_this_rowMany, .ref h_this_sorts, .ref h_this_sizes, .ref h_this_number, .ref h_this_holds, .ref h_this_heldOne, .ref h_this_trace, .int x_this_traced, .int x_this_own, .int x_this_isParted]), (h_this_pile, ia G 200 g_this_pile), (h_this_s, ia G 313 f_this_s)] [(0, .ref h_this)] := by
    intro s0 g_this_pile hf
    unfold f_X9_goesBy_b14 at hf
    refine hK1 _ _ _ _ (fun H locs ls h hl => ?_)
    refine lv_istore_n (lv' := [(2, .int s0), (0, .ref h_this)]) hx hb dX9_goesBy_14 rfl hl (by decide) rfl (fun ls hl => ?_)
    refine lv_iload_n hx hb dX9_goesBy_15 rfl (lv_at hl 0 rfl) ?_
    refine lv_if_lt (tgt := 27) hx hb dX9_goesBy_16 rfl (fun c2 => ?_) (fun c2 => ?_)
    · replace hf := ifp c2 hf
      refine lv_iconst (v := (0 : Int32)) hx hb dX9_goesBy_27 rfl ?_
      exact hK2 _ _ _ _ (B28 (0 : Int32) g_this_pile f_this_s hf) _ _ _ h (lv_sub hl [1] rfl)
    · replace hf := ifn c2 hf
      refine lv_aload_n hx hb dX9_goesBy_19 rfl (lv_at hl 1 rfl) ?_
      refine lv_iload_n hx hb dX9_goesBy_20 rfl (lv_at hl 0 rfl) ?_
      replace hf := bd3_inv hf
      obtain ⟨r31, g32, g33, hc34, hf⟩ := hf
      refine r_ciV (ws' := [(h_this, ob 9 [.ref h_this_s, .ref h_this_kept, .ref h_this_laid, .int x_this_isKept, .ref h_this_pile, .ref h_this_tape, .int x_this_taped, .ref h_this_letters, .int x_this_at, .int x_this_begun, .int x_this_token, .int x_this_value, .int x_this_opened, .int x_this_steps, .ref h_this_code0, .ref h_this_read, .ref h_this_saved, .ref h_this_plan, .ref h_this_bestPlan, .int x_this_most, .int x_this_many, .int x_this_few, .int x_this_everHome, .ref h_this_offThen, .ref h_this_paidThen, .int x_this_firstFit, .ref h_this_rows, .int x_this_rowMany, .ref h_this_sorts, .ref h_this_sizes, .ref h_this_number, .ref h_this_holds, .ref h_this_heldOne, .ref h_this_trace, .int x_this_traced, .int x_this_own, .int x_this_isParted]), (h_this_pile, ia G 200 g32), (h_this_s, ia G 313 g33)]) C h (c_X9_meets hc34) mv_X9_211 rfl 0 rfl [0, 1, 2] rfl rfl rfl rfl rfl hl.1 rfl (Nat.le_of_ble_eq_true rfl) (rok (by decide)) dX9_goesBy_21 (fun H locs h => ?_)
      refine lv_goto (tgt := 28) hx hb dX9_goesBy_24 rfl ?_
      exact hK2 _ _ _ _ (B28 r31 g32 g33 hf) _ _ _ h (lv_sub hl [1] rfl)
  refine lv_iload_n hx hb dX9_goesBy_0 rfl (lv_at hl 1 rfl) ?_
  refine lv_if_ge (tgt := 11) hx hb dX9_goesBy_1 rfl (fun c1 => ?_) (fun c1 => ?_)
  · replace hf := ifp c1 hf
    refine lv_iload_n hx hb dX9_goesBy_11 rfl (lv_at hl 1 rfl) ?_
    refine lv_iconst (v := (1 : Int32)) hx hb dX9_goesBy_12 rfl ?_
    refine lv_isub hx hb dX9_goesBy_13 ?_
    exact hK2 _ _ _ _ (B14 (p0 - (1 : Int32)) f_this_pile hf) _ _ _ h (lv_sub hl [0] rfl)
  · replace hf := ifn c1 hf
    refine lv_aload_n hx hb dX9_goesBy_4 rfl (lv_at hl 0 rfl) ?_
    replace hf := bd2_inv hf
    obtain ⟨r35, g36, hc37, hf⟩ := hf
    refine r_ciV (ws' := [(h_this, ob 9 [.ref h_this_s, .ref h_this_kept, .ref h_this_laid, .int x_this_isKept, .ref h_this_pile, .ref h_this_tape, .int x_this_taped, .ref h_this_letters, .int x_this_at, .int x_this_begun, .int x_this_token, .int x_this_value, .int x_this_opened, .int x_this_steps, .ref h_this_code0, .ref h_this_read, .ref h_this_saved, .ref h_this_plan, .ref h_this_bestPlan, .int x_this_most, .int x_this_many, .int x_this_few, .int x_this_everHome, .ref h_this_offThen, .ref h_this_paidThen, .int x_this_firstFit, .ref h_this_rows, .int x_this_rowMany, .ref h_this_sorts, .ref h_this_sizes, .ref h_this_number, .ref h_this_holds, .ref h_this_heldOne, .ref h_this_trace, .int x_this_traced, .int x_this_own, .int x_this_isParted]), (h_this_pile, ia G 200 g36), (h_this_s, ia G 313 f_this_s)]) C h (c_X9_restOne hc37) mv_X9_208 rfl 0 rfl [0, 1, 2] rfl rfl rfl rfl rfl hl.1 rfl (Nat.le_of_ble_eq_true rfl) (rok (by decide)) dX9_goesBy_5 (fun H locs h => ?_)
    refine lv_goto (tgt := 14) hx hb dX9_goesBy_8 rfl ?_
    exact hK2 _ _ _ _ (B14 r35 g36 hf) _ _ _ h (lv_sub hl [0] rfl)
def f_X9_watch (f_this_pile : Nat → Int32) (f_this_s : Nat → Int32) : Option (Int32 × (Nat → Int32) × (Nat → Int32)) := bd1 (f_X9_isOver f_this_s) (fun r1 => (if r1 = 0 then bd3 (f_X9_goesBy (-1 : Int32) f_this_pile f_this_s) (fun r4 g5 g6 => some (r4, g5, g6)) else some ((-4 : Int32), f_this_pile, f_this_s)))
set_option maxRecDepth 100000 in
set_option maxHeartbeats 4000000 in
theorem c_X9_watch {l : Launch} {G : Gt} {h_this h_this_s h_this_kept h_this_laid h_this_pile h_this_tape h_this_letters h_this_code0 h_this_read h_this_saved h_this_plan h_this_bestPlan h_this_offThen h_this_paidThen h_this_rows h_this_sorts h_this_sizes h_this_number h_this_holds h_this_heldOne h_this_trace : Nat} {x_this_isKept : Int32} {x_this_taped : Int32} {x_this_at : Int32} {x_this_begun : Int32} {x_this_token : Int32} {x_this_value : Int32} {x_this_opened : Int32} {x_this_steps : Int32} {x_this_most : Int32} {x_this_many : Int32} {x_this_few : Int32} {x_this_everHome : Int32} {x_this_firstFit : Int32} {x_this_rowMany : Int32} {x_this_traced : Int32} {x_this_own : Int32} {x_this_isParted : Int32} {f_this_pile : Nat → Int32} {f_this_s : Nat → Int32} {r : Int32} {m_this_pile : Nat → Int32} {m_this_s : Nat → Int32} (hf : f_X9_watch f_this_pile f_this_s = some (r, m_this_pile, m_this_s)) : mFi l G yX9_watch cX9_watch 1 .int 7 [.ref h_this] [(h_this, ob 9 [.ref h_this_s, .ref h_this_kept, .ref h_this_laid, .int x_this_isKept, .ref h_this_pile, .ref h_this_tape, .int x_this_taped, .ref h_this_letters, .int x_this_at, .int x_this_begun, .int x_this_token, .int x_this_value, .int x_this_opened, .int x_this_steps, .ref h_this_code0, .ref h_this_read, .ref h_this_saved, .ref h_this_plan, .ref h_this_bestPlan, .int x_this_most, .int x_this_many, .int x_this_few, .int x_this_everHome, .ref h_this_offThen, .ref h_this_paidThen, .int x_this_firstFit, .ref h_this_rows, .int x_this_rowMany, .ref h_this_sorts, .ref h_this_sizes, .ref h_this_number, .ref h_this_holds, .ref h_this_heldOne, .ref h_this_trace, .int x_this_traced, .int x_this_own, .int x_this_isParted]), (h_this_pile, ia G 200 f_this_pile), (h_this_s, ia G 313 f_this_s)] r [(h_this, ob 9 [.ref h_this_s, .ref h_this_kept, .ref h_this_laid, .int x_this_isKept, .ref h_this_pile, .ref h_this_tape, .int x_this_taped, .ref h_this_letters, .int x_this_at, .int x_this_begun, .int x_this_token, .int x_this_value, .int x_this_opened, .int x_this_steps, .ref h_this_code0, .ref h_this_read, .ref h_this_saved, .ref h_this_plan, .ref h_this_bestPlan, .int x_this_most, .int x_this_many, .int x_this_few, .int x_this_everHome, .ref h_this_offThen, .ref h_this_paidThen, .int x_this_firstFit, .ref h_this_rows, .int x_this_rowMany, .ref h_this_sorts, .ref h_this_sizes, .ref h_this_number, .ref h_this_holds, .ref h_this_heldOne, .ref h_this_trace, .int x_this_traced, .int x_this_own, .int x_this_isParted]), (h_this_pile, ia G 200 m_this_pile), (h_this_s, ia G 313 m_this_s)] := by
  refine mFi.of (by decide +kernel) (Nat.le_of_ble_eq_true rfl) ?_
  intro p e s m below meth c A C hr hlk h ls hl
  obtain ⟨hx, hb, hml, hown, hts⟩ := id C
  replace hl : lv_has ls 1 [(0, .ref h_this)] := hl
  unfold f_X9_watch at hf
  refine lv_aload_n hx hb dX9_watch_0 rfl (lv_at hl 0 rfl) ?_
  replace hf := bd1_inv hf
  obtain ⟨r1, hc2, hf⟩ := hf
  refine r_ciV0 C h (c_X9_isOver hc2) mv_X9_232 rfl 0 rfl [0, 2] rfl rfl hl.1 rfl (Nat.le_of_ble_eq_true rfl) (rok (by decide)) dX9_watch_1 (fun H locs h => ?_)
  refine lv_if_eq (tgt := 12) hx hb dX9_watch_4 rfl (fun c3 => ?_) (fun c3 => ?_)
  · replace hf := ifp c3 hf
    refine lv_aload_n hx hb dX9_watch_12 rfl (lv_at hl 0 rfl) ?_
    refine lv_iconst (v := (-1 : Int32)) hx hb dX9_watch_13 rfl ?_
    replace hf := bd3_inv hf
    obtain ⟨r4, g5, g6, hc7, hf⟩ := hf
    refine r_ciV (ws' := [(h_this, ob 9 [.ref h_this_s, .ref h_this_kept, .ref h_this_laid, .int x_this_isKept, .ref h_this_pile, .ref h_this_tape, .int x_this_taped, .ref h_this_letters, .int x_this_at, .int x_this_begun, .int x_this_token, .int x_this_value, .int x_this_opened, .int x_this_steps, .ref h_this_code0, .ref h_this_read, .ref h_this_saved, .ref h_this_plan, .ref h_this_bestPlan, .int x_this_most, .int x_this_many, .int x_this_few, .int x_this_everHome, .ref h_this_offThen, .ref h_this_paidThen, .int x_this_firstFit, .ref h_this_rows, .int x_this_rowMany, .ref h_this_sorts, .ref h_this_sizes, .ref h_this_number, .ref h_this_holds, .ref h_this_heldOne, .ref h_this_trace, .int x_this_traced, .int x_this_own, .int x_this_isParted]), (h_this_pile, ia G 200 g5), (h_this_s, ia G 313 g6)]) C h (c_X9_goesBy hc7) mv_X9_238 rfl 0 rfl [0, 1, 2] rfl rfl rfl rfl rfl hl.1 rfl (Nat.le_of_ble_eq_true rfl) (rok (by decide)) dX9_watch_14 (fun H locs h => ?_)
    cases hf
    exact r_iret C h hr hlk rfl dX9_watch_17
  · replace hf := ifn c3 hf
    refine lv_bipush (v := (-4 : Int32)) hx hb dX9_watch_7 rfl ?_
    refine lv_goto (tgt := 17) hx hb dX9_watch_9 rfl ?_
    cases hf
    exact r_iret C h hr hlk rfl dX9_watch_17
def f_X9_layDown_L2 (f_this_s : Nat → Int32) : Nat → Int32 → (Nat → Int32) → Option ((Nat → Int32))
  | 0, _, _ => none
  | n + 1, v1, g_this_laid => (if (65 : Int32) ≤ v1 then some g_this_laid else chkI v1 313 (lt1 (f_this_s v1.toNatClampNeg) (fun (t3 : Int32) => chkI v1 65 (lt1 (v1 + (1 : Int32)) (fun (t5 : Int32) => (f_X9_layDown_L2 f_this_s n) t5 (upd g_this_laid v1.toNatClampNeg t3))))))
def f_X9_layDown (f_this_laid : Nat → Int32) (f_this_s : Nat → Int32) : Option ((Nat → Int32)) := f_X9_layDown_L2 f_this_s 1000 (0 : Int32) f_this_laid
set_option maxRecDepth 100000 in
set_option maxHeartbeats 4000000 in
theorem c_X9_layDown {l : Launch} {G : Gt} {h_this h_this_s h_this_kept h_this_laid h_this_pile h_this_tape h_this_letters h_this_code0 h_this_read h_this_saved h_this_plan h_this_bestPlan h_this_offThen h_this_paidThen h_this_rows h_this_sorts h_this_sizes h_this_number h_this_holds h_this_heldOne h_this_trace : Nat} {x_this_isKept : Int32} {x_this_taped : Int32} {x_this_at : Int32} {x_this_begun : Int32} {x_this_token : Int32} {x_this_value : Int32} {x_this_opened : Int32} {x_this_steps : Int32} {x_this_most : Int32} {x_this_many : Int32} {x_this_few : Int32} {x_this_everHome : Int32} {x_this_firstFit : Int32} {x_this_rowMany : Int32} {x_this_traced : Int32} {x_this_own : Int32} {x_this_isParted : Int32} {f_this_laid : Nat → Int32} {f_this_s : Nat → Int32} {m_this_laid : Nat → Int32} (hf : f_X9_layDown f_this_laid f_this_s = some m_this_laid) : mFv l G yX9_layDown cX9_layDown 2 0 [.ref h_this] [(h_this, ob 9 [.ref h_this_s, .ref h_this_kept, .ref h_this_laid, .int x_this_isKept, .ref h_this_pile, .ref h_this_tape, .int x_this_taped, .ref h_this_letters, .int x_this_at, .int x_this_begun, .int x_this_token, .int x_this_value, .int x_this_opened, .int x_this_steps, .ref h_this_code0, .ref h_this_read, .ref h_this_saved, .ref h_this_plan, .ref h_this_bestPlan, .int x_this_most, .int x_this_many, .int x_this_few, .int x_this_everHome, .ref h_this_offThen, .ref h_this_paidThen, .int x_this_firstFit, .ref h_this_rows, .int x_this_rowMany, .ref h_this_sorts, .ref h_this_sizes, .ref h_this_number, .ref h_this_holds, .ref h_this_heldOne, .ref h_this_trace, .int x_this_traced, .int x_this_own, .int x_this_isParted]), (h_this_laid, ia G 65 f_this_laid), (h_this_s, ia G 313 f_this_s)] [(h_this, ob 9 [.ref h_this_s, .ref h_this_kept, .ref h_this_laid, .int x_this_isKept, .ref h_this_pile, .ref h_this_tape, .int x_this_taped, .ref h_this_letters, .int x_this_at, .int x_this_begun, .int x_this_token, .int x_this_value, .int x_this_opened, .int x_this_steps, .ref h_this_code0, .ref h_this_read, .ref h_this_saved, .ref h_this_plan, .ref h_this_bestPlan, .int x_this_most, .int x_this_many, .int x_this_few, .int x_this_everHome, .ref h_this_offThen, .ref h_this_paidThen, .int x_this_firstFit, .ref h_this_rows, .int x_this_rowMany, .ref h_this_sorts, .ref h_this_sizes, .ref h_this_number, .ref h_this_holds, .ref h_this_heldOne, .ref h_this_trace, .int x_this_traced, .int x_this_own, .int x_this_isParted]), (h_this_laid, ia G 65 m_this_laid), (h_this_s, ia G 313 f_this_s)] := by
  refine mFv.of (by decide +kernel) (Nat.le_of_ble_eq_true rfl) ?_
  intro p e s m below meth c A C hr hlk h ls hl
  obtain ⟨hx, hb, hml, hown, hts⟩ := id C
  replace hl : lv_has ls 2 [(0, .ref h_this)] := hl
  unfold f_X9_layDown at hf
  refine with_K G A 2 (fun K hK1 hK2 => ?_)
  have L2 : ∀ (n : Nat) (v1 : Int32) (g_this_laid : Nat → Int32), f_X9_layDown_L2 f_this_s n v1 g_this_laid = some m_this_laid → K 2 ([] : List Value) [(h_this, ob 9 [.ref h_this_s, .ref h_this_kept, .ref h_this_laid, .int x_this_isKept, .ref h_this_pile, .ref h_this_tape, .int x_this_taped, .ref h_this_letters, .int x_this_at, .int x_this_begun, .int x_this_token, .int x_this_value, .int x_this_opened, .int x_this_steps, .ref h_this_code0, .ref h_this_read, .ref h_this_saved, .ref h_this_plan, .ref h_this_bestPlan, .int x_this_most, .int x_this_many, .int x_this_few, .int x_this_everHome, .ref h_this_offThen, .ref h_this_paidThen, .int x_this_firstFit, .ref h_this_rows, .int x_this_rowMany, .ref h_this_sorts, .ref h_this_sizes, .ref h_this_number, .ref h_this_holds, .ref h_this_heldOne, .ref h_this_trace, .int x_this_traced, .int x_this_own, .int x_this_isParted]), (h_this_laid, ia G 65 g_this_laid), (h_this_s, ia G 313 f_this_s)] [(0, .ref h_this), (1, .int v1)] := by
    intro n
    induction n with
    | zero =>
      intro v1 g_this_laid hf
      replace hf : (none : Option _) = some _ := hf
      cases hf
    | succ n ih =>
      intro v1 g_this_laid hf
      rw [f_X9_layDown_L2] at hf
      refine hK1 _ _ _ _ (fun H locs ls h hl => ?_)
      refine lv_iload_n hx hb dX9_layDown_2 rfl (lv_at hl 1 rfl) ?_
      refine lv_bipush (v := (65 : Int32)) hx hb dX9_layDown_3 rfl ?_
      refine lv_icmp_ge (tgt := 26) hx hb dX9_layDown_5 rfl (fun c1 => ?_) (fun c1 => ?_)
      · replace hf := ifp c1 hf
        cases hf
        exact r_vret C h hr hlk dX9_layDown_26
      · replace hf := ifn c1 hf
        refine lv_aload_n hx hb dX9_layDown_8 rfl (lv_at hl 0 rfl) ?_
        refine r_get C h fk_X9_16 0 rfl rfl dX9_layDown_9 ?_
        refine lv_iload_n hx hb dX9_layDown_12 rfl (lv_at hl 1 rfl) ?_
        refine lv_aload_n hx hb dX9_layDown_13 rfl (lv_at hl 0 rfl) ?_
        refine r_get C h fk_X9_9 0 rfl rfl dX9_layDown_14 ?_
        refine lv_iload_n hx hb dX9_layDown_17 rfl (lv_at hl 1 rfl) ?_
        replace hf := chkI_inv hf
        obtain ⟨hi2, hf⟩ := hf
        refine r_iald C h 2 rfl hi2 dX9_layDown_18 ?_
        refine lv_topi (fun t3 et3 => ?_)
        replace hf := lt1_inv et3 hf
        replace hf := chkI_inv hf
        obtain ⟨hi4, hf⟩ := hf
        refine r_iast (ws' := [(h_this, ob 9 [.ref h_this_s, .ref h_this_kept, .ref h_this_laid, .int x_this_isKept, .ref h_this_pile, .ref h_this_tape, .int x_this_taped, .ref h_this_letters, .int x_this_at, .int x_this_begun, .int x_this_token, .int x_this_value, .int x_this_opened, .int x_this_steps, .ref h_this_code0, .ref h_this_read, .ref h_this_saved, .ref h_this_plan, .ref h_this_bestPlan, .int x_this_most, .int x_this_many, .int x_this_few, .int x_this_everHome, .ref h_this_offThen, .ref h_this_paidThen, .int x_this_firstFit, .ref h_this_rows, .int x_this_rowMany, .ref h_this_sorts, .ref h_this_sizes, .ref h_this_number, .ref h_this_holds, .ref h_this_heldOne, .ref h_this_trace, .int x_this_traced, .int x_this_own, .int x_this_isParted]), (h_this_laid, ia G 65 (upd g_this_laid v1.toNatClampNeg t3)), (h_this_s, ia G 313 f_this_s)]) C h 1 rfl hi4 dX9_layDown_19 rfl (fun H locs h => ?_)
        obtain ⟨t5, et5⟩ : ∃ y : Int32, y = v1 + (1 : Int32) := ⟨_, rfl⟩
        replace hf := lt1_inv et5 hf
        refine lv_iinc (v := t5) (lv' := [(1, .int t5), (0, .ref h_this)]) hx hb dX9_layDown_20 hl (k := 1) rfl (by rw [et5]; rfl) (by decide) rfl (fun ls hl => ?_)
        refine lv_goto (tgt := 2) hx hb dX9_layDown_23 rfl ?_
        exact hK2 _ _ _ _ (ih t5 (upd g_this_laid v1.toNatClampNeg t3) hf) _ _ _ h (lv_sub hl [1, 0] rfl)
  refine lv_iconst (v := (0 : Int32)) hx hb dX9_layDown_0 rfl ?_
  refine lv_istore_n (lv' := [(1, .int (0 : Int32)), (0, .ref h_this)]) hx hb dX9_layDown_1 rfl hl (by decide) rfl (fun ls hl => ?_)
  exact hK2 _ _ _ _ (L2 1000 (0 : Int32) f_this_laid hf) _ _ _ h (lv_sub hl [1, 0] rfl)
def f_X9_restOf_L4 (p0 : Int32) : Nat → Int32 → Int32 → (Nat → Int32) → (Nat → Int32) → Option (Int32 × (Nat → Int32) × (Nat → Int32))
  | 0, _, _, _, _ => none
  | n + 1, v2, v3, g_this_pile, g_this_s => (if p0 ≤ v3 then some (v2, g_this_pile, g_this_s) else bd1 (f_X9_isOver g_this_s) (fun r2 => (if r2 = 0 then bd3 (f_X9_goesBy (-1 : Int32) g_this_pile g_this_s) (fun r5 g6 g7 => lt1 (v2 + r5) (fun (t9 : Int32) => lt1 (v3 + (1 : Int32)) (fun (t10 : Int32) => (f_X9_restOf_L4 p0 n) t9 t10 g6 g7))) else some (v2, g_this_pile, g_this_s))))
def f_X9_restOf (p0 : Int32) (f_this_pile : Nat → Int32) (f_this_s : Nat → Int32) : Option (Int32 × (Nat → Int32) × (Nat → Int32)) := f_X9_restOf_L4 p0 1000 (0 : Int32) (0 : Int32) f_this_pile f_this_s
set_option maxRecDepth 100000 in
set_option maxHeartbeats 4000000 in
theorem c_X9_restOf {l : Launch} {G : Gt} {h_this h_this_s h_this_kept h_this_laid h_this_pile h_this_tape h_this_letters h_this_code0 h_this_read h_this_saved h_this_plan h_this_bestPlan h_this_offThen h_this_paidThen h_this_rows h_this_sorts h_this_sizes h_this_number h_this_holds h_this_heldOne h_this_trace : Nat} {p0 : Int32} {x_this_isKept : Int32} {x_this_taped : Int32} {x_this_at : Int32} {x_this_begun : Int32} {x_this_token : Int32} {x_this_value : Int32} {x_this_opened : Int32} {x_this_steps : Int32} {x_this_most : Int32} {x_this_many : Int32} {x_this_few : Int32} {x_this_everHome : Int32} {x_this_firstFit : Int32} {x_this_rowMany : Int32} {x_this_traced : Int32} {x_this_own : Int32} {x_this_isParted : Int32} {f_this_pile : Nat → Int32} {f_this_s : Nat → Int32} {r : Int32} {m_this_pile : Nat → Int32} {m_this_s : Nat → Int32} (hf : f_X9_restOf p0 f_this_pile f_this_s = some (r, m_this_pile, m_this_s)) : mFi l G yX9_restOf cX9_restOf 4 .int 7 [.ref h_this, .int p0] [(h_this, ob 9 [.ref h_this_s, .ref h_this_kept, .ref h_this_laid, .int x_this_isKept, .ref h_this_pile, .ref h_this_tape, .int x_this_taped, .ref h_this_letters, .int x_this_at, .int x_this_begun, .int x_this_token, .int x_this_value, .int x_this_opened, .int x_this_steps, .ref h_this_code0, .ref h_this_read, .ref h_this_saved, .ref h_this_plan, .ref h_this_bestPlan, .int x_this_most, .int x_this_many, .int x_this_few, .int x_this_everHome, .ref h_this_offThen, .ref h_this_paidThen, .int x_this_firstFit, .ref h_this_rows, .int x_this_rowMany, .ref h_this_sorts, .ref h_this_sizes, .ref h_this_number, .ref h_this_holds, .ref h_this_heldOne, .ref h_this_trace, .int x_this_traced, .int x_this_own, .int x_this_isParted]), (h_this_pile, ia G 200 f_this_pile), (h_this_s, ia G 313 f_this_s)] r [(h_this, ob 9 [.ref h_this_s, .ref h_this_kept, .ref h_this_laid, .int x_this_isKept, .ref h_this_pile, .ref h_this_tape, .int x_this_taped, .ref h_this_letters, .int x_this_at, .int x_this_begun, .int x_this_token, .int x_this_value, .int x_this_opened, .int x_this_steps, .ref h_this_code0, .ref h_this_read, .ref h_this_saved, .ref h_this_plan, .ref h_this_bestPlan, .int x_this_most, .int x_this_many, .int x_this_few, .int x_this_everHome, .ref h_this_offThen, .ref h_this_paidThen, .int x_this_firstFit, .ref h_this_rows, .int x_this_rowMany, .ref h_this_sorts, .ref h_this_sizes, .ref h_this_number, .ref h_this_holds, .ref h_this_heldOne, .ref h_this_trace, .int x_this_traced, .int x_this_own, .int x_this_isParted]), (h_this_pile, ia G 200 m_this_pile), (h_this_s, ia G 313 m_this_s)] := by
  refine mFi.of (by decide +kernel) (Nat.le_of_ble_eq_true rfl) ?_
  intro p e s m below meth c A C hr hlk h ls hl
  obtain ⟨hx, hb, hml, hown, hts⟩ := id C
  replace hl : lv_has ls 4 [(0, .ref h_this), (1, .int p0)] := hl
  unfold f_X9_restOf at hf
  refine with_K G A 4 (fun K hK1 hK2 => ?_)
  have L4 : ∀ (n : Nat) (v2 : Int32) (v3 : Int32) (g_this_pile : Nat → Int32) (g_this_s : Nat → Int32), f_X9_restOf_L4 p0 n v2 v3 g_this_pile g_this_s = some (r, m_this_pile, m_this_s) → K 4 ([] : List Value) [(h_this, ob 9 [.ref h_this_s, .ref h_this_kept, .ref h_this_laid, .int x_this_isKept, .ref h_this_pile, .ref h_this_tape, .int x_this_taped, .ref h_this_letters, .int x_this_at, .int x_this_begun, .int x_this_token, .int x_this_value, .int x_this_opened, .int x_this_steps, .ref h_this_code0, .ref h_this_read, .ref h_this_saved, .ref h_this_plan, .ref h_this_bestPlan, .int x_this_most, .int x_this_many, .int x_this_few, .int x_this_everHome, .ref h_this_offThen, .ref h_this_paidThen, .int x_this_firstFit, .ref h_this_rows, .int x_this_rowMany, .ref h_this_sorts, .ref h_this_sizes, .ref h_this_number, .ref h_this_holds, .ref h_this_heldOne, .ref h_this_trace, .int x_this_traced, .int x_this_own, .int x_this_isParted]), (h_this_pile, ia G 200 g_this_pile), (h_this_s, ia G 313 g_this_s)] [(0, .ref h_this), (1, .int p0), (2, .int v2), (3, .int v3)] := by
    intro n
    induction n with
    | zero =>
      intro v2 v3 g_this_pile g_this_s hf
      replace hf : (none : Option _) = some _ := hf
      cases hf
    | succ n ih =>
      intro v2 v3 g_this_pile g_this_s hf
      rw [f_X9_restOf_L4] at hf
      refine hK1 _ _ _ _ (fun H locs ls h hl => ?_)
      refine lv_iload_n hx hb dX9_restOf_4 rfl (lv_at hl 3 rfl) ?_
      refine lv_iload_n hx hb dX9_restOf_5 rfl (lv_at hl 1 rfl) ?_
      refine lv_icmp_ge (tgt := 30) hx hb dX9_restOf_6 rfl (fun c1 => ?_) (fun c1 => ?_)
      · replace hf := ifp c1 hf
        refine lv_iload_n hx hb dX9_restOf_30 rfl (lv_at hl 2 rfl) ?_
        cases hf
        exact r_iret C h hr hlk rfl dX9_restOf_31
      · replace hf := ifn c1 hf
        refine lv_aload_n hx hb dX9_restOf_9 rfl (lv_at hl 0 rfl) ?_
        replace hf := bd1_inv hf
        obtain ⟨r2, hc3, hf⟩ := hf
        refine r_ciV0 C h (c_X9_isOver hc3) mv_X9_232 rfl 0 rfl [0, 2] rfl rfl hl.1 rfl (Nat.le_of_ble_eq_true rfl) (rok (by decide)) dX9_restOf_10 (fun H locs h => ?_)
        refine lv_if_ne (tgt := 30) hx hb dX9_restOf_13 rfl (fun c4 => ?_) (fun c4 => ?_)
        · replace hf := ifn c4 hf
          refine lv_iload_n hx hb dX9_restOf_30 rfl (lv_at hl 2 rfl) ?_
          cases hf
          exact r_iret C h hr hlk rfl dX9_restOf_31
        · replace hf := ifp c4 hf
          refine lv_iload_n hx hb dX9_restOf_16 rfl (lv_at hl 2 rfl) ?_
          refine lv_aload_n hx hb dX9_restOf_17 rfl (lv_at hl 0 rfl) ?_
          refine lv_iconst (v := (-1 : Int32)) hx hb dX9_restOf_18 rfl ?_
          replace hf := bd3_inv hf
          obtain ⟨r5, g6, g7, hc8, hf⟩ := hf
          refine r_ciV (ws' := [(h_this, ob 9 [.ref h_this_s, .ref h_this_kept, .ref h_this_laid, .int x_this_isKept, .ref h_this_pile, .ref h_this_tape, .int x_this_taped, .ref h_this_letters, .int x_this_at, .int x_this_begun, .int x_this_token, .int x_this_value, .int x_this_opened, .int x_this_steps, .ref h_this_code0, .ref h_this_read, .ref h_this_saved, .ref h_this_plan, .ref h_this_bestPlan, .int x_this_most, .int x_this_many, .int x_this_few, .int x_this_everHome, .ref h_this_offThen, .ref h_this_paidThen, .int x_this_firstFit, .ref h_this_rows, .int x_this_rowMany, .ref h_this_sorts, .ref h_this_sizes, .ref h_this_number, .ref h_this_holds, .ref h_this_heldOne, .ref h_this_trace, .int x_this_traced, .int x_this_own, .int x_this_isParted]), (h_this_pile, ia G 200 g6), (h_this_s, ia G 313 g7)]) C h (c_X9_goesBy hc8) mv_X9_238 rfl 0 rfl [0, 1, 2] rfl rfl rfl rfl rfl hl.1 rfl (Nat.le_of_ble_eq_true rfl) (rok (by decide)) dX9_restOf_19 (fun H locs h => ?_)
          refine lv_iadd hx hb dX9_restOf_22 ?_
          refine lv_topi (fun t9 et9 => ?_)
          replace hf := lt1_inv et9 hf
          refine lv_istore_n (lv' := [(2, .int t9), (0, .ref h_this), (1, .int p0), (3, .int v3)]) hx hb dX9_restOf_23 rfl hl (by decide) rfl (fun ls hl => ?_)
          obtain ⟨t10, et10⟩ : ∃ y : Int32, y = v3 + (1 : Int32) := ⟨_, rfl⟩
          replace hf := lt1_inv et10 hf
          refine lv_iinc (v := t10) (lv' := [(3, .int t10), (2, .int t9), (0, .ref h_this), (1, .int p0)]) hx hb dX9_restOf_24 hl (k := 3) rfl (by rw [et10]; rfl) (by decide) rfl (fun ls hl => ?_)
          refine lv_goto (tgt := 4) hx hb dX9_restOf_27 rfl ?_
          exact hK2 _ _ _ _ (ih t9 t10 g6 g7 hf) _ _ _ h (lv_sub hl [2, 3, 1, 0] rfl)
  refine lv_iconst (v := (0 : Int32)) hx hb dX9_restOf_0 rfl ?_
  refine lv_istore_n (lv' := [(2, .int (0 : Int32)), (0, .ref h_this), (1, .int p0)]) hx hb dX9_restOf_1 rfl hl (by decide) rfl (fun ls hl => ?_)
  refine lv_iconst (v := (0 : Int32)) hx hb dX9_restOf_2 rfl ?_
  refine lv_istore_n (lv' := [(3, .int (0 : Int32)), (2, .int (0 : Int32)), (0, .ref h_this), (1, .int p0)]) hx hb dX9_restOf_3 rfl hl (by decide) rfl (fun ls hl => ?_)
  exact hK2 _ _ _ _ (L4 1000 (0 : Int32) (0 : Int32) f_this_pile f_this_s hf) _ _ _ h (lv_sub hl [2, 3, 1, 0] rfl)
def f_X9_layBack_L2 (f_this_laid : Nat → Int32) : Nat → Int32 → (Nat → Int32) → Option ((Nat → Int32))
  | 0, _, _ => none
  | n + 1, v1, g_this_s => (if (65 : Int32) ≤ v1 then some g_this_s else chkI v1 65 (lt1 (f_this_laid v1.toNatClampNeg) (fun (t3 : Int32) => chkI v1 313 (lt1 (v1 + (1 : Int32)) (fun (t5 : Int32) => (f_X9_layBack_L2 f_this_laid n) t5 (upd g_this_s v1.toNatClampNeg t3))))))
def f_X9_layBack (f_this_laid : Nat → Int32) (f_this_s : Nat → Int32) : Option ((Nat → Int32)) := f_X9_layBack_L2 f_this_laid 1000 (0 : Int32) f_this_s
set_option maxRecDepth 100000 in
set_option maxHeartbeats 4000000 in
theorem c_X9_layBack {l : Launch} {G : Gt} {h_this h_this_s h_this_kept h_this_laid h_this_pile h_this_tape h_this_letters h_this_code0 h_this_read h_this_saved h_this_plan h_this_bestPlan h_this_offThen h_this_paidThen h_this_rows h_this_sorts h_this_sizes h_this_number h_this_holds h_this_heldOne h_this_trace : Nat} {x_this_isKept : Int32} {x_this_taped : Int32} {x_this_at : Int32} {x_this_begun : Int32} {x_this_token : Int32} {x_this_value : Int32} {x_this_opened : Int32} {x_this_steps : Int32} {x_this_most : Int32} {x_this_many : Int32} {x_this_few : Int32} {x_this_everHome : Int32} {x_this_firstFit : Int32} {x_this_rowMany : Int32} {x_this_traced : Int32} {x_this_own : Int32} {x_this_isParted : Int32} {f_this_laid : Nat → Int32} {f_this_s : Nat → Int32} {m_this_s : Nat → Int32} (hf : f_X9_layBack f_this_laid f_this_s = some m_this_s) : mFv l G yX9_layBack cX9_layBack 2 0 [.ref h_this] [(h_this, ob 9 [.ref h_this_s, .ref h_this_kept, .ref h_this_laid, .int x_this_isKept, .ref h_this_pile, .ref h_this_tape, .int x_this_taped, .ref h_this_letters, .int x_this_at, .int x_this_begun, .int x_this_token, .int x_this_value, .int x_this_opened, .int x_this_steps, .ref h_this_code0, .ref h_this_read, .ref h_this_saved, .ref h_this_plan, .ref h_this_bestPlan, .int x_this_most, .int x_this_many, .int x_this_few, .int x_this_everHome, .ref h_this_offThen, .ref h_this_paidThen, .int x_this_firstFit, .ref h_this_rows, .int x_this_rowMany, .ref h_this_sorts, .ref h_this_sizes, .ref h_this_number, .ref h_this_holds, .ref h_this_heldOne, .ref h_this_trace, .int x_this_traced, .int x_this_own, .int x_this_isParted]), (h_this_laid, ia G 65 f_this_laid), (h_this_s, ia G 313 f_this_s)] [(h_this, ob 9 [.ref h_this_s, .ref h_this_kept, .ref h_this_laid, .int x_this_isKept, .ref h_this_pile, .ref h_this_tape, .int x_this_taped, .ref h_this_letters, .int x_this_at, .int x_this_begun, .int x_this_token, .int x_this_value, .int x_this_opened, .int x_this_steps, .ref h_this_code0, .ref h_this_read, .ref h_this_saved, .ref h_this_plan, .ref h_this_bestPlan, .int x_this_most, .int x_this_many, .int x_this_few, .int x_this_everHome, .ref h_this_offThen, .ref h_this_paidThen, .int x_this_firstFit, .ref h_this_rows, .int x_this_rowMany, .ref h_this_sorts, .ref h_this_sizes, .ref h_this_number, .ref h_this_holds, .ref h_this_heldOne, .ref h_this_trace, .int x_this_traced, .int x_this_own, .int x_this_isParted]), (h_this_laid, ia G 65 f_this_laid), (h_this_s, ia G 313 m_this_s)] := by
  refine mFv.of (by decide +kernel) (Nat.le_of_ble_eq_true rfl) ?_
  intro p e s m below meth c A C hr hlk h ls hl
  obtain ⟨hx, hb, hml, hown, hts⟩ := id C
  replace hl : lv_has ls 2 [(0, .ref h_this)] := hl
  unfold f_X9_layBack at hf
  refine with_K G A 2 (fun K hK1 hK2 => ?_)
  have L2 : ∀ (n : Nat) (v1 : Int32) (g_this_s : Nat → Int32), f_X9_layBack_L2 f_this_laid n v1 g_this_s = some m_this_s → K 2 ([] : List Value) [(h_this, ob 9 [.ref h_this_s, .ref h_this_kept, .ref h_this_laid, .int x_this_isKept, .ref h_this_pile, .ref h_this_tape, .int x_this_taped, .ref h_this_letters, .int x_this_at, .int x_this_begun, .int x_this_token, .int x_this_value, .int x_this_opened, .int x_this_steps, .ref h_this_code0, .ref h_this_read, .ref h_this_saved, .ref h_this_plan, .ref h_this_bestPlan, .int x_this_most, .int x_this_many, .int x_this_few, .int x_this_everHome, .ref h_this_offThen, .ref h_this_paidThen, .int x_this_firstFit, .ref h_this_rows, .int x_this_rowMany, .ref h_this_sorts, .ref h_this_sizes, .ref h_this_number, .ref h_this_holds, .ref h_this_heldOne, .ref h_this_trace, .int x_this_traced, .int x_this_own, .int x_this_isParted]), (h_this_laid, ia G 65 f_this_laid), (h_this_s, ia G 313 g_this_s)] [(0, .ref h_this), (1, .int v1)] := by
    intro n
    induction n with
    | zero =>
      intro v1 g_this_s hf
      replace hf : (none : Option _) = some _ := hf
      cases hf
    | succ n ih =>
      intro v1 g_this_s hf
      rw [f_X9_layBack_L2] at hf
      refine hK1 _ _ _ _ (fun H locs ls h hl => ?_)
      refine lv_iload_n hx hb dX9_layBack_2 rfl (lv_at hl 1 rfl) ?_
      refine lv_bipush (v := (65 : Int32)) hx hb dX9_layBack_3 rfl ?_
      refine lv_icmp_ge (tgt := 26) hx hb dX9_layBack_5 rfl (fun c1 => ?_) (fun c1 => ?_)
      · replace hf := ifp c1 hf
        cases hf
        exact r_vret C h hr hlk dX9_layBack_26
      · replace hf := ifn c1 hf
        refine lv_aload_n hx hb dX9_layBack_8 rfl (lv_at hl 0 rfl) ?_
        refine r_get C h fk_X9_9 0 rfl rfl dX9_layBack_9 ?_
        refine lv_iload_n hx hb dX9_layBack_12 rfl (lv_at hl 1 rfl) ?_
        refine lv_aload_n hx hb dX9_layBack_13 rfl (lv_at hl 0 rfl) ?_
        refine r_get C h fk_X9_16 0 rfl rfl dX9_layBack_14 ?_
        refine lv_iload_n hx hb dX9_layBack_17 rfl (lv_at hl 1 rfl) ?_
        replace hf := chkI_inv hf
        obtain ⟨hi2, hf⟩ := hf
        refine r_iald C h 1 rfl hi2 dX9_layBack_18 ?_
        refine lv_topi (fun t3 et3 => ?_)
        replace hf := lt1_inv et3 hf
        replace hf := chkI_inv hf
        obtain ⟨hi4, hf⟩ := hf
        refine r_iast (ws' := [(h_this, ob 9 [.ref h_this_s, .ref h_this_kept, .ref h_this_laid, .int x_this_isKept, .ref h_this_pile, .ref h_this_tape, .int x_this_taped, .ref h_this_letters, .int x_this_at, .int x_this_begun, .int x_this_token, .int x_this_value, .int x_this_opened, .int x_this_steps, .ref h_this_code0, .ref h_this_read, .ref h_this_saved, .ref h_this_plan, .ref h_this_bestPlan, .int x_this_most, .int x_this_many, .int x_this_few, .int x_this_everHome, .ref h_this_offThen, .ref h_this_paidThen, .int x_this_firstFit, .ref h_this_rows, .int x_this_rowMany, .ref h_this_sorts, .ref h_this_sizes, .ref h_this_number, .ref h_this_holds, .ref h_this_heldOne, .ref h_this_trace, .int x_this_traced, .int x_this_own, .int x_this_isParted]), (h_this_laid, ia G 65 f_this_laid), (h_this_s, ia G 313 (upd g_this_s v1.toNatClampNeg t3))]) C h 2 rfl hi4 dX9_layBack_19 rfl (fun H locs h => ?_)
        obtain ⟨t5, et5⟩ : ∃ y : Int32, y = v1 + (1 : Int32) := ⟨_, rfl⟩
        replace hf := lt1_inv et5 hf
        refine lv_iinc (v := t5) (lv' := [(1, .int t5), (0, .ref h_this)]) hx hb dX9_layBack_20 hl (k := 1) rfl (by rw [et5]; rfl) (by decide) rfl (fun ls hl => ?_)
        refine lv_goto (tgt := 2) hx hb dX9_layBack_23 rfl ?_
        exact hK2 _ _ _ _ (ih t5 (upd g_this_s v1.toNatClampNeg t3) hf) _ _ _ h (lv_sub hl [1, 0] rfl)
  refine lv_iconst (v := (0 : Int32)) hx hb dX9_layBack_0 rfl ?_
  refine lv_istore_n (lv' := [(1, .int (0 : Int32)), (0, .ref h_this)]) hx hb dX9_layBack_1 rfl hl (by decide) rfl (fun ls hl => ?_)
  exact hK2 _ _ _ _ (L2 1000 (0 : Int32) f_this_s hf) _ _ _ h (lv_sub hl [1, 0] rfl)
def f_X9_on (p0 : Int32) (f_this_laid : Nat → Int32) (f_this_pile : Nat → Int32) (f_this_s : Nat → Int32) : Option (Int32 × (Nat → Int32) × (Nat → Int32) × (Nat → Int32)) := bd1 (f_X9_in1 p0 (0 : Int32) (16 : Int32)) (fun r1 => (if r1 = 0 then some ((-1 : Int32), f_this_laid, f_this_pile, f_this_s) else bd1 (f_X9_layDown f_this_laid f_this_s) (fun g4 => bd3 (f_X9_restOf p0 f_this_pile f_this_s) (fun r6 g7 g8 => bd1 (f_X9_layBack g4 g8) (fun g10 => some (r6, g4, g7, g10))))))
set_option maxRecDepth 100000 in
set_option maxHeartbeats 4000000 in
theorem c_X9_on {l : Launch} {G : Gt} {h_this h_this_s h_this_kept h_this_laid h_this_pile h_this_tape h_this_letters h_this_code0 h_this_read h_this_saved h_this_plan h_this_bestPlan h_this_offThen h_this_paidThen h_this_rows h_this_sorts h_this_sizes h_this_number h_this_holds h_this_heldOne h_this_trace : Nat} {p0 : Int32} {x_this_isKept : Int32} {x_this_taped : Int32} {x_this_at : Int32} {x_this_begun : Int32} {x_this_token : Int32} {x_this_value : Int32} {x_this_opened : Int32} {x_this_steps : Int32} {x_this_most : Int32} {x_this_many : Int32} {x_this_few : Int32} {x_this_everHome : Int32} {x_this_firstFit : Int32} {x_this_rowMany : Int32} {x_this_traced : Int32} {x_this_own : Int32} {x_this_isParted : Int32} {f_this_laid : Nat → Int32} {f_this_pile : Nat → Int32} {f_this_s : Nat → Int32} {r : Int32} {m_this_laid : Nat → Int32} {m_this_pile : Nat → Int32} {m_this_s : Nat → Int32} (hf : f_X9_on p0 f_this_laid f_this_pile f_this_s = some (r, m_this_laid, m_this_pile, m_this_s)) : mFi l G yX9_on cX9_on 3 .int 8 [.ref h_this, .int p0] [(h_this, ob 9 [.ref h_this_s, .ref h_this_kept, .ref h_this_laid, .int x_this_isKept, .ref h_this_pile, .ref h_this_tape, .int x_this_taped, .ref h_this_letters, .int x_this_at, .int x_this_begun, .int x_this_token, .int x_this_value, .int x_this_opened, .int x_this_steps, .ref h_this_code0, .ref h_this_read, .ref h_this_saved, .ref h_this_plan, .ref h_this_bestPlan, .int x_this_most, .int x_this_many, .int x_this_few, .int x_this_everHome, .ref h_this_offThen, .ref h_this_paidThen, .int x_this_firstFit, .ref h_this_rows, .int x_this_rowMany, .ref h_this_sorts, .ref h_this_sizes, .ref h_this_number, .ref h_this_holds, .ref h_this_heldOne, .ref h_this_trace, .int x_this_traced, .int x_this_own, .int x_this_isParted]), (h_this_laid, ia G 65 f_this_laid), (h_this_pile, ia G 200 f_this_pile), (h_this_s, ia G 313 f_this_s)] r [(h_this, ob 9 [.ref h_this_s, .ref h_this_kept, .ref h_this_laid, .int x_this_isKept, .ref h_this_pile, .ref h_this_tape, .int x_this_taped, .ref h_this_letters, .int x_this_at, .int x_this_begun, .int x_this_token, .int x_this_value, .int x_this_opened, .int x_this_steps, .ref h_this_code0, .ref h_this_read, .ref h_this_saved, .ref h_this_plan, .ref h_this_bestPlan, .int x_this_most, .int x_this_many, .int x_this_few, .int x_this_everHome, .ref h_this_offThen, .ref h_this_paidThen, .int x_this_firstFit, .ref h_this_rows, .int x_this_rowMany, .ref h_this_sorts, .ref h_this_sizes, .ref h_this_number, .ref h_this_holds, .ref h_this_heldOne, .ref h_this_trace, .int x_this_traced, .int x_this_own, .int x_this_isParted]), (h_this_laid, ia G 65 m_this_laid), (h_this_pile, ia G 200 m_this_pile), (h_this_s, ia G 313 m_this_s)] := by
  refine mFi.of (by decide +kernel) (Nat.le_of_ble_eq_true rfl) ?_
  intro p e s m below meth c A C hr hlk h ls hl
  obtain ⟨hx, hb, hml, hown, hts⟩ := id C
  replace hl : lv_has ls 3 [(0, .ref h_this), (1, .int p0)] := hl
  unfold f_X9_on at hf
  refine lv_iload_n hx hb dX9_on_0 rfl (lv_at hl 1 rfl) ?_
  refine lv_iconst (v := (0 : Int32)) hx hb dX9_on_1 rfl ?_
  refine lv_bipush (v := (16 : Int32)) hx hb dX9_on_2 rfl ?_
  replace hf := bd1_inv hf
  obtain ⟨r1, hc2, hf⟩ := hf
  refine r_ciS0 C h (c_X9_in1 hc2) ms_X9_71 rfl [] rfl rfl hl.1 rfl (Nat.le_of_ble_eq_true rfl) (rok (by decide)) dX9_on_4 (fun H locs h => ?_)
  refine lv_if_ne (tgt := 12) hx hb dX9_on_7 rfl (fun c3 => ?_) (fun c3 => ?_)
  · replace hf := ifn c3 hf
    refine lv_aload_n hx hb dX9_on_12 rfl (lv_at hl 0 rfl) ?_
    replace hf := bd1_inv hf
    obtain ⟨g4, hc5, hf⟩ := hf
    refine r_cvV (ws' := [(h_this, ob 9 [.ref h_this_s, .ref h_this_kept, .ref h_this_laid, .int x_this_isKept, .ref h_this_pile, .ref h_this_tape, .int x_this_taped, .ref h_this_letters, .int x_this_at, .int x_this_begun, .int x_this_token, .int x_this_value, .int x_this_opened, .int x_this_steps, .ref h_this_code0, .ref h_this_read, .ref h_this_saved, .ref h_this_plan, .ref h_this_bestPlan, .int x_this_most, .int x_this_many, .int x_this_few, .int x_this_everHome, .ref h_this_offThen, .ref h_this_paidThen, .int x_this_firstFit, .ref h_this_rows, .int x_this_rowMany, .ref h_this_sorts, .ref h_this_sizes, .ref h_this_number, .ref h_this_holds, .ref h_this_heldOne, .ref h_this_trace, .int x_this_traced, .int x_this_own, .int x_this_isParted]), (h_this_laid, ia G 65 g4), (h_this_pile, ia G 200 f_this_pile), (h_this_s, ia G 313 f_this_s)]) C h (c_X9_layDown hc5) mv_X9_241 rfl 0 rfl [0, 1, 3] rfl rfl rfl rfl rfl hl.1 rfl (Nat.le_of_ble_eq_true rfl) (rok (by decide)) dX9_on_13 (fun H locs h => ?_)
    refine lv_aload_n hx hb dX9_on_16 rfl (lv_at hl 0 rfl) ?_
    refine lv_iload_n hx hb dX9_on_17 rfl (lv_at hl 1 rfl) ?_
    replace hf := bd3_inv hf
    obtain ⟨r6, g7, g8, hc9, hf⟩ := hf
    refine r_ciV (ws' := [(h_this, ob 9 [.ref h_this_s, .ref h_this_kept, .ref h_this_laid, .int x_this_isKept, .ref h_this_pile, .ref h_this_tape, .int x_this_taped, .ref h_this_letters, .int x_this_at, .int x_this_begun, .int x_this_token, .int x_this_value, .int x_this_opened, .int x_this_steps, .ref h_this_code0, .ref h_this_read, .ref h_this_saved, .ref h_this_plan, .ref h_this_bestPlan, .int x_this_most, .int x_this_many, .int x_this_few, .int x_this_everHome, .ref h_this_offThen, .ref h_this_paidThen, .int x_this_firstFit, .ref h_this_rows, .int x_this_rowMany, .ref h_this_sorts, .ref h_this_sizes, .ref h_this_number, .ref h_this_holds, .ref h_this_heldOne, .ref h_this_trace, .int x_this_traced, .int x_this_own, .int x_this_isParted]), (h_this_laid, ia G 65 g4), (h_this_pile, ia G 200 g7), (h_this_s, ia G 313 g8)]) C h (c_X9_restOf hc9) mv_X9_244 rfl 0 rfl [0, 2, 3] rfl rfl rfl rfl rfl hl.1 rfl (Nat.le_of_ble_eq_true rfl) (rok (by decide)) dX9_on_18 (fun H locs h => ?_)
    refine lv_istore_n (lv' := [(2, .int r6), (0, .ref h_this), (1, .int p0)]) hx hb dX9_on_21 rfl hl (by decide) rfl (fun ls hl => ?_)
    refine lv_aload_n hx hb dX9_on_22 rfl (lv_at hl 1 rfl) ?_
    replace hf := bd1_inv hf
    obtain ⟨g10, hc11, hf⟩ := hf
    refine r_cvV (ws' := [(h_this, ob 9 [.ref h_this_s, .ref h_this_kept, .ref h_this_laid, .int x_this_isKept, .ref h_this_pile, .ref h_this_tape, .int x_this_taped, .ref h_this_letters, .int x_this_at, .int x_this_begun, .int x_this_token, .int x_this_value, .int x_this_opened, .int x_this_steps, .ref h_this_code0, .ref h_this_read, .ref h_this_saved, .ref h_this_plan, .ref h_this_bestPlan, .int x_this_most, .int x_this_many, .int x_this_few, .int x_this_everHome, .ref h_this_offThen, .ref h_this_paidThen, .int x_this_firstFit, .ref h_this_rows, .int x_this_rowMany, .ref h_this_sorts, .ref h_this_sizes, .ref h_this_number, .ref h_this_holds, .ref h_this_heldOne, .ref h_this_trace, .int x_this_traced, .int x_this_own, .int x_this_isParted]), (h_this_laid, ia G 65 g4), (h_this_pile, ia G 200 g7), (h_this_s, ia G 313 g10)]) C h (c_X9_layBack hc11) mv_X9_247 rfl 0 rfl [0, 1, 3] rfl rfl rfl rfl rfl hl.1 rfl (Nat.le_of_ble_eq_true rfl) (rok (by decide)) dX9_on_23 (fun H locs h => ?_)
    refine lv_iload_n hx hb dX9_on_26 rfl (lv_at hl 0 rfl) ?_
    cases hf
    exact r_iret C h hr hlk rfl dX9_on_27
  · replace hf := ifp c3 hf
    refine lv_iconst (v := (-1 : Int32)) hx hb dX9_on_10 rfl ?_
    cases hf
    exact r_iret C h hr hlk rfl dX9_on_11
def f_X9_when_b64 (rec32 : Int32 → Int32 → (Nat → Int32) → (Nat → Int32) → (Nat → Int32) → Option (Int32 × (Nat → Int32) × (Nat → Int32) × (Nat → Int32))) (v4 : Int32) (s0 : Int32) (g_this_laid : Nat → Int32) (g_this_pile : Nat → Int32) (g_this_s : Nat → Int32) : Option (Int32 × (Nat → Int32) × (Nat → Int32) × (Nat → Int32)) := (if s0 = 0 then (if 0 ≤ v4 then lt1 ((g_this_s 0) - (1 : Int32)) (fun (t26 : Int32) => rec32 t26 s0 g_this_laid g_this_pile g_this_s) else rec32 (-3 : Int32) s0 g_this_laid g_this_pile g_this_s) else rec32 (-3 : Int32) s0 g_this_laid g_this_pile g_this_s)
def f_X9_when_L32 (p0 : Int32) : Nat → Int32 → Int32 → (Nat → Int32) → (Nat → Int32) → (Nat → Int32) → Option (Int32 × (Nat → Int32) × (Nat → Int32) × (Nat → Int32))
  | 0, _, _, _, _, _ => none
  | n + 1, v2, v3, g_this_laid, g_this_pile, g_this_s => (if v3 = 0 then bd1 (f_X9_layBack g_this_laid g_this_s) (fun g10 => some (v2, g_this_laid, g_this_pile, g10)) else bd1 (f_X9_isOver g_this_s) (fun r12 => (if r12 = 0 then bd3 (f_X9_goesBy (-1 : Int32) g_this_pile g_this_s) (fun r17 g18 g19 => bd1 (f_X9_get p0 (4 : Int32) g19) (fun r21 => (if r21 = 0 then f_X9_when_b64 (f_X9_when_L32 p0 n) r17 (1 : Int32) g_this_laid g18 g19 else f_X9_when_b64 (f_X9_when_L32 p0 n) r17 (0 : Int32) g_this_laid g18 g19))) else bd1 (f_X9_layBack g_this_laid g_this_s) (fun g15 => some (v2, g_this_laid, g_this_pile, g15)))))
def f_X9_when_b31 (p0 : Int32) (f_this_pile : Nat → Int32) (f_this_s : Nat → Int32) (v2 : Int32) (s0 : Int32) (g_this_laid : Nat → Int32) : Option (Int32 × (Nat → Int32) × (Nat → Int32) × (Nat → Int32)) := f_X9_when_L32 p0 1000 v2 s0 g_this_laid f_this_pile f_this_s
def f_X9_when (p0 : Int32) (f_this_laid : Nat → Int32) (f_this_pile : Nat → Int32) (f_this_s : Nat → Int32) : Option (Int32 × (Nat → Int32) × (Nat → Int32) × (Nat → Int32)) := bd1 (f_X9_isShip p0 f_this_s) (fun r1 => (if r1 = 0 then some ((-1 : Int32), f_this_laid, f_this_pile, f_this_s) else bd1 (f_X9_layDown f_this_laid f_this_s) (fun g4 => bd1 (f_X9_get p0 (4 : Int32) f_this_s) (fun r6 => (if r6 = 0 then f_X9_when_b31 p0 f_this_pile f_this_s (-3 : Int32) (1 : Int32) g4 else f_X9_when_b31 p0 f_this_pile f_this_s (-3 : Int32) (0 : Int32) g4)))))
set_option maxRecDepth 100000 in
set_option maxHeartbeats 4000000 in
theorem c_X9_when {l : Launch} {G : Gt} {h_this h_this_s h_this_kept h_this_laid h_this_pile h_this_tape h_this_letters h_this_code0 h_this_read h_this_saved h_this_plan h_this_bestPlan h_this_offThen h_this_paidThen h_this_rows h_this_sorts h_this_sizes h_this_number h_this_holds h_this_heldOne h_this_trace : Nat} {p0 : Int32} {x_this_isKept : Int32} {x_this_taped : Int32} {x_this_at : Int32} {x_this_begun : Int32} {x_this_token : Int32} {x_this_value : Int32} {x_this_opened : Int32} {x_this_steps : Int32} {x_this_most : Int32} {x_this_many : Int32} {x_this_few : Int32} {x_this_everHome : Int32} {x_this_firstFit : Int32} {x_this_rowMany : Int32} {x_this_traced : Int32} {x_this_own : Int32} {x_this_isParted : Int32} {f_this_laid : Nat → Int32} {f_this_pile : Nat → Int32} {f_this_s : Nat → Int32} {r : Int32} {m_this_laid : Nat → Int32} {m_this_pile : Nat → Int32} {m_this_s : Nat → Int32} (hf : f_X9_when p0 f_this_laid f_this_pile f_this_s = some (r, m_this_laid, m_this_pile, m_this_s)) : mFi l G yX9_when cX9_when 5 .int 7 [.ref h_this, .int p0] [(h_this, ob 9 [.ref h_this_s, .ref h_this_kept, .ref h_this_laid, .int x_this_isKept, .ref h_this_pile, .ref h_this_tape, .int x_this_taped, .ref h_this_letters, .int x_this_at, .int x_this_begun, .int x_this_token, .int x_this_value, .int x_this_opened, .int x_this_steps, .ref h_this_code0, .ref h_this_read, .ref h_this_saved, .ref h_this_plan, .ref h_this_bestPlan, .int x_this_most, .int x_this_many, .int x_this_few, .int x_this_everHome, .ref h_this_offThen, .ref h_this_paidThen, .int x_this_firstFit, .ref h_this_rows, .int x_this_rowMany, .ref h_this_sorts, .ref h_this_sizes, .ref h_this_number, .ref h_this_holds, .ref h_this_heldOne, .ref h_this_trace, .int x_this_traced, .int x_this_own, .int x_this_isParted]), (h_this_laid, ia G 65 f_this_laid), (h_this_pile, ia G 200 f_this_pile), (h_this_s, ia G 313 f_this_s)] r [(h_this, ob 9 [.ref h_this_s, .ref h_this_kept, .ref h_this_laid, .int x_this_isKept, .ref h_this_pile, .ref h_this_tape, .int x_this_taped, .ref h_this_letters, .int x_this_at, .int x_this_begun, .int x_this_token, .int x_this_value, .int x_this_opened, .int x_this_steps, .ref h_this_code0, .ref h_this_read, .ref h_this_saved, .ref h_this_plan, .ref h_this_bestPlan, .int x_this_most, .int x_this_many, .int x_this_few, .int x_this_everHome, .ref h_this_offThen, .ref h_this_paidThen, .int x_this_firstFit, .ref h_this_rows, .int x_this_rowMany, .ref h_this_sorts, .ref h_this_sizes, .ref h_this_number, .ref h_this_holds, .ref h_this_heldOne, .ref h_this_trace, .int x_this_traced, .int x_this_own, .int x_this_isParted]), (h_this_laid, ia G 65 m_this_laid), (h_this_pile, ia G 200 m_this_pile), (h_this_s, ia G 313 m_this_s)] := by
  refine mFi.of (by decide +kernel) (Nat.le_of_ble_eq_true rfl) ?_
  intro p e s m below meth c A C hr hlk h ls hl
  obtain ⟨hx, hb, hml, hown, hts⟩ := id C
  replace hl : lv_has ls 5 [(0, .ref h_this), (1, .int p0)] := hl
  unfold f_X9_when at hf
  refine with_K G A 5 (fun K hK1 hK2 => ?_)
  have B64 : ∀ (rec32 : Int32 → Int32 → (Nat → Int32) → (Nat → Int32) → (Nat → Int32) → Option (Int32 × (Nat → Int32) × (Nat → Int32) × (Nat → Int32))) (hrec32 : ∀ (v2 : Int32) (v3 : Int32) (g_this_laid : Nat → Int32) (g_this_pile : Nat → Int32) (g_this_s : Nat → Int32), rec32 v2 v3 g_this_laid g_this_pile g_this_s = some (r, m_this_laid, m_this_pile, m_this_s) → K 32 ([] : List Value) [(h_this, ob 9 [.ref h_this_s, .ref h_this_kept, .ref h_this_laid, .int x_this_isKept, .ref h_this_pile, .ref h_this_tape, .int x_this_taped, .ref h_this_letters, .int x_this_at, .int x_this_begun, .int x_this_token, .int x_this_value, .int x_this_opened, .int x_this_steps, .ref h_this_code0, .ref h_this_read, .ref h_this_saved, .ref h_this_plan, .ref h_this_bestPlan, .int x_this_most, .int x_this_many, .int x_this_few, .int x_this_everHome, .ref h_this_offThen, .ref h_this_paidThen, .int x_this_firstFit, .ref h_this_rows, .int x_this_rowMany, .ref h_this_sorts, .ref h_this_sizes, .ref h_this_number, .ref h_this_holds, .ref h_this_heldOne, .ref h_this_trace, .int x_this_traced, .int x_this_own, .int x_this_isParted]), (h_this_laid, ia G 65 g_this_laid), (h_this_pile, ia G 200 g_this_pile), (h_this_s, ia G 313 g_this_s)] [(0, .ref h_this), (1, .int p0), (2, .int v2), (3, .int v3)]) (v4 : Int32) (s0 : Int32) (g_this_laid : Nat → Int32) (g_this_pile : Nat → Int32) (g_this_s : Nat → Int32), f_X9_when_b64 rec32 v4 s0 g_this_laid g_this_pile g_this_s = some (r, m_this_laid, m_this_pile, m_this_s) → K 64 [.int s0] [(h_this, ob 9 [.ref h_this_s, .ref h_this_kept, .ref h_this_laid, .int x_this_isKept, .ref h_this_pile, .ref h_this_tape, .int x_this_taped, .ref h_this_letters, .int x_this_at, .int x_this_begun, .int x_this_token, .int x_this_value, .int x_this_opened, .int x_this_steps, .ref h_this_code0, .ref h_this_read, .ref h_this_saved, .ref h_this_plan, .ref h_this_bestPlan, .int x_this_most, .int x_this_many, .int x_this_few, .int x_this_everHome, .ref h_this_offThen, .ref h_this_paidThen, .int x_this_firstFit, .ref h_this_rows, .int x_this_rowMany, .ref h_this_sorts, .ref h_this_sizes, .ref h_this_number, .ref h_this_holds, .ref h_this_heldOne, .ref h_this_trace, .int x_this_traced, .int x_this_own, .int x_this_isParted]), (h_this_laid, ia G 65 g_this_laid), (h_this_pile, ia G 200 g_this_pile), (h_this_s, ia G 313 g_this_s)] [(0, .ref h_this), (1, .int p0), (4, .int v4)] := by
    intro rec32 hrec32 v4 s0 g_this_laid g_this_pile g_this_s hf
    unfold f_X9_when_b64 at hf
    refine hK1 _ _ _ _ (fun H locs ls h hl => ?_)
    refine lv_istore_n (lv' := [(3, .int s0), (0, .ref h_this), (1, .int p0), (4, .int v4)]) hx hb dX9_when_64 rfl hl (by decide) rfl (fun ls hl => ?_)
    refine lv_iload_n hx hb dX9_when_65 rfl (lv_at hl 0 rfl) ?_
    refine lv_if_ne (tgt := 74) hx hb dX9_when_66 rfl (fun c24 => ?_) (fun c24 => ?_)
    · replace hf := ifn c24 hf
      refine lv_bipush (v := (-3 : Int32)) hx hb dX9_when_74 rfl ?_
      refine lv_goto (tgt := 87) hx hb dX9_when_76 rfl ?_
      refine lv_istore_n (lv' := [(2, .int (-3 : Int32)), (3, .int s0), (0, .ref h_this), (1, .int p0), (4, .int v4)]) hx hb dX9_when_87 rfl hl (by decide) rfl (fun ls hl => ?_)
      refine lv_goto (tgt := 32) hx hb dX9_when_88 rfl ?_
      exact hK2 _ _ _ _ (hrec32 (-3 : Int32) s0 g_this_laid g_this_pile g_this_s hf) _ _ _ h (lv_sub hl [2, 3, 0, 1] rfl)
    · replace hf := ifp c24 hf
      refine lv_iload hx hb dX9_when_69 (lv_at hl 3 rfl) ?_
      refine lv_if_ge (tgt := 79) hx hb dX9_when_71 rfl (fun c25 => ?_) (fun c25 => ?_)
      · replace hf := ifp c25 hf
        refine lv_aload_n hx hb dX9_when_79 rfl (lv_at hl 1 rfl) ?_
        refine r_get C h fk_X9_9 0 rfl rfl dX9_when_80 ?_
        refine lv_iconst (v := (0 : Int32)) hx hb dX9_when_83 rfl ?_
        refine r_ialdL C h 3 rfl (vlit rfl) 0 rfl dX9_when_84 ?_
        refine lv_iconst (v := (1 : Int32)) hx hb dX9_when_85 rfl ?_
        refine lv_isub hx hb dX9_when_86 ?_
        refine lv_topi (fun t26 et26 => ?_)
        replace hf := lt1_inv et26 hf
        refine lv_istore_n (lv' := [(2, .int t26), (3, .int s0), (0, .ref h_this), (1, .int p0), (4, .int v4)]) hx hb dX9_when_87 rfl hl (by decide) rfl (fun ls hl => ?_)
        refine lv_goto (tgt := 32) hx hb dX9_when_88 rfl ?_
        exact hK2 _ _ _ _ (hrec32 t26 s0 g_this_laid g_this_pile g_this_s hf) _ _ _ h (lv_sub hl [2, 3, 0, 1] rfl)
      · replace hf := ifn c25 hf
        refine lv_bipush (v := (-3 : Int32)) hx hb dX9_when_74 rfl ?_
        refine lv_goto (tgt := 87) hx hb dX9_when_76 rfl ?_
        refine lv_istore_n (lv' := [(2, .int (-3 : Int32)), (3, .int s0), (0, .ref h_this), (1, .int p0), (4, .int v4)]) hx hb dX9_when_87 rfl hl (by decide) rfl (fun ls hl => ?_)
        refine lv_goto (tgt := 32) hx hb dX9_when_88 rfl ?_
        exact hK2 _ _ _ _ (hrec32 (-3 : Int32) s0 g_this_laid g_this_pile g_this_s hf) _ _ _ h (lv_sub hl [2, 3, 0, 1] rfl)
  have L32 : ∀ (n : Nat) (v2 : Int32) (v3 : Int32) (g_this_laid : Nat → Int32) (g_this_pile : Nat → Int32) (g_this_s : Nat → Int32), f_X9_when_L32 p0 n v2 v3 g_this_laid g_this_pile g_this_s = some (r, m_this_laid, m_this_pile, m_this_s) → K 32 ([] : List Value) [(h_this, ob 9 [.ref h_this_s, .ref h_this_kept, .ref h_this_laid, .int x_this_isKept, .ref h_this_pile, .ref h_this_tape, .int x_this_taped, .ref h_this_letters, .int x_this_at, .int x_this_begun, .int x_this_token, .int x_this_value, .int x_this_opened, .int x_this_steps, .ref h_this_code0, .ref h_this_read, .ref h_this_saved, .ref h_this_plan, .ref h_this_bestPlan, .int x_this_most, .int x_this_many, .int x_this_few, .int x_this_everHome, .ref h_this_offThen, .ref h_this_paidThen, .int x_this_firstFit, .ref h_this_rows, .int x_this_rowMany, .ref h_this_sorts, .ref h_this_sizes, .ref h_this_number, .ref h_this_holds, .ref h_this_heldOne, .ref h_this_trace, .int x_this_traced, .int x_this_own, .int x_this_isParted]), (h_this_laid, ia G 65 g_this_laid), (h_this_pile, ia G 200 g_this_pile), (h_this_s, ia G 313 g_this_s)] [(0, .ref h_this), (1, .int p0), (2, .int v2), (3, .int v3)] := by
    intro n
    induction n with
    | zero =>
      intro v2 v3 g_this_laid g_this_pile g_this_s hf
      replace hf : (none : Option _) = some _ := hf
      cases hf
    | succ n ih =>
      intro v2 v3 g_this_laid g_this_pile g_this_s hf
      rw [f_X9_when_L32] at hf
      refine hK1 _ _ _ _ (fun H locs ls h hl => ?_)
      refine lv_iload_n hx hb dX9_when_32 rfl (lv_at hl 3 rfl) ?_
      refine lv_if_eq (tgt := 91) hx hb dX9_when_33 rfl (fun c9 => ?_) (fun c9 => ?_)
      · replace hf := ifp c9 hf
        refine lv_aload_n hx hb dX9_when_91 rfl (lv_at hl 0 rfl) ?_
        replace hf := bd1_inv hf
        obtain ⟨g10, hc11, hf⟩ := hf
        refine r_cvV (ws' := [(h_this, ob 9 [.ref h_this_s, .ref h_this_kept, .ref h_this_laid, .int x_this_isKept, .ref h_this_pile, .ref h_this_tape, .int x_this_taped, .ref h_this_letters, .int x_this_at, .int x_this_begun, .int x_this_token, .int x_this_value, .int x_this_opened, .int x_this_steps, .ref h_this_code0, .ref h_this_read, .ref h_this_saved, .ref h_this_plan, .ref h_this_bestPlan, .int x_this_most, .int x_this_many, .int x_this_few, .int x_this_everHome, .ref h_this_offThen, .ref h_this_paidThen, .int x_this_firstFit, .ref h_this_rows, .int x_this_rowMany, .ref h_this_sorts, .ref h_this_sizes, .ref h_this_number, .ref h_this_holds, .ref h_this_heldOne, .ref h_this_trace, .int x_this_traced, .int x_this_own, .int x_this_isParted]), (h_this_laid, ia G 65 g_this_laid), (h_this_pile, ia G 200 g_this_pile), (h_this_s, ia G 313 g10)]) C h (c_X9_layBack hc11) mv_X9_247 rfl 0 rfl [0, 1, 3] rfl rfl rfl rfl rfl hl.1 rfl (Nat.le_of_ble_eq_true rfl) (rok (by decide)) dX9_when_92 (fun H locs h => ?_)
        refine lv_iload_n hx hb dX9_when_95 rfl (lv_at hl 2 rfl) ?_
        cases hf
        exact r_iret C h hr hlk rfl dX9_when_96
      · replace hf := ifn c9 hf
        refine lv_aload_n hx hb dX9_when_36 rfl (lv_at hl 0 rfl) ?_
        replace hf := bd1_inv hf
        obtain ⟨r12, hc13, hf⟩ := hf
        refine r_ciV0 C h (c_X9_isOver hc13) mv_X9_232 rfl 0 rfl [0, 3] rfl rfl hl.1 rfl (Nat.le_of_ble_eq_true rfl) (rok (by decide)) dX9_when_37 (fun H locs h => ?_)
        refine lv_if_ne (tgt := 91) hx hb dX9_when_40 rfl (fun c14 => ?_) (fun c14 => ?_)
        · replace hf := ifn c14 hf
          refine lv_aload_n hx hb dX9_when_91 rfl (lv_at hl 0 rfl) ?_
          replace hf := bd1_inv hf
          obtain ⟨g15, hc16, hf⟩ := hf
          refine r_cvV (ws' := [(h_this, ob 9 [.ref h_this_s, .ref h_this_kept, .ref h_this_laid, .int x_this_isKept, .ref h_this_pile, .ref h_this_tape, .int x_this_taped, .ref h_this_letters, .int x_this_at, .int x_this_begun, .int x_this_token, .int x_this_value, .int x_this_opened, .int x_this_steps, .ref h_this_code0, .ref h_this_read, .ref h_this_saved, .ref h_this_plan, .ref h_this_bestPlan, .int x_this_most, .int x_this_many, .int x_this_few, .int x_this_everHome, .ref h_this_offThen, .ref h_this_paidThen, .int x_this_firstFit, .ref h_this_rows, .int x_this_rowMany, .ref h_this_sorts, .ref h_this_sizes, .ref h_this_number, .ref h_this_holds, .ref h_this_heldOne, .ref h_this_trace, .int x_this_traced, .int x_this_own, .int x_this_isParted]), (h_this_laid, ia G 65 g_this_laid), (h_this_pile, ia G 200 g_this_pile), (h_this_s, ia G 313 g15)]) C h (c_X9_layBack hc16) mv_X9_247 rfl 0 rfl [0, 1, 3] rfl rfl rfl rfl rfl hl.1 rfl (Nat.le_of_ble_eq_true rfl) (rok (by decide)) dX9_when_92 (fun H locs h => ?_)
          refine lv_iload_n hx hb dX9_when_95 rfl (lv_at hl 2 rfl) ?_
          cases hf
          exact r_iret C h hr hlk rfl dX9_when_96
        · replace hf := ifp c14 hf
          refine lv_aload_n hx hb dX9_when_43 rfl (lv_at hl 0 rfl) ?_
          refine lv_iconst (v := (-1 : Int32)) hx hb dX9_when_44 rfl ?_
          replace hf := bd3_inv hf
          obtain ⟨r17, g18, g19, hc20, hf⟩ := hf
          refine r_ciV (ws' := [(h_this, ob 9 [.ref h_this_s, .ref h_this_kept, .ref h_this_laid, .int x_this_isKept, .ref h_this_pile, .ref h_this_tape, .int x_this_taped, .ref h_this_letters, .int x_this_at, .int x_this_begun, .int x_this_token, .int x_this_value, .int x_this_opened, .int x_this_steps, .ref h_this_code0, .ref h_this_read, .ref h_this_saved, .ref h_this_plan, .ref h_this_bestPlan, .int x_this_most, .int x_this_many, .int x_this_few, .int x_this_everHome, .ref h_this_offThen, .ref h_this_paidThen, .int x_this_firstFit, .ref h_this_rows, .int x_this_rowMany, .ref h_this_sorts, .ref h_this_sizes, .ref h_this_number, .ref h_this_holds, .ref h_this_heldOne, .ref h_this_trace, .int x_this_traced, .int x_this_own, .int x_this_isParted]), (h_this_laid, ia G 65 g_this_laid), (h_this_pile, ia G 200 g18), (h_this_s, ia G 313 g19)]) C h (c_X9_goesBy hc20) mv_X9_238 rfl 0 rfl [0, 2, 3] rfl rfl rfl rfl rfl hl.1 rfl (Nat.le_of_ble_eq_true rfl) (rok (by decide)) dX9_when_45 (fun H locs h => ?_)
          refine lv_istore (lv' := [(4, .int r17), (0, .ref h_this), (1, .int p0), (2, .int v2), (3, .int v3)]) hx hb dX9_when_48 hl (by decide) rfl (fun ls hl => ?_)
          refine lv_aload_n hx hb dX9_when_50 rfl (lv_at hl 1 rfl) ?_
          refine lv_iload_n hx hb dX9_when_51 rfl (lv_at hl 2 rfl) ?_
          refine lv_iconst (v := (4 : Int32)) hx hb dX9_when_52 rfl ?_
          replace hf := bd1_inv hf
          obtain ⟨r21, hc22, hf⟩ := hf
          refine r_ciV0 C h (c_X9_get hc22) mv_X9_79 rfl 0 rfl [0, 3] rfl rfl hl.1 rfl (Nat.le_of_ble_eq_true rfl) (rok (by decide)) dX9_when_53 (fun H locs h => ?_)
          refine lv_if_ne (tgt := 63) hx hb dX9_when_56 rfl (fun c23 => ?_) (fun c23 => ?_)
          · replace hf := ifn c23 hf
            refine lv_iconst (v := (0 : Int32)) hx hb dX9_when_63 rfl ?_
            exact hK2 _ _ _ _ (B64 _ ih r17 (0 : Int32) g_this_laid g18 g19 hf) _ _ _ h (lv_sub hl [1, 2, 0] rfl)
          · replace hf := ifp c23 hf
            refine lv_iconst (v := (1 : Int32)) hx hb dX9_when_59 rfl ?_
            refine lv_goto (tgt := 64) hx hb dX9_when_60 rfl ?_
            exact hK2 _ _ _ _ (B64 _ ih r17 (1 : Int32) g_this_laid g18 g19 hf) _ _ _ h (lv_sub hl [1, 2, 0] rfl)
  have B31 : ∀ (v2 : Int32) (s0 : Int32) (g_this_laid : Nat → Int32), f_X9_when_b31 p0 f_this_pile f_this_s v2 s0 g_this_laid = some (r, m_this_laid, m_this_pile, m_this_s) → K 31 [.int s0] [(h_this, ob 9 [.ref h_this_s, .ref h_this_kept, .ref h_this_laid, .int x_this_isKept, .ref h_this_pile, .ref h_this_tape, .int x_this_taped, .ref h_this_letters, .int x_this_at, .int x_this_begun, .int x_this_token, .int x_this_value, .int x_this_opened, .int x_this_steps, .ref h_this_code0, .ref h_this_read, .ref h_this_saved, .ref h_this_plan, .ref h_this_bestPlan, .int x_this_most, .int x_this_many, .int x_this_few, .int x_this_everHome, .ref h_this_offThen, .ref h_this_paidThen, .int x_this_firstFit, .ref h_this_rows, .int x_this_rowMany, .ref h_this_sorts, .ref h_this_sizes, .ref h_this_number, .ref h_this_holds, .ref h_this_heldOne, .ref h_this_trace, .int x_this_traced, .int x_this_own, .int x_this_isParted]), (h_this_laid, ia G 65 g_this_laid), (h_this_pile, ia G 200 f_this_pile), (h_this_s, ia G 313 f_this_s)] [(0, .ref h_this), (1, .int p0), (2, .int v2)] := by
    intro v2 s0 g_this_laid hf
    unfold f_X9_when_b31 at hf
    refine hK1 _ _ _ _ (fun H locs ls h hl => ?_)
    refine lv_istore_n (lv' := [(3, .int s0), (0, .ref h_this), (1, .int p0), (2, .int v2)]) hx hb dX9_when_31 rfl hl (by decide) rfl (fun ls hl => ?_)
    exact hK2 _ _ _ _ (L32 1000 v2 s0 g_this_laid f_this_pile f_this_s hf) _ _ _ h (lv_sub hl [1, 2, 3, 0] rfl)
  refine lv_aload_n hx hb dX9_when_0 rfl (lv_at hl 0 rfl) ?_
  refine lv_iload_n hx hb dX9_when_1 rfl (lv_at hl 1 rfl) ?_
  replace hf := bd1_inv hf
  obtain ⟨r1, hc2, hf⟩ := hf
  refine r_ciV0 C h (c_X9_isShip hc2) mv_X9_226 rfl 0 rfl [0, 3] rfl rfl hl.1 rfl (Nat.le_of_ble_eq_true rfl) (rok (by decide)) dX9_when_2 (fun H locs h => ?_)
  refine lv_if_ne (tgt := 10) hx hb dX9_when_5 rfl (fun c3 => ?_) (fun c3 => ?_)
  · replace hf := ifn c3 hf
    refine lv_aload_n hx hb dX9_when_10 rfl (lv_at hl 0 rfl) ?_
    replace hf := bd1_inv hf
    obtain ⟨g4, hc5, hf⟩ := hf
    refine r_cvV (ws' := [(h_this, ob 9 [.ref h_this_s, .ref h_this_kept, .ref h_this_laid, .int x_this_isKept, .ref h_this_pile, .ref h_this_tape, .int x_this_taped, .ref h_this_letters, .int x_this_at, .int x_this_begun, .int x_this_token, .int x_this_value, .int x_this_opened, .int x_this_steps, .ref h_this_code0, .ref h_this_read, .ref h_this_saved, .ref h_this_plan, .ref h_this_bestPlan, .int x_this_most, .int x_this_many, .int x_this_few, .int x_this_everHome, .ref h_this_offThen, .ref h_this_paidThen, .int x_this_firstFit, .ref h_this_rows, .int x_this_rowMany, .ref h_this_sorts, .ref h_this_sizes, .ref h_this_number, .ref h_this_holds, .ref h_this_heldOne, .ref h_this_trace, .int x_this_traced, .int x_this_own, .int x_this_isParted]), (h_this_laid, ia G 65 g4), (h_this_pile, ia G 200 f_this_pile), (h_this_s, ia G 313 f_this_s)]) C h (c_X9_layDown hc5) mv_X9_241 rfl 0 rfl [0, 1, 3] rfl rfl rfl rfl rfl hl.1 rfl (Nat.le_of_ble_eq_true rfl) (rok (by decide)) dX9_when_11 (fun H locs h => ?_)
    refine lv_bipush (v := (-3 : Int32)) hx hb dX9_when_14 rfl ?_
    refine lv_istore_n (lv' := [(2, .int (-3 : Int32)), (0, .ref h_this), (1, .int p0)]) hx hb dX9_when_16 rfl hl (by decide) rfl (fun ls hl => ?_)
    refine lv_aload_n hx hb dX9_when_17 rfl (lv_at hl 1 rfl) ?_
    refine lv_iload_n hx hb dX9_when_18 rfl (lv_at hl 2 rfl) ?_
    refine lv_iconst (v := (4 : Int32)) hx hb dX9_when_19 rfl ?_
    replace hf := bd1_inv hf
    obtain ⟨r6, hc7, hf⟩ := hf
    refine r_ciV0 C h (c_X9_get hc7) mv_X9_79 rfl 0 rfl [0, 3] rfl rfl hl.1 rfl (Nat.le_of_ble_eq_true rfl) (rok (by decide)) dX9_when_20 (fun H locs h => ?_)
    refine lv_if_ne (tgt := 30) hx hb dX9_when_23 rfl (fun c8 => ?_) (fun c8 => ?_)
    · replace hf := ifn c8 hf
      refine lv_iconst (v := (0 : Int32)) hx hb dX9_when_30 rfl ?_
      exact hK2 _ _ _ _ (B31 (-3 : Int32) (0 : Int32) g4 hf) _ _ _ h (lv_sub hl [1, 2, 0] rfl)
    · replace hf := ifp c8 hf
      refine lv_iconst (v := (1 : Int32)) hx hb dX9_when_26 rfl ?_
      refine lv_goto (tgt := 31) hx hb dX9_when_27 rfl ?_
      exact hK2 _ _ _ _ (B31 (-3 : Int32) (1 : Int32) g4 hf) _ _ _ h (lv_sub hl [1, 2, 0] rfl)
  · replace hf := ifp c3 hf
    refine lv_iconst (v := (-1 : Int32)) hx hb dX9_when_8 rfl ?_
    cases hf
    exact r_iret C h hr hlk rfl dX9_when_9
def f_X9_bestFor_b59 (rec23 : Int32 → Int32 → Int32 → (Nat → Int32) → (Nat → Int32) → (Nat → Int32) → Option (Int32 × (Nat → Int32) × (Nat → Int32) × (Nat → Int32))) (v5 : Int32) (v6 : Int32) (v7 : Int32) (s0 : Int32) (g_this_laid : Nat → Int32) (g_this_pile : Nat → Int32) (g_this_s : Nat → Int32) : Option (Int32 × (Nat → Int32) × (Nat → Int32) × (Nat → Int32)) := (if v7 ≤ v5 then bd1 (f_X9_layBack g_this_laid g_this_s) (fun g15 => lt1 (v6 + (1 : Int32)) (fun (t17 : Int32) => rec23 s0 v5 t17 g_this_laid g_this_pile g15)) else bd1 (f_X9_layBack g_this_laid g_this_s) (fun g18 => lt1 (v6 + (1 : Int32)) (fun (t20 : Int32) => rec23 s0 v7 t20 g_this_laid g_this_pile g18)))
def f_X9_bestFor_L23 (p0 : Int32) (p1 : Int32) (p2 : Int32) : Nat → Int32 → Int32 → Int32 → (Nat → Int32) → (Nat → Int32) → (Nat → Int32) → Option (Int32 × (Nat → Int32) × (Nat → Int32) × (Nat → Int32))
  | 0, _, _, _, _, _, _ => none
  | n + 1, v4, v5, v6, g_this_laid, g_this_pile, g_this_s => (if p2 < v6 then some (v4, g_this_laid, g_this_pile, g_this_s) else bd1 (f_X9_puts p0 p1 v6 g_this_s) (fun g7 => bd3 (f_X9_restOf (16 : Int32) g_this_pile g7) (fun r9 g10 g11 => (if r9 ≤ v5 then f_X9_bestFor_b59 (f_X9_bestFor_L23 p0 p1 p2 n) v5 v6 r9 v4 g_this_laid g10 g11 else f_X9_bestFor_b59 (f_X9_bestFor_L23 p0 p1 p2 n) v5 v6 r9 v6 g_this_laid g10 g11))))
def f_X9_bestFor (p0 : Int32) (p1 : Int32) (p2 : Int32) (f_this_laid : Nat → Int32) (f_this_pile : Nat → Int32) (f_this_s : Nat → Int32) : Option (Int32 × (Nat → Int32) × (Nat → Int32) × (Nat → Int32)) := bd1 (f_X9_isShip p0 f_this_s) (fun r1 => (if r1 = 0 then some ((-1 : Int32), f_this_laid, f_this_pile, f_this_s) else bd1 (f_X9_layDown f_this_laid f_this_s) (fun g4 => f_X9_bestFor_L23 p0 p1 p2 1000 (0 : Int32) (-1 : Int32) (0 : Int32) g4 f_this_pile f_this_s)))
set_option maxRecDepth 100000 in
set_option maxHeartbeats 4000000 in
theorem c_X9_bestFor {l : Launch} {G : Gt} {h_this h_this_s h_this_kept h_this_laid h_this_pile h_this_tape h_this_letters h_this_code0 h_this_read h_this_saved h_this_plan h_this_bestPlan h_this_offThen h_this_paidThen h_this_rows h_this_sorts h_this_sizes h_this_number h_this_holds h_this_heldOne h_this_trace : Nat} {p0 : Int32} {p1 : Int32} {p2 : Int32} {x_this_isKept : Int32} {x_this_taped : Int32} {x_this_at : Int32} {x_this_begun : Int32} {x_this_token : Int32} {x_this_value : Int32} {x_this_opened : Int32} {x_this_steps : Int32} {x_this_most : Int32} {x_this_many : Int32} {x_this_few : Int32} {x_this_everHome : Int32} {x_this_firstFit : Int32} {x_this_rowMany : Int32} {x_this_traced : Int32} {x_this_own : Int32} {x_this_isParted : Int32} {f_this_laid : Nat → Int32} {f_this_pile : Nat → Int32} {f_this_s : Nat → Int32} {r : Int32} {m_this_laid : Nat → Int32} {m_this_pile : Nat → Int32} {m_this_s : Nat → Int32} (hf : f_X9_bestFor p0 p1 p2 f_this_laid f_this_pile f_this_s = some (r, m_this_laid, m_this_pile, m_this_s)) : mFi l G yX9_bestFor cX9_bestFor 8 .int 8 [.ref h_this, .int p0, .int p1, .int p2] [(h_this, ob 9 [.ref h_this_s, .ref h_this_kept, .ref h_this_laid, .int x_this_isKept, .ref h_this_pile, .ref h_this_tape, .int x_this_taped, .ref h_this_letters, .int x_this_at, .int x_this_begun, .int x_this_token, .int x_this_value, .int x_this_opened, .int x_this_steps, .ref h_this_code0, .ref h_this_read, .ref h_this_saved, .ref h_this_plan, .ref h_this_bestPlan, .int x_this_most, .int x_this_many, .int x_this_few, .int x_this_everHome, .ref h_this_offThen, .ref h_this_paidThen, .int x_this_firstFit, .ref h_this_rows, .int x_this_rowMany, .ref h_this_sorts, .ref h_this_sizes, .ref h_this_number, .ref h_this_holds, .ref h_this_heldOne, .ref h_this_trace, .int x_this_traced, .int x_this_own, .int x_this_isParted]), (h_this_laid, ia G 65 f_this_laid), (h_this_pile, ia G 200 f_this_pile), (h_this_s, ia G 313 f_this_s)] r [(h_this, ob 9 [.ref h_this_s, .ref h_this_kept, .ref h_this_laid, .int x_this_isKept, .ref h_this_pile, .ref h_this_tape, .int x_this_taped, .ref h_this_letters, .int x_this_at, .int x_this_begun, .int x_this_token, .int x_this_value, .int x_this_opened, .int x_this_steps, .ref h_this_code0, .ref h_this_read, .ref h_this_saved, .ref h_this_plan, .ref h_this_bestPlan, .int x_this_most, .int x_this_many, .int x_this_few, .int x_this_everHome, .ref h_this_offThen, .ref h_this_paidThen, .int x_this_firstFit, .ref h_this_rows, .int x_this_rowMany, .ref h_this_sorts, .ref h_this_sizes, .ref h_this_number, .ref h_this_holds, .ref h_this_heldOne, .ref h_this_trace, .int x_this_traced, .int x_this_own, .int x_this_isParted]), (h_this_laid, ia G 65 m_this_laid), (h_this_pile, ia G 200 m_this_pile), (h_this_s, ia G 313 m_this_s)] := by
  refine mFi.of (by decide +kernel) (Nat.le_of_ble_eq_true rfl) ?_
  intro p e s m below meth c A C hr hlk h ls hl
  obtain ⟨hx, hb, hml, hown, hts⟩ := id C
  replace hl : lv_has ls 8 [(0, .ref h_this), (1, .int p0), (2, .int p1), (3, .int p2)] := hl
  unfold f_X9_bestFor at hf
  refine with_K G A 8 (fun K hK1 hK2 => ?_)
  have B59 : ∀ (rec23 : Int32 → Int32 → Int32 → (Nat → Int32) → (Nat → Int32) → (Nat → Int32) → Option (Int32 × (Nat → Int32) × (Nat → Int32) × (Nat → Int32))) (hrec23 : ∀ (v4 : Int32) (v5 : Int32) (v6 : Int32) (g_this_laid : Nat → Int32) (g_this_pile : Nat → Int32) (g_this_s : Nat → Int32), rec23 v4 v5 v6 g_this_laid g_this_pile g_this_s = some (r, m_this_laid, m_this_pile, m_this_s) → K 23 ([] : List Value) [(h_this, ob 9 [.ref h_this_s, .ref h_this_kept, .ref h_this_laid, .int x_this_isKept, .ref h_this_pile, .ref h_this_tape, .int x_this_taped, .ref h_this_letters, .int x_this_at, .int x_this_begun, .int x_this_token, .int x_this_value, .int x_this_opened, .int x_this_steps, .ref h_this_code0, .ref h_this_read, .ref h_this_saved, .ref h_this_plan, .ref h_this_bestPlan, .int x_this_most, .int x_this_many, .int x_this_few, .int x_this_everHome, .ref h_this_offThen, .ref h_this_paidThen, .int x_this_firstFit, .ref h_this_rows, .int x_this_rowMany, .ref h_this_sorts, .ref h_this_sizes, .ref h_this_number, .ref h_this_holds, .ref h_this_heldOne, .ref h_this_trace, .int x_this_traced, .int x_this_own, .int x_this_isParted]), (h_this_laid, ia G 65 g_this_laid), (h_this_pile, ia G 200 g_this_pile), (h_this_s, ia G 313 g_this_s)] [(0, .ref h_this), (1, .int p0), (2, .int p1), (3, .int p2), (4, .int v4), (5, .int v5), (6, .int v6)]) (v5 : Int32) (v6 : Int32) (v7 : Int32) (s0 : Int32) (g_this_laid : Nat → Int32) (g_this_pile : Nat → Int32) (g_this_s : Nat → Int32), f_X9_bestFor_b59 rec23 v5 v6 v7 s0 g_this_laid g_this_pile g_this_s = some (r, m_this_laid, m_this_pile, m_this_s) → K 59 [.int s0] [(h_this, ob 9 [.ref h_this_s, .ref h_this_kept, .ref h_this_laid, .int x_this_isKept, .ref h_this_pile, .ref h_this_tape, .int x_this_taped, .ref h_this_letters, .int x_this_at, .int x_this_begun, .int x_this_token, .int x_this_value, .int x_this_opened, .int x_this_steps, .ref h_this_code0, .ref h_this_read, .ref h_this_saved, .ref h_this_plan, .ref h_this_bestPlan, .int x_this_most, .int x_this_many, .int x_this_few, .int x_this_everHome, .ref h_this_offThen, .ref h_this_paidThen, .int x_this_firstFit, .ref h_this_rows, .int x_this_rowMany, .ref h_this_sorts, .ref h_this_sizes, .ref h_this_number, .ref h_this_holds, .ref h_this_heldOne, .ref h_this_trace, .int x_this_traced, .int x_this_own, .int x_this_isParted]), (h_this_laid, ia G 65 g_this_laid), (h_this_pile, ia G 200 g_this_pile), (h_this_s, ia G 313 g_this_s)] [(0, .ref h_this), (1, .int p0), (2, .int p1), (3, .int p2), (5, .int v5), (6, .int v6), (7, .int v7)] := by
    intro rec23 hrec23 v5 v6 v7 s0 g_this_laid g_this_pile g_this_s hf
    unfold f_X9_bestFor_b59 at hf
    refine hK1 _ _ _ _ (fun H locs ls h hl => ?_)
    refine lv_istore (lv' := [(4, .int s0), (0, .ref h_this), (1, .int p0), (2, .int p1), (3, .int p2), (5, .int v5), (6, .int v6), (7, .int v7)]) hx hb dX9_bestFor_59 hl (by decide) rfl (fun ls hl => ?_)
    refine lv_iload hx hb dX9_bestFor_61 (lv_at hl 7 rfl) ?_
    refine lv_iload hx hb dX9_bestFor_63 (lv_at hl 5 rfl) ?_
    refine lv_icmp_le (tgt := 73) hx hb dX9_bestFor_65 rfl (fun c14 => ?_) (fun c14 => ?_)
    · replace hf := ifp c14 hf
      refine lv_iload hx hb dX9_bestFor_73 (lv_at hl 5 rfl) ?_
      refine lv_istore (lv' := [(5, .int v5), (4, .int s0), (0, .ref h_this), (1, .int p0), (2, .int p1), (3, .int p2), (6, .int v6), (7, .int v7)]) hx hb dX9_bestFor_75 hl (by decide) rfl (fun ls hl => ?_)
      refine lv_aload_n hx hb dX9_bestFor_77 rfl (lv_at hl 2 rfl) ?_
      replace hf := bd1_inv hf
      obtain ⟨g15, hc16, hf⟩ := hf
      refine r_cvV (ws' := [(h_this, ob 9 [.ref h_this_s, .ref h_this_kept, .ref h_this_laid, .int x_this_isKept, .ref h_this_pile, .ref h_this_tape, .int x_this_taped, .ref h_this_letters, .int x_this_at, .int x_this_begun, .int x_this_token, .int x_this_value, .int x_this_opened, .int x_this_steps, .ref h_this_code0, .ref h_this_read, .ref h_this_saved, .ref h_this_plan, .ref h_this_bestPlan, .int x_this_most, .int x_this_many, .int x_this_few, .int x_this_everHome, .ref h_this_offThen, .ref h_this_paidThen, .int x_this_firstFit, .ref h_this_rows, .int x_this_rowMany, .ref h_this_sorts, .ref h_this_sizes, .ref h_this_number, .ref h_this_holds, .ref h_this_heldOne, .ref h_this_trace, .int x_this_traced, .int x_this_own, .int x_this_isParted]), (h_this_laid, ia G 65 g_this_laid), (h_this_pile, ia G 200 g_this_pile), (h_this_s, ia G 313 g15)]) C h (c_X9_layBack hc16) mv_X9_247 rfl 0 rfl [0, 1, 3] rfl rfl rfl rfl rfl hl.1 rfl (Nat.le_of_ble_eq_true rfl) (rok (by decide)) dX9_bestFor_78 (fun H locs h => ?_)
      obtain ⟨t17, et17⟩ : ∃ y : Int32, y = v6 + (1 : Int32) := ⟨_, rfl⟩
      replace hf := lt1_inv et17 hf
      refine lv_iinc (v := t17) (lv' := [(6, .int t17), (5, .int v5), (4, .int s0), (0, .ref h_this), (1, .int p0), (2, .int p1), (3, .int p2), (7, .int v7)]) hx hb dX9_bestFor_81 hl (k := 6) rfl (by rw [et17]; rfl) (by decide) rfl (fun ls hl => ?_)
      refine lv_goto (tgt := 23) hx hb dX9_bestFor_84 rfl ?_
      exact hK2 _ _ _ _ (hrec23 s0 v5 t17 g_this_laid g_this_pile g15 hf) _ _ _ h (lv_sub hl [3, 4, 5, 6, 2, 1, 0] rfl)
    · replace hf := ifn c14 hf
      refine lv_iload hx hb dX9_bestFor_68 (lv_at hl 7 rfl) ?_
      refine lv_goto (tgt := 75) hx hb dX9_bestFor_70 rfl ?_
      refine lv_istore (lv' := [(5, .int v7), (4, .int s0), (0, .ref h_this), (1, .int p0), (2, .int p1), (3, .int p2), (6, .int v6), (7, .int v7)]) hx hb dX9_bestFor_75 hl (by decide) rfl (fun ls hl => ?_)
      refine lv_aload_n hx hb dX9_bestFor_77 rfl (lv_at hl 2 rfl) ?_
      replace hf := bd1_inv hf
      obtain ⟨g18, hc19, hf⟩ := hf
      refine r_cvV (ws' := [(h_this, ob 9 [.ref h_this_s, .ref h_this_kept, .ref h_this_laid, .int x_this_isKept, .ref h_this_pile, .ref h_this_tape, .int x_this_taped, .ref h_this_letters, .int x_this_at, .int x_this_begun, .int x_this_token, .int x_this_value, .int x_this_opened, .int x_this_steps, .ref h_this_code0, .ref h_this_read, .ref h_this_saved, .ref h_this_plan, .ref h_this_bestPlan, .int x_this_most, .int x_this_many, .int x_this_few, .int x_this_everHome, .ref h_this_offThen, .ref h_this_paidThen, .int x_this_firstFit, .ref h_this_rows, .int x_this_rowMany, .ref h_this_sorts, .ref h_this_sizes, .ref h_this_number, .ref h_this_holds, .ref h_this_heldOne, .ref h_this_trace, .int x_this_traced, .int x_this_own, .int x_this_isParted]), (h_this_laid, ia G 65 g_this_laid), (h_this_pile, ia G 200 g_this_pile), (h_this_s, ia G 313 g18)]) C h (c_X9_layBack hc19) mv_X9_247 rfl 0 rfl [0, 1, 3] rfl rfl rfl rfl rfl hl.1 rfl (Nat.le_of_ble_eq_true rfl) (rok (by decide)) dX9_bestFor_78 (fun H locs h => ?_)
      obtain ⟨t20, et20⟩ : ∃ y : Int32, y = v6 + (1 : Int32) := ⟨_, rfl⟩
      replace hf := lt1_inv et20 hf
      refine lv_iinc (v := t20) (lv' := [(6, .int t20), (5, .int v7), (4, .int s0), (0, .ref h_this), (1, .int p0), (2, .int p1), (3, .int p2), (7, .int v7)]) hx hb dX9_bestFor_81 hl (k := 6) rfl (by rw [et20]; rfl) (by decide) rfl (fun ls hl => ?_)
      refine lv_goto (tgt := 23) hx hb dX9_bestFor_84 rfl ?_
      exact hK2 _ _ _ _ (hrec23 s0 v7 t20 g_this_laid g_this_pile g18 hf) _ _ _ h (lv_sub hl [3, 4, 5, 6, 2, 1, 0] rfl)
  have L23 : ∀ (n : Nat) (v4 : Int32) (v5 : Int32) (v6 : Int32) (g_this_laid : Nat → Int32) (g_this_pile : Nat → Int32) (g_this_s : Nat → Int32), f_X9_bestFor_L23 p0 p1 p2 n v4 v5 v6 g_this_laid g_this_pile g_this_s = some (r, m_this_laid, m_this_pile, m_this_s) → K 23 ([] : List Value) [(h_this, ob 9 [.ref h_this_s, .ref h_this_kept, .ref h_this_laid, .int x_this_isKept, .ref h_this_pile, .ref h_this_tape, .int x_this_taped, .ref h_this_letters, .int x_this_at, .int x_this_begun, .int x_this_token, .int x_this_value, .int x_this_opened, .int x_this_steps, .ref h_this_code0, .ref h_this_read, .ref h_this_saved, .ref h_this_plan, .ref h_this_bestPlan, .int x_this_most, .int x_this_many, .int x_this_few, .int x_this_everHome, .ref h_this_offThen, .ref h_this_paidThen, .int x_this_firstFit, .ref h_this_rows, .int x_this_rowMany, .ref h_this_sorts, .ref h_this_sizes, .ref h_this_number, .ref h_this_holds, .ref h_this_heldOne, .ref h_this_trace, .int x_this_traced, .int x_this_own, .int x_this_isParted]), (h_this_laid, ia G 65 g_this_laid), (h_this_pile, ia G 200 g_this_pile), (h_this_s, ia G 313 g_this_s)] [(0, .ref h_this), (1, .int p0), (2, .int p1), (3, .int p2), (4, .int v4), (5, .int v5), (6, .int v6)] := by
    intro n
    induction n with
    | zero =>
      intro v4 v5 v6 g_this_laid g_this_pile g_this_s hf
      replace hf : (none : Option _) = some _ := hf
      cases hf
    | succ n ih =>
      intro v4 v5 v6 g_this_laid g_this_pile g_this_s hf
      rw [f_X9_bestFor_L23] at hf
      refine hK1 _ _ _ _ (fun H locs ls h hl => ?_)
      refine lv_iload hx hb dX9_bestFor_23 (lv_at hl 6 rfl) ?_
      refine lv_iload_n hx hb dX9_bestFor_25 rfl (lv_at hl 3 rfl) ?_
      refine lv_icmp_gt (tgt := 87) hx hb dX9_bestFor_26 rfl (fun c6 => ?_) (fun c6 => ?_)
      · replace hf := ifp c6 hf
        refine lv_iload hx hb dX9_bestFor_87 (lv_at hl 4 rfl) ?_
        cases hf
        exact r_iret C h hr hlk rfl dX9_bestFor_89
      · replace hf := ifn c6 hf
        refine lv_aload_n hx hb dX9_bestFor_29 rfl (lv_at hl 0 rfl) ?_
        refine lv_iload_n hx hb dX9_bestFor_30 rfl (lv_at hl 1 rfl) ?_
        refine lv_iload_n hx hb dX9_bestFor_31 rfl (lv_at hl 2 rfl) ?_
        refine lv_iload hx hb dX9_bestFor_32 (lv_at hl 6 rfl) ?_
        replace hf := bd1_inv hf
        obtain ⟨g7, hc8, hf⟩ := hf
        refine r_cvV (ws' := [(h_this, ob 9 [.ref h_this_s, .ref h_this_kept, .ref h_this_laid, .int x_this_isKept, .ref h_this_pile, .ref h_this_tape, .int x_this_taped, .ref h_this_letters, .int x_this_at, .int x_this_begun, .int x_this_token, .int x_this_value, .int x_this_opened, .int x_this_steps, .ref h_this_code0, .ref h_this_read, .ref h_this_saved, .ref h_this_plan, .ref h_this_bestPlan, .int x_this_most, .int x_this_many, .int x_this_few, .int x_this_everHome, .ref h_this_offThen, .ref h_this_paidThen, .int x_this_firstFit, .ref h_this_rows, .int x_this_rowMany, .ref h_this_sorts, .ref h_this_sizes, .ref h_this_number, .ref h_this_holds, .ref h_this_heldOne, .ref h_this_trace, .int x_this_traced, .int x_this_own, .int x_this_isParted]), (h_this_laid, ia G 65 g_this_laid), (h_this_pile, ia G 200 g_this_pile), (h_this_s, ia G 313 g7)]) C h (c_X9_puts hc8) mv_X9_195 rfl 0 rfl [0, 3] rfl rfl rfl rfl rfl hl.1 rfl (Nat.le_of_ble_eq_true rfl) (rok (by decide)) dX9_bestFor_34 (fun H locs h => ?_)
        refine lv_aload_n hx hb dX9_bestFor_37 rfl (lv_at hl 0 rfl) ?_
        refine lv_bipush (v := (16 : Int32)) hx hb dX9_bestFor_38 rfl ?_
        replace hf := bd3_inv hf
        obtain ⟨r9, g10, g11, hc12, hf⟩ := hf
        refine r_ciV (ws' := [(h_this, ob 9 [.ref h_this_s, .ref h_this_kept, .ref h_this_laid, .int x_this_isKept, .ref h_this_pile, .ref h_this_tape, .int x_this_taped, .ref h_this_letters, .int x_this_at, .int x_this_begun, .int x_this_token, .int x_this_value, .int x_this_opened, .int x_this_steps, .ref h_this_code0, .ref h_this_read, .ref h_this_saved, .ref h_this_plan, .ref h_this_bestPlan, .int x_this_most, .int x_this_many, .int x_this_few, .int x_this_everHome, .ref h_this_offThen, .ref h_this_paidThen, .int x_this_firstFit, .ref h_this_rows, .int x_this_rowMany, .ref h_this_sorts, .ref h_this_sizes, .ref h_this_number, .ref h_this_holds, .ref h_this_heldOne, .ref h_this_trace, .int x_this_traced, .int x_this_own, .int x_this_isParted]), (h_this_laid, ia G 65 g_this_laid), (h_this_pile, ia G 200 g10), (h_this_s, ia G 313 g11)]) C h (c_X9_restOf hc12) mv_X9_244 rfl 0 rfl [0, 2, 3] rfl rfl rfl rfl rfl hl.1 rfl (Nat.le_of_ble_eq_true rfl) (rok (by decide)) dX9_bestFor_40 (fun H locs h => ?_)
        refine lv_istore (lv' := [(7, .int r9), (0, .ref h_this), (1, .int p0), (2, .int p1), (3, .int p2), (4, .int v4), (5, .int v5), (6, .int v6)]) hx hb dX9_bestFor_43 hl (by decide) rfl (fun ls hl => ?_)
        refine lv_iload hx hb dX9_bestFor_45 (lv_at hl 0 rfl) ?_
        refine lv_iload hx hb dX9_bestFor_47 (lv_at hl 6 rfl) ?_
        refine lv_icmp_le (tgt := 57) hx hb dX9_bestFor_49 rfl (fun c13 => ?_) (fun c13 => ?_)
        · replace hf := ifp c13 hf
          refine lv_iload hx hb dX9_bestFor_57 (lv_at hl 5 rfl) ?_
          exact hK2 _ _ _ _ (B59 _ ih v5 v6 r9 v4 g_this_laid g10 g11 hf) _ _ _ h (lv_sub hl [1, 2, 3, 4, 6, 7, 0] rfl)
        · replace hf := ifn c13 hf
          refine lv_iload hx hb dX9_bestFor_52 (lv_at hl 7 rfl) ?_
          refine lv_goto (tgt := 59) hx hb dX9_bestFor_54 rfl ?_
          exact hK2 _ _ _ _ (B59 _ ih v5 v6 r9 v6 g_this_laid g10 g11 hf) _ _ _ h (lv_sub hl [1, 2, 3, 4, 6, 7, 0] rfl)
  refine lv_aload_n hx hb dX9_bestFor_0 rfl (lv_at hl 0 rfl) ?_
  refine lv_iload_n hx hb dX9_bestFor_1 rfl (lv_at hl 1 rfl) ?_
  replace hf := bd1_inv hf
  obtain ⟨r1, hc2, hf⟩ := hf
  refine r_ciV0 C h (c_X9_isShip hc2) mv_X9_226 rfl 0 rfl [0, 3] rfl rfl hl.1 rfl (Nat.le_of_ble_eq_true rfl) (rok (by decide)) dX9_bestFor_2 (fun H locs h => ?_)
  refine lv_if_ne (tgt := 10) hx hb dX9_bestFor_5 rfl (fun c3 => ?_) (fun c3 => ?_)
  · replace hf := ifn c3 hf
    refine lv_iconst (v := (0 : Int32)) hx hb dX9_bestFor_10 rfl ?_
    refine lv_istore (lv' := [(4, .int (0 : Int32)), (0, .ref h_this), (1, .int p0), (2, .int p1), (3, .int p2)]) hx hb dX9_bestFor_11 hl (by decide) rfl (fun ls hl => ?_)
    refine lv_iconst (v := (-1 : Int32)) hx hb dX9_bestFor_13 rfl ?_
    refine lv_istore (lv' := [(5, .int (-1 : Int32)), (4, .int (0 : Int32)), (0, .ref h_this), (1, .int p0), (2, .int p1), (3, .int p2)]) hx hb dX9_bestFor_14 hl (by decide) rfl (fun ls hl => ?_)
    refine lv_aload_n hx hb dX9_bestFor_16 rfl (lv_at hl 2 rfl) ?_
    replace hf := bd1_inv hf
    obtain ⟨g4, hc5, hf⟩ := hf
    refine r_cvV (ws' := [(h_this, ob 9 [.ref h_this_s, .ref h_this_kept, .ref h_this_laid, .int x_this_isKept, .ref h_this_pile, .ref h_this_tape, .int x_this_taped, .ref h_this_letters, .int x_this_at, .int x_this_begun, .int x_this_token, .int x_this_value, .int x_this_opened, .int x_this_steps, .ref h_this_code0, .ref h_this_read, .ref h_this_saved, .ref h_this_plan, .ref h_this_bestPlan, .int x_this_most, .int x_this_many, .int x_this_few, .int x_this_everHome, .ref h_this_offThen, .ref h_this_paidThen, .int x_this_firstFit, .ref h_this_rows, .int x_this_rowMany, .ref h_this_sorts, .ref h_this_sizes, .ref h_this_number, .ref h_this_holds, .ref h_this_heldOne, .ref h_this_trace, .int x_this_traced, .int x_this_own, .int x_this_isParted]), (h_this_laid, ia G 65 g4), (h_this_pile, ia G 200 f_this_pile), (h_this_s, ia G 313 f_this_s)]) C h (c_X9_layDown hc5) mv_X9_241 rfl 0 rfl [0, 1, 3] rfl rfl rfl rfl rfl hl.1 rfl (Nat.le_of_ble_eq_true rfl) (rok (by decide)) dX9_bestFor_17 (fun H locs h => ?_)
    refine lv_iconst (v := (0 : Int32)) hx hb dX9_bestFor_20 rfl ?_
    refine lv_istore (lv' := [(6, .int (0 : Int32)), (5, .int (-1 : Int32)), (4, .int (0 : Int32)), (0, .ref h_this), (1, .int p0), (2, .int p1), (3, .int p2)]) hx hb dX9_bestFor_21 hl (by decide) rfl (fun ls hl => ?_)
    exact hK2 _ _ _ _ (L23 1000 (0 : Int32) (-1 : Int32) (0 : Int32) g4 f_this_pile f_this_s hf) _ _ _ h (lv_sub hl [3, 4, 5, 6, 2, 1, 0] rfl)
  · replace hf := ifp c3 hf
    refine lv_iconst (v := (-1 : Int32)) hx hb dX9_bestFor_8 rfl ?_
    cases hf
    exact r_iret C h hr hlk rfl dX9_bestFor_9
def f_X9_trimFor (p0 : Int32) (f_this_laid : Nat → Int32) (f_this_pile : Nat → Int32) (f_this_s : Nat → Int32) : Option (Int32 × (Nat → Int32) × (Nat → Int32) × (Nat → Int32)) := bd4 (f_X9_bestFor p0 (2 : Int32) (9 : Int32) f_this_laid f_this_pile f_this_s) (fun r1 g2 g3 g4 => some (r1, g2, g3, g4))
set_option maxRecDepth 100000 in
set_option maxHeartbeats 4000000 in
theorem c_X9_trimFor {l : Launch} {G : Gt} {h_this h_this_s h_this_kept h_this_laid h_this_pile h_this_tape h_this_letters h_this_code0 h_this_read h_this_saved h_this_plan h_this_bestPlan h_this_offThen h_this_paidThen h_this_rows h_this_sorts h_this_sizes h_this_number h_this_holds h_this_heldOne h_this_trace : Nat} {p0 : Int32} {x_this_isKept : Int32} {x_this_taped : Int32} {x_this_at : Int32} {x_this_begun : Int32} {x_this_token : Int32} {x_this_value : Int32} {x_this_opened : Int32} {x_this_steps : Int32} {x_this_most : Int32} {x_this_many : Int32} {x_this_few : Int32} {x_this_everHome : Int32} {x_this_firstFit : Int32} {x_this_rowMany : Int32} {x_this_traced : Int32} {x_this_own : Int32} {x_this_isParted : Int32} {f_this_laid : Nat → Int32} {f_this_pile : Nat → Int32} {f_this_s : Nat → Int32} {r : Int32} {m_this_laid : Nat → Int32} {m_this_pile : Nat → Int32} {m_this_s : Nat → Int32} (hf : f_X9_trimFor p0 f_this_laid f_this_pile f_this_s = some (r, m_this_laid, m_this_pile, m_this_s)) : mFi l G yX9_trimFor cX9_trimFor 2 .int 9 [.ref h_this, .int p0] [(h_this, ob 9 [.ref h_this_s, .ref h_this_kept, .ref h_this_laid, .int x_this_isKept, .ref h_this_pile, .ref h_this_tape, .int x_this_taped, .ref h_this_letters, .int x_this_at, .int x_this_begun, .int x_this_token, .int x_this_value, .int x_this_opened, .int x_this_steps, .ref h_this_code0, .ref h_this_read, .ref h_this_saved, .ref h_this_plan, .ref h_this_bestPlan, .int x_this_most, .int x_this_many, .int x_this_few, .int x_this_everHome, .ref h_this_offThen, .ref h_this_paidThen, .int x_this_firstFit, .ref h_this_rows, .int x_this_rowMany, .ref h_this_sorts, .ref h_this_sizes, .ref h_this_number, .ref h_this_holds, .ref h_this_heldOne, .ref h_this_trace, .int x_this_traced, .int x_this_own, .int x_this_isParted]), (h_this_laid, ia G 65 f_this_laid), (h_this_pile, ia G 200 f_this_pile), (h_this_s, ia G 313 f_this_s)] r [(h_this, ob 9 [.ref h_this_s, .ref h_this_kept, .ref h_this_laid, .int x_this_isKept, .ref h_this_pile, .ref h_this_tape, .int x_this_taped, .ref h_this_letters, .int x_this_at, .int x_this_begun, .int x_this_token, .int x_this_value, .int x_this_opened, .int x_this_steps, .ref h_this_code0, .ref h_this_read, .ref h_this_saved, .ref h_this_plan, .ref h_this_bestPlan, .int x_this_most, .int x_this_many, .int x_this_few, .int x_this_everHome, .ref h_this_offThen, .ref h_this_paidThen, .int x_this_firstFit, .ref h_this_rows, .int x_this_rowMany, .ref h_this_sorts, .ref h_this_sizes, .ref h_this_number, .ref h_this_holds, .ref h_this_heldOne, .ref h_this_trace, .int x_this_traced, .int x_this_own, .int x_this_isParted]), (h_this_laid, ia G 65 m_this_laid), (h_this_pile, ia G 200 m_this_pile), (h_this_s, ia G 313 m_this_s)] := by
  refine mFi.of (by decide +kernel) (Nat.le_of_ble_eq_true rfl) ?_
  intro p e s m below meth c A C hr hlk h ls hl
  obtain ⟨hx, hb, hml, hown, hts⟩ := id C
  replace hl : lv_has ls 2 [(0, .ref h_this), (1, .int p0)] := hl
  unfold f_X9_trimFor at hf
  refine lv_aload_n hx hb dX9_trimFor_0 rfl (lv_at hl 0 rfl) ?_
  refine lv_iload_n hx hb dX9_trimFor_1 rfl (lv_at hl 1 rfl) ?_
  refine lv_iconst (v := (2 : Int32)) hx hb dX9_trimFor_2 rfl ?_
  refine lv_bipush (v := (9 : Int32)) hx hb dX9_trimFor_3 rfl ?_
  replace hf := bd4_inv hf
  obtain ⟨r1, g2, g3, g4, hc5, hf⟩ := hf
  refine r_ciV (ws' := [(h_this, ob 9 [.ref h_this_s, .ref h_this_kept, .ref h_this_laid, .int x_this_isKept, .ref h_this_pile, .ref h_this_tape, .int x_this_taped, .ref h_this_letters, .int x_this_at, .int x_this_begun, .int x_this_token, .int x_this_value, .int x_this_opened, .int x_this_steps, .ref h_this_code0, .ref h_this_read, .ref h_this_saved, .ref h_this_plan, .ref h_this_bestPlan, .int x_this_most, .int x_this_many, .int x_this_few, .int x_this_everHome, .ref h_this_offThen, .ref h_this_paidThen, .int x_this_firstFit, .ref h_this_rows, .int x_this_rowMany, .ref h_this_sorts, .ref h_this_sizes, .ref h_this_number, .ref h_this_holds, .ref h_this_heldOne, .ref h_this_trace, .int x_this_traced, .int x_this_own, .int x_this_isParted]), (h_this_laid, ia G 65 g2), (h_this_pile, ia G 200 g3), (h_this_s, ia G 313 g4)]) C h (c_X9_bestFor hc5) mv_X9_250 rfl 0 rfl [0, 1, 2, 3] rfl rfl rfl rfl rfl hl.1 rfl (Nat.le_of_ble_eq_true rfl) (rok (by decide)) dX9_trimFor_5 (fun H locs h => ?_)
  cases hf
  exact r_iret C h hr hlk rfl dX9_trimFor_8
def f_X9_laneFor (p0 : Int32) (f_this_laid : Nat → Int32) (f_this_pile : Nat → Int32) (f_this_s : Nat → Int32) : Option (Int32 × (Nat → Int32) × (Nat → Int32) × (Nat → Int32)) := bd4 (f_X9_bestFor p0 (3 : Int32) (5 : Int32) f_this_laid f_this_pile f_this_s) (fun r1 g2 g3 g4 => some (r1, g2, g3, g4))
set_option maxRecDepth 100000 in
set_option maxHeartbeats 4000000 in
theorem c_X9_laneFor {l : Launch} {G : Gt} {h_this h_this_s h_this_kept h_this_laid h_this_pile h_this_tape h_this_letters h_this_code0 h_this_read h_this_saved h_this_plan h_this_bestPlan h_this_offThen h_this_paidThen h_this_rows h_this_sorts h_this_sizes h_this_number h_this_holds h_this_heldOne h_this_trace : Nat} {p0 : Int32} {x_this_isKept : Int32} {x_this_taped : Int32} {x_this_at : Int32} {x_this_begun : Int32} {x_this_token : Int32} {x_this_value : Int32} {x_this_opened : Int32} {x_this_steps : Int32} {x_this_most : Int32} {x_this_many : Int32} {x_this_few : Int32} {x_this_everHome : Int32} {x_this_firstFit : Int32} {x_this_rowMany : Int32} {x_this_traced : Int32} {x_this_own : Int32} {x_this_isParted : Int32} {f_this_laid : Nat → Int32} {f_this_pile : Nat → Int32} {f_this_s : Nat → Int32} {r : Int32} {m_this_laid : Nat → Int32} {m_this_pile : Nat → Int32} {m_this_s : Nat → Int32} (hf : f_X9_laneFor p0 f_this_laid f_this_pile f_this_s = some (r, m_this_laid, m_this_pile, m_this_s)) : mFi l G yX9_laneFor cX9_laneFor 2 .int 9 [.ref h_this, .int p0] [(h_this, ob 9 [.ref h_this_s, .ref h_this_kept, .ref h_this_laid, .int x_this_isKept, .ref h_this_pile, .ref h_this_tape, .int x_this_taped, .ref h_this_letters, .int x_this_at, .int x_this_begun, .int x_this_token, .int x_this_value, .int x_this_opened, .int x_this_steps, .ref h_this_code0, .ref h_this_read, .ref h_this_saved, .ref h_this_plan, .ref h_this_bestPlan, .int x_this_most, .int x_this_many, .int x_this_few, .int x_this_everHome, .ref h_this_offThen, .ref h_this_paidThen, .int x_this_firstFit, .ref h_this_rows, .int x_this_rowMany, .ref h_this_sorts, .ref h_this_sizes, .ref h_this_number, .ref h_this_holds, .ref h_this_heldOne, .ref h_this_trace, .int x_this_traced, .int x_this_own, .int x_this_isParted]), (h_this_laid, ia G 65 f_this_laid), (h_this_pile, ia G 200 f_this_pile), (h_this_s, ia G 313 f_this_s)] r [(h_this, ob 9 [.ref h_this_s, .ref h_this_kept, .ref h_this_laid, .int x_this_isKept, .ref h_this_pile, .ref h_this_tape, .int x_this_taped, .ref h_this_letters, .int x_this_at, .int x_this_begun, .int x_this_token, .int x_this_value, .int x_this_opened, .int x_this_steps, .ref h_this_code0, .ref h_this_read, .ref h_this_saved, .ref h_this_plan, .ref h_this_bestPlan, .int x_this_most, .int x_this_many, .int x_this_few, .int x_this_everHome, .ref h_this_offThen, .ref h_this_paidThen, .int x_this_firstFit, .ref h_this_rows, .int x_this_rowMany, .ref h_this_sorts, .ref h_this_sizes, .ref h_this_number, .ref h_this_holds, .ref h_this_heldOne, .ref h_this_trace, .int x_this_traced, .int x_this_own, .int x_this_isParted]), (h_this_laid, ia G 65 m_this_laid), (h_this_pile, ia G 200 m_this_pile), (h_this_s, ia G 313 m_this_s)] := by
  refine mFi.of (by decide +kernel) (Nat.le_of_ble_eq_true rfl) ?_
  intro p e s m below meth c A C hr hlk h ls hl
  obtain ⟨hx, hb, hml, hown, hts⟩ := id C
  replace hl : lv_has ls 2 [(0, .ref h_this), (1, .int p0)] := hl
  unfold f_X9_laneFor at hf
  refine lv_aload_n hx hb dX9_laneFor_0 rfl (lv_at hl 0 rfl) ?_
  refine lv_iload_n hx hb dX9_laneFor_1 rfl (lv_at hl 1 rfl) ?_
  refine lv_iconst (v := (3 : Int32)) hx hb dX9_laneFor_2 rfl ?_
  refine lv_iconst (v := (5 : Int32)) hx hb dX9_laneFor_3 rfl ?_
  replace hf := bd4_inv hf
  obtain ⟨r1, g2, g3, g4, hc5, hf⟩ := hf
  refine r_ciV (ws' := [(h_this, ob 9 [.ref h_this_s, .ref h_this_kept, .ref h_this_laid, .int x_this_isKept, .ref h_this_pile, .ref h_this_tape, .int x_this_taped, .ref h_this_letters, .int x_this_at, .int x_this_begun, .int x_this_token, .int x_this_value, .int x_this_opened, .int x_this_steps, .ref h_this_code0, .ref h_this_read, .ref h_this_saved, .ref h_this_plan, .ref h_this_bestPlan, .int x_this_most, .int x_this_many, .int x_this_few, .int x_this_everHome, .ref h_this_offThen, .ref h_this_paidThen, .int x_this_firstFit, .ref h_this_rows, .int x_this_rowMany, .ref h_this_sorts, .ref h_this_sizes, .ref h_this_number, .ref h_this_holds, .ref h_this_heldOne, .ref h_this_trace, .int x_this_traced, .int x_this_own, .int x_this_isParted]), (h_this_laid, ia G 65 g2), (h_this_pile, ia G 200 g3), (h_this_s, ia G 313 g4)]) C h (c_X9_bestFor hc5) mv_X9_250 rfl 0 rfl [0, 1, 2, 3] rfl rfl rfl rfl rfl hl.1 rfl (Nat.le_of_ble_eq_true rfl) (rok (by decide)) dX9_laneFor_4 (fun H locs h => ?_)
  cases hf
  exact r_iret C h hr hlk rfl dX9_laneFor_7
def f_X9_rock_b42 (p0 : Int32) (v2 : Int32) (g_this_laid : Nat → Int32) (g_this_pile : Nat → Int32) (g_this_s : Nat → Int32) : Option (Int32 × (Nat → Int32) × (Nat → Int32) × (Nat → Int32)) := bd1 (f_X9_isOnRock p0 g_this_s) (fun r9 => (if r9 = 0 then bd1 (f_X9_layBack g_this_laid g_this_s) (fun g12 => some ((-3 : Int32), g_this_laid, g_this_pile, g12)) else (if v2 < 0 then bd1 (f_X9_layBack g_this_laid g_this_s) (fun g15 => some ((-3 : Int32), g_this_laid, g_this_pile, g15)) else lt1 (g_this_s 0) (fun (t17 : Int32) => bd1 (f_X9_layBack g_this_laid g_this_s) (fun g18 => some (t17, g_this_laid, g_this_pile, g18))))))
def f_X9_rock_L16 (p0 : Int32) : Nat → Int32 → (Nat → Int32) → (Nat → Int32) → (Nat → Int32) → Option (Int32 × (Nat → Int32) × (Nat → Int32) × (Nat → Int32))
  | 0, _, _, _, _ => none
  | n + 1, v2, g_this_laid, g_this_pile, g_this_s => bd1 (f_X9_isOnRock p0 g_this_s) (fun r6 => (if r6 = 0 then bd1 (f_X9_isOver g_this_s) (fun r20 => (if r20 = 0 then bd3 (f_X9_goesBy (-1 : Int32) g_this_pile g_this_s) (fun r23 g24 g25 => lt1 (v2 + r23) (fun (t27 : Int32) => (f_X9_rock_L16 p0 n) t27 g_this_laid g24 g25)) else f_X9_rock_b42 p0 v2 g_this_laid g_this_pile g_this_s)) else f_X9_rock_b42 p0 v2 g_this_laid g_this_pile g_this_s))
def f_X9_rock (p0 : Int32) (f_this_laid : Nat → Int32) (f_this_pile : Nat → Int32) (f_this_s : Nat → Int32) : Option (Int32 × (Nat → Int32) × (Nat → Int32) × (Nat → Int32)) := bd1 (f_X9_isShip p0 f_this_s) (fun r1 => (if r1 = 0 then some ((-1 : Int32), f_this_laid, f_this_pile, f_this_s) else bd1 (f_X9_layDown f_this_laid f_this_s) (fun g4 => f_X9_rock_L16 p0 1000 (0 : Int32) g4 f_this_pile f_this_s)))
set_option maxRecDepth 100000 in
set_option maxHeartbeats 4000000 in
theorem c_X9_rock {l : Launch} {G : Gt} {h_this h_this_s h_this_kept h_this_laid h_this_pile h_this_tape h_this_letters h_this_code0 h_this_read h_this_saved h_this_plan h_this_bestPlan h_this_offThen h_this_paidThen h_this_rows h_this_sorts h_this_sizes h_this_number h_this_holds h_this_heldOne h_this_trace : Nat} {p0 : Int32} {x_this_isKept : Int32} {x_this_taped : Int32} {x_this_at : Int32} {x_this_begun : Int32} {x_this_token : Int32} {x_this_value : Int32} {x_this_opened : Int32} {x_this_steps : Int32} {x_this_most : Int32} {x_this_many : Int32} {x_this_few : Int32} {x_this_everHome : Int32} {x_this_firstFit : Int32} {x_this_rowMany : Int32} {x_this_traced : Int32} {x_this_own : Int32} {x_this_isParted : Int32} {f_this_laid : Nat → Int32} {f_this_pile : Nat → Int32} {f_this_s : Nat → Int32} {r : Int32} {m_this_laid : Nat → Int32} {m_this_pile : Nat → Int32} {m_this_s : Nat → Int32} (hf : f_X9_rock p0 f_this_laid f_this_pile f_this_s = some (r, m_this_laid, m_this_pile, m_this_s)) : mFi l G yX9_rock cX9_rock 4 .int 7 [.ref h_this, .int p0] [(h_this, ob 9 [.ref h_this_s, .ref h_this_kept, .ref h_this_laid, .int x_this_isKept, .ref h_this_pile, .ref h_this_tape, .int x_this_taped, .ref h_this_letters, .int x_this_at, .int x_this_begun, .int x_this_token, .int x_this_value, .int x_this_opened, .int x_this_steps, .ref h_this_code0, .ref h_this_read, .ref h_this_saved, .ref h_this_plan, .ref h_this_bestPlan, .int x_this_most, .int x_this_many, .int x_this_few, .int x_this_everHome, .ref h_this_offThen, .ref h_this_paidThen, .int x_this_firstFit, .ref h_this_rows, .int x_this_rowMany, .ref h_this_sorts, .ref h_this_sizes, .ref h_this_number, .ref h_this_holds, .ref h_this_heldOne, .ref h_this_trace, .int x_this_traced, .int x_this_own, .int x_this_isParted]), (h_this_laid, ia G 65 f_this_laid), (h_this_pile, ia G 200 f_this_pile), (h_this_s, ia G 313 f_this_s)] r [(h_this, ob 9 [.ref h_this_s, .ref h_this_kept, .ref h_this_laid, .int x_this_isKept, .ref h_this_pile, .ref h_this_tape, .int x_this_taped, .ref h_this_letters, .int x_this_at, .int x_this_begun, .int x_this_token, .int x_this_value, .int x_this_opened, .int x_this_steps, .ref h_this_code0, .ref h_this_read, .ref h_this_saved, .ref h_this_plan, .ref h_this_bestPlan, .int x_this_most, .int x_this_many, .int x_this_few, .int x_this_everHome, .ref h_this_offThen, .ref h_this_paidThen, .int x_this_firstFit, .ref h_this_rows, .int x_this_rowMany, .ref h_this_sorts, .ref h_this_sizes, .ref h_this_number, .ref h_this_holds, .ref h_this_heldOne, .ref h_this_trace, .int x_this_traced, .int x_this_own, .int x_this_isParted]), (h_this_laid, ia G 65 m_this_laid), (h_this_pile, ia G 200 m_this_pile), (h_this_s, ia G 313 m_this_s)] := by
  refine mFi.of (by decide +kernel) (Nat.le_of_ble_eq_true rfl) ?_
  intro p e s m below meth c A C hr hlk h ls hl
  obtain ⟨hx, hb, hml, hown, hts⟩ := id C
  replace hl : lv_has ls 4 [(0, .ref h_this), (1, .int p0)] := hl
  unfold f_X9_rock at hf
  refine with_K G A 4 (fun K hK1 hK2 => ?_)
  have B42 : ∀ (v2 : Int32) (g_this_laid : Nat → Int32) (g_this_pile : Nat → Int32) (g_this_s : Nat → Int32), f_X9_rock_b42 p0 v2 g_this_laid g_this_pile g_this_s = some (r, m_this_laid, m_this_pile, m_this_s) → K 42 ([] : List Value) [(h_this, ob 9 [.ref h_this_s, .ref h_this_kept, .ref h_this_laid, .int x_this_isKept, .ref h_this_pile, .ref h_this_tape, .int x_this_taped, .ref h_this_letters, .int x_this_at, .int x_this_begun, .int x_this_token, .int x_this_value, .int x_this_opened, .int x_this_steps, .ref h_this_code0, .ref h_this_read, .ref h_this_saved, .ref h_this_plan, .ref h_this_bestPlan, .int x_this_most, .int x_this_many, .int x_this_few, .int x_this_everHome, .ref h_this_offThen, .ref h_this_paidThen, .int x_this_firstFit, .ref h_this_rows, .int x_this_rowMany, .ref h_this_sorts, .ref h_this_sizes, .ref h_this_number, .ref h_this_holds, .ref h_this_heldOne, .ref h_this_trace, .int x_this_traced, .int x_this_own, .int x_this_isParted]), (h_this_laid, ia G 65 g_this_laid), (h_this_pile, ia G 200 g_this_pile), (h_this_s, ia G 313 g_this_s)] [(0, .ref h_this), (1, .int p0), (2, .int v2)] := by
    intro v2 g_this_laid g_this_pile g_this_s hf
    unfold f_X9_rock_b42 at hf
    refine hK1 _ _ _ _ (fun H locs ls h hl => ?_)
    refine lv_aload_n hx hb dX9_rock_42 rfl (lv_at hl 0 rfl) ?_
    refine lv_iload_n hx hb dX9_rock_43 rfl (lv_at hl 1 rfl) ?_
    replace hf := bd1_inv hf
    obtain ⟨r9, hc10, hf⟩ := hf
    refine r_ciV0 C h (c_X9_isOnRock hc10) mv_X9_108 rfl 0 rfl [0, 3] rfl rfl hl.1 rfl (Nat.le_of_ble_eq_true rfl) (rok (by decide)) dX9_rock_44 (fun H locs h => ?_)
    refine lv_if_eq (tgt := 63) hx hb dX9_rock_47 rfl (fun c11 => ?_) (fun c11 => ?_)
    · replace hf := ifp c11 hf
      refine lv_bipush (v := (-3 : Int32)) hx hb dX9_rock_63 rfl ?_
      refine lv_istore_n (lv' := [(3, .int (-3 : Int32)), (0, .ref h_this), (1, .int p0), (2, .int v2)]) hx hb dX9_rock_65 rfl hl (by decide) rfl (fun ls hl => ?_)
      refine lv_aload_n hx hb dX9_rock_66 rfl (lv_at hl 1 rfl) ?_
      replace hf := bd1_inv hf
      obtain ⟨g12, hc13, hf⟩ := hf
      refine r_cvV (ws' := [(h_this, ob 9 [.ref h_this_s, .ref h_this_kept, .ref h_this_laid, .int x_this_isKept, .ref h_this_pile, .ref h_this_tape, .int x_this_taped, .ref h_this_letters, .int x_this_at, .int x_this_begun, .int x_this_token, .int x_this_value, .int x_this_opened, .int x_this_steps, .ref h_this_code0, .ref h_this_read, .ref h_this_saved, .ref h_this_plan, .ref h_this_bestPlan, .int x_this_most, .int x_this_many, .int x_this_few, .int x_this_everHome, .ref h_this_offThen, .ref h_this_paidThen, .int x_this_firstFit, .ref h_this_rows, .int x_this_rowMany, .ref h_this_sorts, .ref h_this_sizes, .ref h_this_number, .ref h_this_holds, .ref h_this_heldOne, .ref h_this_trace, .int x_this_traced, .int x_this_own, .int x_this_isParted]), (h_this_laid, ia G 65 g_this_laid), (h_this_pile, ia G 200 g_this_pile), (h_this_s, ia G 313 g12)]) C h (c_X9_layBack hc13) mv_X9_247 rfl 0 rfl [0, 1, 3] rfl rfl rfl rfl rfl hl.1 rfl (Nat.le_of_ble_eq_true rfl) (rok (by decide)) dX9_rock_67 (fun H locs h => ?_)
      refine lv_iload_n hx hb dX9_rock_70 rfl (lv_at hl 0 rfl) ?_
      cases hf
      exact r_iret C h hr hlk rfl dX9_rock_71
    · replace hf := ifn c11 hf
      refine lv_iload_n hx hb dX9_rock_50 rfl (lv_at hl 2 rfl) ?_
      refine lv_if_lt (tgt := 63) hx hb dX9_rock_51 rfl (fun c14 => ?_) (fun c14 => ?_)
      · replace hf := ifp c14 hf
        refine lv_bipush (v := (-3 : Int32)) hx hb dX9_rock_63 rfl ?_
        refine lv_istore_n (lv' := [(3, .int (-3 : Int32)), (0, .ref h_this), (1, .int p0), (2, .int v2)]) hx hb dX9_rock_65 rfl hl (by decide) rfl (fun ls hl => ?_)
        refine lv_aload_n hx hb dX9_rock_66 rfl (lv_at hl 1 rfl) ?_
        replace hf := bd1_inv hf
        obtain ⟨g15, hc16, hf⟩ := hf
        refine r_cvV (ws' := [(h_this, ob 9 [.ref h_this_s, .ref h_this_kept, .ref h_this_laid, .int x_this_isKept, .ref h_this_pile, .ref h_this_tape, .int x_this_taped, .ref h_this_letters, .int x_this_at, .int x_this_begun, .int x_this_token, .int x_this_value, .int x_this_opened, .int x_this_steps, .ref h_this_code0, .ref h_this_read, .ref h_this_saved, .ref h_this_plan, .ref h_this_bestPlan, .int x_this_most, .int x_this_many, .int x_this_few, .int x_this_everHome, .ref h_this_offThen, .ref h_this_paidThen, .int x_this_firstFit, .ref h_this_rows, .int x_this_rowMany, .ref h_this_sorts, .ref h_this_sizes, .ref h_this_number, .ref h_this_holds, .ref h_this_heldOne, .ref h_this_trace, .int x_this_traced, .int x_this_own, .int x_this_isParted]), (h_this_laid, ia G 65 g_this_laid), (h_this_pile, ia G 200 g_this_pile), (h_this_s, ia G 313 g15)]) C h (c_X9_layBack hc16) mv_X9_247 rfl 0 rfl [0, 1, 3] rfl rfl rfl rfl rfl hl.1 rfl (Nat.le_of_ble_eq_true rfl) (rok (by decide)) dX9_rock_67 (fun H locs h => ?_)
        refine lv_iload_n hx hb dX9_rock_70 rfl (lv_at hl 0 rfl) ?_
        cases hf
        exact r_iret C h hr hlk rfl dX9_rock_71
      · replace hf := ifn c14 hf
        refine lv_aload_n hx hb dX9_rock_54 rfl (lv_at hl 0 rfl) ?_
        refine r_get C h fk_X9_9 0 rfl rfl dX9_rock_55 ?_
        refine lv_iconst (v := (0 : Int32)) hx hb dX9_rock_58 rfl ?_
        refine r_ialdL C h 3 rfl (vlit rfl) 0 rfl dX9_rock_59 ?_
        refine lv_goto (tgt := 65) hx hb dX9_rock_60 rfl ?_
        refine lv_topi (fun t17 et17 => ?_)
        replace hf := lt1_inv et17 hf
        refine lv_istore_n (lv' := [(3, .int t17), (0, .ref h_this), (1, .int p0), (2, .int v2)]) hx hb dX9_rock_65 rfl hl (by decide) rfl (fun ls hl => ?_)
        refine lv_aload_n hx hb dX9_rock_66 rfl (lv_at hl 1 rfl) ?_
        replace hf := bd1_inv hf
        obtain ⟨g18, hc19, hf⟩ := hf
        refine r_cvV (ws' := [(h_this, ob 9 [.ref h_this_s, .ref h_this_kept, .ref h_this_laid, .int x_this_isKept, .ref h_this_pile, .ref h_this_tape, .int x_this_taped, .ref h_this_letters, .int x_this_at, .int x_this_begun, .int x_this_token, .int x_this_value, .int x_this_opened, .int x_this_steps, .ref h_this_code0, .ref h_this_read, .ref h_this_saved, .ref h_this_plan, .ref h_this_bestPlan, .int x_this_most, .int x_this_many, .int x_this_few, .int x_this_everHome, .ref h_this_offThen, .ref h_this_paidThen, .int x_this_firstFit, .ref h_this_rows, .int x_this_rowMany, .ref h_this_sorts, .ref h_this_sizes, .ref h_this_number, .ref h_this_holds, .ref h_this_heldOne, .ref h_this_trace, .int x_this_traced, .int x_this_own, .int x_this_isParted]), (h_this_laid, ia G 65 g_this_laid), (h_this_pile, ia G 200 g_this_pile), (h_this_s, ia G 313 g18)]) C h (c_X9_layBack hc19) mv_X9_247 rfl 0 rfl [0, 1, 3] rfl rfl rfl rfl rfl hl.1 rfl (Nat.le_of_ble_eq_true rfl) (rok (by decide)) dX9_rock_67 (fun H locs h => ?_)
        refine lv_iload_n hx hb dX9_rock_70 rfl (lv_at hl 0 rfl) ?_
        cases hf
        exact r_iret C h hr hlk rfl dX9_rock_71
  have L16 : ∀ (n : Nat) (v2 : Int32) (g_this_laid : Nat → Int32) (g_this_pile : Nat → Int32) (g_this_s : Nat → Int32), f_X9_rock_L16 p0 n v2 g_this_laid g_this_pile g_this_s = some (r, m_this_laid, m_this_pile, m_this_s) → K 16 ([] : List Value) [(h_this, ob 9 [.ref h_this_s, .ref h_this_kept, .ref h_this_laid, .int x_this_isKept, .ref h_this_pile, .ref h_this_tape, .int x_this_taped, .ref h_this_letters, .int x_this_at, .int x_this_begun, .int x_this_token, .int x_this_value, .int x_this_opened, .int x_this_steps, .ref h_this_code0, .ref h_this_read, .ref h_this_saved, .ref h_this_plan, .ref h_this_bestPlan, .int x_this_most, .int x_this_many, .int x_this_few, .int x_this_everHome, .ref h_this_offThen, .ref h_this_paidThen, .int x_this_firstFit, .ref h_this_rows, .int x_this_rowMany, .ref h_this_sorts, .ref h_this_sizes, .ref h_this_number, .ref h_this_holds, .ref h_this_heldOne, .ref h_this_trace, .int x_this_traced, .int x_this_own, .int x_this_isParted]), (h_this_laid, ia G 65 g_this_laid), (h_this_pile, ia G 200 g_this_pile), (h_this_s, ia G 313 g_this_s)] [(0, .ref h_this), (1, .int p0), (2, .int v2)] := by
    intro n
    induction n with
    | zero =>
      intro v2 g_this_laid g_this_pile g_this_s hf
      replace hf : (none : Option _) = some _ := hf
      cases hf
    | succ n ih =>
      intro v2 g_this_laid g_this_pile g_this_s hf
      rw [f_X9_rock_L16] at hf
      refine hK1 _ _ _ _ (fun H locs ls h hl => ?_)
      refine lv_aload_n hx hb dX9_rock_16 rfl (lv_at hl 0 rfl) ?_
      refine lv_iload_n hx hb dX9_rock_17 rfl (lv_at hl 1 rfl) ?_
      replace hf := bd1_inv hf
      obtain ⟨r6, hc7, hf⟩ := hf
      refine r_ciV0 C h (c_X9_isOnRock hc7) mv_X9_108 rfl 0 rfl [0, 3] rfl rfl hl.1 rfl (Nat.le_of_ble_eq_true rfl) (rok (by decide)) dX9_rock_18 (fun H locs h => ?_)
      refine lv_if_ne (tgt := 42) hx hb dX9_rock_21 rfl (fun c8 => ?_) (fun c8 => ?_)
      · replace hf := ifn c8 hf
        exact hK2 _ _ _ _ (B42 v2 g_this_laid g_this_pile g_this_s hf) _ _ _ h (lv_sub hl [0, 1, 2] rfl)
      · replace hf := ifp c8 hf
        refine lv_aload_n hx hb dX9_rock_24 rfl (lv_at hl 0 rfl) ?_
        replace hf := bd1_inv hf
        obtain ⟨r20, hc21, hf⟩ := hf
        refine r_ciV0 C h (c_X9_isOver hc21) mv_X9_232 rfl 0 rfl [0, 3] rfl rfl hl.1 rfl (Nat.le_of_ble_eq_true rfl) (rok (by decide)) dX9_rock_25 (fun H locs h => ?_)
        refine lv_if_ne (tgt := 42) hx hb dX9_rock_28 rfl (fun c22 => ?_) (fun c22 => ?_)
        · replace hf := ifn c22 hf
          exact hK2 _ _ _ _ (B42 v2 g_this_laid g_this_pile g_this_s hf) _ _ _ h (lv_sub hl [0, 1, 2] rfl)
        · replace hf := ifp c22 hf
          refine lv_iload_n hx hb dX9_rock_31 rfl (lv_at hl 2 rfl) ?_
          refine lv_aload_n hx hb dX9_rock_32 rfl (lv_at hl 0 rfl) ?_
          refine lv_iconst (v := (-1 : Int32)) hx hb dX9_rock_33 rfl ?_
          replace hf := bd3_inv hf
          obtain ⟨r23, g24, g25, hc26, hf⟩ := hf
          refine r_ciV (ws' := [(h_this, ob 9 [.ref h_this_s, .ref h_this_kept, .ref h_this_laid, .int x_this_isKept, .ref h_this_pile, .ref h_this_tape, .int x_this_taped, .ref h_this_letters, .int x_this_at, .int x_this_begun, .int x_this_token, .int x_this_value, .int x_this_opened, .int x_this_steps, .ref h_this_code0, .ref h_this_read, .ref h_this_saved, .ref h_this_plan, .ref h_this_bestPlan, .int x_this_most, .int x_this_many, .int x_this_few, .int x_this_everHome, .ref h_this_offThen, .ref h_this_paidThen, .int x_this_firstFit, .ref h_this_rows, .int x_this_rowMany, .ref h_this_sorts, .ref h_this_sizes, .ref h_this_number, .ref h_this_holds, .ref h_this_heldOne, .ref h_this_trace, .int x_this_traced, .int x_this_own, .int x_this_isParted]), (h_this_laid, ia G 65 g_this_laid), (h_this_pile, ia G 200 g24), (h_this_s, ia G 313 g25)]) C h (c_X9_goesBy hc26) mv_X9_238 rfl 0 rfl [0, 2, 3] rfl rfl rfl rfl rfl hl.1 rfl (Nat.le_of_ble_eq_true rfl) (rok (by decide)) dX9_rock_34 (fun H locs h => ?_)
          refine lv_iadd hx hb dX9_rock_37 ?_
          refine lv_topi (fun t27 et27 => ?_)
          replace hf := lt1_inv et27 hf
          refine lv_istore_n (lv' := [(2, .int t27), (0, .ref h_this), (1, .int p0)]) hx hb dX9_rock_38 rfl hl (by decide) rfl (fun ls hl => ?_)
          refine lv_goto (tgt := 16) hx hb dX9_rock_39 rfl ?_
          exact hK2 _ _ _ _ (ih t27 g_this_laid g24 g25 hf) _ _ _ h (lv_sub hl [1, 2, 0] rfl)
  refine lv_aload_n hx hb dX9_rock_0 rfl (lv_at hl 0 rfl) ?_
  refine lv_iload_n hx hb dX9_rock_1 rfl (lv_at hl 1 rfl) ?_
  replace hf := bd1_inv hf
  obtain ⟨r1, hc2, hf⟩ := hf
  refine r_ciV0 C h (c_X9_isShip hc2) mv_X9_226 rfl 0 rfl [0, 3] rfl rfl hl.1 rfl (Nat.le_of_ble_eq_true rfl) (rok (by decide)) dX9_rock_2 (fun H locs h => ?_)
  refine lv_if_ne (tgt := 10) hx hb dX9_rock_5 rfl (fun c3 => ?_) (fun c3 => ?_)
  · replace hf := ifn c3 hf
    refine lv_aload_n hx hb dX9_rock_10 rfl (lv_at hl 0 rfl) ?_
    replace hf := bd1_inv hf
    obtain ⟨g4, hc5, hf⟩ := hf
    refine r_cvV (ws' := [(h_this, ob 9 [.ref h_this_s, .ref h_this_kept, .ref h_this_laid, .int x_this_isKept, .ref h_this_pile, .ref h_this_tape, .int x_this_taped, .ref h_this_letters, .int x_this_at, .int x_this_begun, .int x_this_token, .int x_this_value, .int x_this_opened, .int x_this_steps, .ref h_this_code0, .ref h_this_read, .ref h_this_saved, .ref h_this_plan, .ref h_this_bestPlan, .int x_this_most, .int x_this_many, .int x_this_few, .int x_this_everHome, .ref h_this_offThen, .ref h_this_paidThen, .int x_this_firstFit, .ref h_this_rows, .int x_this_rowMany, .ref h_this_sorts, .ref h_this_sizes, .ref h_this_number, .ref h_this_holds, .ref h_this_heldOne, .ref h_this_trace, .int x_this_traced, .int x_this_own, .int x_this_isParted]), (h_this_laid, ia G 65 g4), (h_this_pile, ia G 200 f_this_pile), (h_this_s, ia G 313 f_this_s)]) C h (c_X9_layDown hc5) mv_X9_241 rfl 0 rfl [0, 1, 3] rfl rfl rfl rfl rfl hl.1 rfl (Nat.le_of_ble_eq_true rfl) (rok (by decide)) dX9_rock_11 (fun H locs h => ?_)
    refine lv_iconst (v := (0 : Int32)) hx hb dX9_rock_14 rfl ?_
    refine lv_istore_n (lv' := [(2, .int (0 : Int32)), (0, .ref h_this), (1, .int p0)]) hx hb dX9_rock_15 rfl hl (by decide) rfl (fun ls hl => ?_)
    exact hK2 _ _ _ _ (L16 1000 (0 : Int32) g4 f_this_pile f_this_s hf) _ _ _ h (lv_sub hl [1, 2, 0] rfl)
  · replace hf := ifp c3 hf
    refine lv_iconst (v := (-1 : Int32)) hx hb dX9_rock_8 rfl ?_
    cases hf
    exact r_iret C h hr hlk rfl dX9_rock_9
def f_X9_least_L12 (p0 : Int32) (f_this_s : Nat → Int32) : Nat → Int32 → Option (Int32)
  | 0, _ => none
  | n + 1, v2 => (if (9 : Int32) < v2 then some (-3 : Int32) else bd1 (f_X9_isReachedWith p0 v2 f_this_s) (fun r5 => (if r5 = 0 then lt1 (v2 + (1 : Int32)) (fun (t8 : Int32) => (f_X9_least_L12 p0 f_this_s n) t8) else some v2)))
def f_X9_least (p0 : Int32) (f_this_s : Nat → Int32) : Option (Int32) := bd1 (f_X9_isShip p0 f_this_s) (fun r1 => (if r1 = 0 then some (-1 : Int32) else f_X9_least_L12 p0 f_this_s 1000 (0 : Int32)))
set_option maxRecDepth 100000 in
set_option maxHeartbeats 4000000 in
theorem c_X9_least {l : Launch} {G : Gt} {h_this h_this_s h_this_kept h_this_laid h_this_pile h_this_tape h_this_letters h_this_code0 h_this_read h_this_saved h_this_plan h_this_bestPlan h_this_offThen h_this_paidThen h_this_rows h_this_sorts h_this_sizes h_this_number h_this_holds h_this_heldOne h_this_trace : Nat} {p0 : Int32} {x_this_isKept : Int32} {x_this_taped : Int32} {x_this_at : Int32} {x_this_begun : Int32} {x_this_token : Int32} {x_this_value : Int32} {x_this_opened : Int32} {x_this_steps : Int32} {x_this_most : Int32} {x_this_many : Int32} {x_this_few : Int32} {x_this_everHome : Int32} {x_this_firstFit : Int32} {x_this_rowMany : Int32} {x_this_traced : Int32} {x_this_own : Int32} {x_this_isParted : Int32} {f_this_s : Nat → Int32} {r : Int32} (hf : f_X9_least p0 f_this_s = some r) : mFi l G yX9_least cX9_least 3 .int 3 [.ref h_this, .int p0] [(h_this, ob 9 [.ref h_this_s, .ref h_this_kept, .ref h_this_laid, .int x_this_isKept, .ref h_this_pile, .ref h_this_tape, .int x_this_taped, .ref h_this_letters, .int x_this_at, .int x_this_begun, .int x_this_token, .int x_this_value, .int x_this_opened, .int x_this_steps, .ref h_this_code0, .ref h_this_read, .ref h_this_saved, .ref h_this_plan, .ref h_this_bestPlan, .int x_this_most, .int x_this_many, .int x_this_few, .int x_this_everHome, .ref h_this_offThen, .ref h_this_paidThen, .int x_this_firstFit, .ref h_this_rows, .int x_this_rowMany, .ref h_this_sorts, .ref h_this_sizes, .ref h_this_number, .ref h_this_holds, .ref h_this_heldOne, .ref h_this_trace, .int x_this_traced, .int x_this_own, .int x_this_isParted]), (h_this_s, ia G 313 f_this_s)] r [(h_this, ob 9 [.ref h_this_s, .ref h_this_kept, .ref h_this_laid, .int x_this_isKept, .ref h_this_pile, .ref h_this_tape, .int x_this_taped, .ref h_this_letters, .int x_this_at, .int x_this_begun, .int x_this_token, .int x_this_value, .int x_this_opened, .int x_this_steps, .ref h_this_code0, .ref h_this_read, .ref h_this_saved, .ref h_this_plan, .ref h_this_bestPlan, .int x_this_most, .int x_this_many, .int x_this_few, .int x_this_everHome, .ref h_this_offThen, .ref h_this_paidThen, .int x_this_firstFit, .ref h_this_rows, .int x_this_rowMany, .ref h_this_sorts, .ref h_this_sizes, .ref h_this_number, .ref h_this_holds, .ref h_this_heldOne, .ref h_this_trace, .int x_this_traced, .int x_this_own, .int x_this_isParted]), (h_this_s, ia G 313 f_this_s)] := by
  refine mFi.of (by decide +kernel) (Nat.le_of_ble_eq_true rfl) ?_
  intro p e s m below meth c A C hr hlk h ls hl
  obtain ⟨hx, hb, hml, hown, hts⟩ := id C
  replace hl : lv_has ls 3 [(0, .ref h_this), (1, .int p0)] := hl
  unfold f_X9_least at hf
  refine with_K G A 3 (fun K hK1 hK2 => ?_)
  have L12 : ∀ (n : Nat) (v2 : Int32), f_X9_least_L12 p0 f_this_s n v2 = some r → K 12 ([] : List Value) [(h_this, ob 9 [.ref h_this_s, .ref h_this_kept, .ref h_this_laid, .int x_this_isKept, .ref h_this_pile, .ref h_this_tape, .int x_this_taped, .ref h_this_letters, .int x_this_at, .int x_this_begun, .int x_this_token, .int x_this_value, .int x_this_opened, .int x_this_steps, .ref h_this_code0, .ref h_this_read, .ref h_this_saved, .ref h_this_plan, .ref h_this_bestPlan, .int x_this_most, .int x_this_many, .int x_this_few, .int x_this_everHome, .ref h_this_offThen, .ref h_this_paidThen, .int x_this_firstFit, .ref h_this_rows, .int x_this_rowMany, .ref h_this_sorts, .ref h_this_sizes, .ref h_this_number, .ref h_this_holds, .ref h_this_heldOne, .ref h_this_trace, .int x_this_traced, .int x_this_own, .int x_this_isParted]), (h_this_s, ia G 313 f_this_s)] [(0, .ref h_this), (1, .int p0), (2, .int v2)] := by
    intro n
    induction n with
    | zero =>
      intro v2 hf
      replace hf : (none : Option _) = some _ := hf
      cases hf
    | succ n ih =>
      intro v2 hf
      rw [f_X9_least_L12] at hf
      refine hK1 _ _ _ _ (fun H locs ls h hl => ?_)
      refine lv_iload_n hx hb dX9_least_12 rfl (lv_at hl 2 rfl) ?_
      refine lv_bipush (v := (9 : Int32)) hx hb dX9_least_13 rfl ?_
      refine lv_icmp_gt (tgt := 35) hx hb dX9_least_15 rfl (fun c4 => ?_) (fun c4 => ?_)
      · replace hf := ifp c4 hf
        refine lv_bipush (v := (-3 : Int32)) hx hb dX9_least_35 rfl ?_
        cases hf
        exact r_iret C h hr hlk rfl dX9_least_37
      · replace hf := ifn c4 hf
        refine lv_aload_n hx hb dX9_least_18 rfl (lv_at hl 0 rfl) ?_
        refine lv_iload_n hx hb dX9_least_19 rfl (lv_at hl 1 rfl) ?_
        refine lv_iload_n hx hb dX9_least_20 rfl (lv_at hl 2 rfl) ?_
        replace hf := bd1_inv hf
        obtain ⟨r5, hc6, hf⟩ := hf
        refine r_ciV0 C h (c_X9_isReachedWith hc6) mv_X9_98 rfl 0 rfl [0, 1] rfl rfl hl.1 rfl (Nat.le_of_ble_eq_true rfl) (rok (by decide)) dX9_least_21 (fun H locs h => ?_)
        refine lv_if_eq (tgt := 29) hx hb dX9_least_24 rfl (fun c7 => ?_) (fun c7 => ?_)
        · replace hf := ifp c7 hf
          obtain ⟨t8, et8⟩ : ∃ y : Int32, y = v2 + (1 : Int32) := ⟨_, rfl⟩
          replace hf := lt1_inv et8 hf
          refine lv_iinc (v := t8) (lv' := [(2, .int t8), (0, .ref h_this), (1, .int p0)]) hx hb dX9_least_29 hl (k := 2) rfl (by rw [et8]; rfl) (by decide) rfl (fun ls hl => ?_)
          refine lv_goto (tgt := 12) hx hb dX9_least_32 rfl ?_
          exact hK2 _ _ _ _ (ih t8 hf) _ _ _ h (lv_sub hl [1, 2, 0] rfl)
        · replace hf := ifn c7 hf
          refine lv_iload_n hx hb dX9_least_27 rfl (lv_at hl 2 rfl) ?_
          cases hf
          exact r_iret C h hr hlk rfl dX9_least_28
  refine lv_aload_n hx hb dX9_least_0 rfl (lv_at hl 0 rfl) ?_
  refine lv_iload_n hx hb dX9_least_1 rfl (lv_at hl 1 rfl) ?_
  replace hf := bd1_inv hf
  obtain ⟨r1, hc2, hf⟩ := hf
  refine r_ciV0 C h (c_X9_isShip hc2) mv_X9_226 rfl 0 rfl [0, 1] rfl rfl hl.1 rfl (Nat.le_of_ble_eq_true rfl) (rok (by decide)) dX9_least_2 (fun H locs h => ?_)
  refine lv_if_ne (tgt := 10) hx hb dX9_least_5 rfl (fun c3 => ?_) (fun c3 => ?_)
  · replace hf := ifn c3 hf
    refine lv_iconst (v := (0 : Int32)) hx hb dX9_least_10 rfl ?_
    refine lv_istore_n (lv' := [(2, .int (0 : Int32)), (0, .ref h_this), (1, .int p0)]) hx hb dX9_least_11 rfl hl (by decide) rfl (fun ls hl => ?_)
    exact hK2 _ _ _ _ (L12 1000 (0 : Int32) hf) _ _ _ h (lv_sub hl [1, 2, 0] rfl)
  · replace hf := ifp c3 hf
    refine lv_iconst (v := (-1 : Int32)) hx hb dX9_least_8 rfl ?_
    cases hf
    exact r_iret C h hr hlk rfl dX9_least_9
def f_X9_safe_L51 : Nat → Int32 → Int32 → Int32 → (Nat → Int32) → (Nat → Int32) → (Nat → Int32) → Option (Int32 × (Nat → Int32) × (Nat → Int32) × (Nat → Int32))
  | 0, _, _, _, _, _, _ => none
  | n + 1, v2, v3, v4, g_this_laid, g_this_pile, g_this_s => (if (g_this_s 4) ≤ v4 then bd1 (f_X9_layBack g_this_laid g_this_s) (fun g8 => some (v3, g_this_laid, g_this_pile, g8)) else (if v2 < 0 then bd1 (f_X9_layBack g_this_laid g_this_s) (fun g11 => some (v3, g_this_laid, g_this_pile, g11)) else bd1 (f_X9_isOnRock v4 g_this_s) (fun r13 => (if r13 = 0 then lt1 (v3 ||| ((1 : Int32) <<< (v4 &&& 31))) (fun (t16 : Int32) => lt1 (v4 + (1 : Int32)) (fun (t17 : Int32) => (f_X9_safe_L51 n) v2 t16 t17 g_this_laid g_this_pile g_this_s)) else lt1 (v3 ||| (0 : Int32)) (fun (t18 : Int32) => lt1 (v4 + (1 : Int32)) (fun (t19 : Int32) => (f_X9_safe_L51 n) v2 t18 t19 g_this_laid g_this_pile g_this_s))))))
def f_X9_safe_b46 (v2 : Int32) (g_this_laid : Nat → Int32) (g_this_pile : Nat → Int32) (g_this_s : Nat → Int32) : Option (Int32 × (Nat → Int32) × (Nat → Int32) × (Nat → Int32)) := f_X9_safe_L51 1000 v2 (0 : Int32) (0 : Int32) g_this_laid g_this_pile g_this_s
def f_X9_safe_L20 (p0 : Int32) : Nat → Int32 → Int32 → (Nat → Int32) → (Nat → Int32) → (Nat → Int32) → Option (Int32 × (Nat → Int32) × (Nat → Int32) × (Nat → Int32))
  | 0, _, _, _, _, _ => none
  | n + 1, v2, v3, g_this_laid, g_this_pile, g_this_s => (if p0 ≤ v3 then f_X9_safe_b46 v2 g_this_laid g_this_pile g_this_s else bd1 (f_X9_isOver g_this_s) (fun r20 => (if r20 = 0 then bd3 (f_X9_goesBy (-1 : Int32) g_this_pile g_this_s) (fun r23 g24 g25 => lt1 (v2 + r23) (fun (t27 : Int32) => lt1 (v3 + (1 : Int32)) (fun (t28 : Int32) => (f_X9_safe_L20 p0 n) t27 t28 g_this_laid g24 g25))) else f_X9_safe_b46 v2 g_this_laid g_this_pile g_this_s)))
def f_X9_safe (p0 : Int32) (f_this_laid : Nat → Int32) (f_this_pile : Nat → Int32) (f_this_s : Nat → Int32) : Option (Int32 × (Nat → Int32) × (Nat → Int32) × (Nat → Int32)) := bd1 (f_X9_in1 p0 (0 : Int32) (16 : Int32)) (fun r1 => (if r1 = 0 then some ((-1 : Int32), f_this_laid, f_this_pile, f_this_s) else bd1 (f_X9_layDown f_this_laid f_this_s) (fun g4 => f_X9_safe_L20 p0 1000 (0 : Int32) (0 : Int32) g4 f_this_pile f_this_s)))
set_option maxRecDepth 100000 in
set_option maxHeartbeats 4000000 in
theorem c_X9_safe {l : Launch} {G : Gt} {h_this h_this_s h_this_kept h_this_laid h_this_pile h_this_tape h_this_letters h_this_code0 h_this_read h_this_saved h_this_plan h_this_bestPlan h_this_offThen h_this_paidThen h_this_rows h_this_sorts h_this_sizes h_this_number h_this_holds h_this_heldOne h_this_trace : Nat} {p0 : Int32} {x_this_isKept : Int32} {x_this_taped : Int32} {x_this_at : Int32} {x_this_begun : Int32} {x_this_token : Int32} {x_this_value : Int32} {x_this_opened : Int32} {x_this_steps : Int32} {x_this_most : Int32} {x_this_many : Int32} {x_this_few : Int32} {x_this_everHome : Int32} {x_this_firstFit : Int32} {x_this_rowMany : Int32} {x_this_traced : Int32} {x_this_own : Int32} {x_this_isParted : Int32} {f_this_laid : Nat → Int32} {f_this_pile : Nat → Int32} {f_this_s : Nat → Int32} {r : Int32} {m_this_laid : Nat → Int32} {m_this_pile : Nat → Int32} {m_this_s : Nat → Int32} (hf : f_X9_safe p0 f_this_laid f_this_pile f_this_s = some (r, m_this_laid, m_this_pile, m_this_s)) : mFi l G yX9_safe cX9_safe 5 .int 7 [.ref h_this, .int p0] [(h_this, ob 9 [.ref h_this_s, .ref h_this_kept, .ref h_this_laid, .int x_this_isKept, .ref h_this_pile, .ref h_this_tape, .int x_this_taped, .ref h_this_letters, .int x_this_at, .int x_this_begun, .int x_this_token, .int x_this_value, .int x_this_opened, .int x_this_steps, .ref h_this_code0, .ref h_this_read, .ref h_this_saved, .ref h_this_plan, .ref h_this_bestPlan, .int x_this_most, .int x_this_many, .int x_this_few, .int x_this_everHome, .ref h_this_offThen, .ref h_this_paidThen, .int x_this_firstFit, .ref h_this_rows, .int x_this_rowMany, .ref h_this_sorts, .ref h_this_sizes, .ref h_this_number, .ref h_this_holds, .ref h_this_heldOne, .ref h_this_trace, .int x_this_traced, .int x_this_own, .int x_this_isParted]), (h_this_laid, ia G 65 f_this_laid), (h_this_pile, ia G 200 f_this_pile), (h_this_s, ia G 313 f_this_s)] r [(h_this, ob 9 [.ref h_this_s, .ref h_this_kept, .ref h_this_laid, .int x_this_isKept, .ref h_this_pile, .ref h_this_tape, .int x_this_taped, .ref h_this_letters, .int x_this_at, .int x_this_begun, .int x_this_token, .int x_this_value, .int x_this_opened, .int x_this_steps, .ref h_this_code0, .ref h_this_read, .ref h_this_saved, .ref h_this_plan, .ref h_this_bestPlan, .int x_this_most, .int x_this_many, .int x_this_few, .int x_this_everHome, .ref h_this_offThen, .ref h_this_paidThen, .int x_this_firstFit, .ref h_this_rows, .int x_this_rowMany, .ref h_this_sorts, .ref h_this_sizes, .ref h_this_number, .ref h_this_holds, .ref h_this_heldOne, .ref h_this_trace, .int x_this_traced, .int x_this_own, .int x_this_isParted]), (h_this_laid, ia G 65 m_this_laid), (h_this_pile, ia G 200 m_this_pile), (h_this_s, ia G 313 m_this_s)] := by
  refine mFi.of (by decide +kernel) (Nat.le_of_ble_eq_true rfl) ?_
  intro p e s m below meth c A C hr hlk h ls hl
  obtain ⟨hx, hb, hml, hown, hts⟩ := id C
  replace hl : lv_has ls 5 [(0, .ref h_this), (1, .int p0)] := hl
  unfold f_X9_safe at hf
  refine with_K G A 5 (fun K hK1 hK2 => ?_)
  have L51 : ∀ (n : Nat) (v2 : Int32) (v3 : Int32) (v4 : Int32) (g_this_laid : Nat → Int32) (g_this_pile : Nat → Int32) (g_this_s : Nat → Int32), f_X9_safe_L51 n v2 v3 v4 g_this_laid g_this_pile g_this_s = some (r, m_this_laid, m_this_pile, m_this_s) → K 51 ([] : List Value) [(h_this, ob 9 [.ref h_this_s, .ref h_this_kept, .ref h_this_laid, .int x_this_isKept, .ref h_this_pile, .ref h_this_tape, .int x_this_taped, .ref h_this_letters, .int x_this_at, .int x_this_begun, .int x_this_token, .int x_this_value, .int x_this_opened, .int x_this_steps, .ref h_this_code0, .ref h_this_read, .ref h_this_saved, .ref h_this_plan, .ref h_this_bestPlan, .int x_this_most, .int x_this_many, .int x_this_few, .int x_this_everHome, .ref h_this_offThen, .ref h_this_paidThen, .int x_this_firstFit, .ref h_this_rows, .int x_this_rowMany, .ref h_this_sorts, .ref h_this_sizes, .ref h_this_number, .ref h_this_holds, .ref h_this_heldOne, .ref h_this_trace, .int x_this_traced, .int x_this_own, .int x_this_isParted]), (h_this_laid, ia G 65 g_this_laid), (h_this_pile, ia G 200 g_this_pile), (h_this_s, ia G 313 g_this_s)] [(0, .ref h_this), (2, .int v2), (3, .int v3), (4, .int v4)] := by
    intro n
    induction n with
    | zero =>
      intro v2 v3 v4 g_this_laid g_this_pile g_this_s hf
      replace hf : (none : Option _) = some _ := hf
      cases hf
    | succ n ih =>
      intro v2 v3 v4 g_this_laid g_this_pile g_this_s hf
      rw [f_X9_safe_L51] at hf
      refine hK1 _ _ _ _ (fun H locs ls h hl => ?_)
      refine lv_iload hx hb dX9_safe_51 (lv_at hl 3 rfl) ?_
      refine lv_aload_n hx hb dX9_safe_53 rfl (lv_at hl 0 rfl) ?_
      refine r_get C h fk_X9_9 0 rfl rfl dX9_safe_54 ?_
      refine lv_iconst (v := (4 : Int32)) hx hb dX9_safe_57 rfl ?_
      refine r_ialdL C h 3 rfl (vlit rfl) 4 rfl dX9_safe_58 ?_
      refine lv_icmp_ge (tgt := 92) hx hb dX9_safe_59 rfl (fun c7 => ?_) (fun c7 => ?_)
      · replace hf := ifp c7 hf
        refine lv_aload_n hx hb dX9_safe_92 rfl (lv_at hl 0 rfl) ?_
        replace hf := bd1_inv hf
        obtain ⟨g8, hc9, hf⟩ := hf
        refine r_cvV (ws' := [(h_this, ob 9 [.ref h_this_s, .ref h_this_kept, .ref h_this_laid, .int x_this_isKept, .ref h_this_pile, .ref h_this_tape, .int x_this_taped, .ref h_this_letters, .int x_this_at, .int x_this_begun, .int x_this_token, .int x_this_value, .int x_this_opened, .int x_this_steps, .ref h_this_code0, .ref h_this_read, .ref h_this_saved, .ref h_this_plan, .ref h_this_bestPlan, .int x_this_most, .int x_this_many, .int x_this_few, .int x_this_everHome, .ref h_this_offThen, .ref h_this_paidThen, .int x_this_firstFit, .ref h_this_rows, .int x_this_rowMany, .ref h_this_sorts, .ref h_this_sizes, .ref h_this_number, .ref h_this_holds, .ref h_this_heldOne, .ref h_this_trace, .int x_this_traced, .int x_this_own, .int x_this_isParted]), (h_this_laid, ia G 65 g_this_laid), (h_this_pile, ia G 200 g_this_pile), (h_this_s, ia G 313 g8)]) C h (c_X9_layBack hc9) mv_X9_247 rfl 0 rfl [0, 1, 3] rfl rfl rfl rfl rfl hl.1 rfl (Nat.le_of_ble_eq_true rfl) (rok (by decide)) dX9_safe_93 (fun H locs h => ?_)
        refine lv_iload_n hx hb dX9_safe_96 rfl (lv_at hl 2 rfl) ?_
        cases hf
        exact r_iret C h hr hlk rfl dX9_safe_97
      · replace hf := ifn c7 hf
        refine lv_iload_n hx hb dX9_safe_62 rfl (lv_at hl 1 rfl) ?_
        refine lv_if_lt (tgt := 92) hx hb dX9_safe_63 rfl (fun c10 => ?_) (fun c10 => ?_)
        · replace hf := ifp c10 hf
          refine lv_aload_n hx hb dX9_safe_92 rfl (lv_at hl 0 rfl) ?_
          replace hf := bd1_inv hf
          obtain ⟨g11, hc12, hf⟩ := hf
          refine r_cvV (ws' := [(h_this, ob 9 [.ref h_this_s, .ref h_this_kept, .ref h_this_laid, .int x_this_isKept, .ref h_this_pile, .ref h_this_tape, .int x_this_taped, .ref h_this_letters, .int x_this_at, .int x_this_begun, .int x_this_token, .int x_this_value, .int x_this_opened, .int x_this_steps, .ref h_this_code0, .ref h_this_read, .ref h_this_saved, .ref h_this_plan, .ref h_this_bestPlan, .int x_this_most, .int x_this_many, .int x_this_few, .int x_this_everHome, .ref h_this_offThen, .ref h_this_paidThen, .int x_this_firstFit, .ref h_this_rows, .int x_this_rowMany, .ref h_this_sorts, .ref h_this_sizes, .ref h_this_number, .ref h_this_holds, .ref h_this_heldOne, .ref h_this_trace, .int x_this_traced, .int x_this_own, .int x_this_isParted]), (h_this_laid, ia G 65 g_this_laid), (h_this_pile, ia G 200 g_this_pile), (h_this_s, ia G 313 g11)]) C h (c_X9_layBack hc12) mv_X9_247 rfl 0 rfl [0, 1, 3] rfl rfl rfl rfl rfl hl.1 rfl (Nat.le_of_ble_eq_true rfl) (rok (by decide)) dX9_safe_93 (fun H locs h => ?_)
          refine lv_iload_n hx hb dX9_safe_96 rfl (lv_at hl 2 rfl) ?_
          cases hf
          exact r_iret C h hr hlk rfl dX9_safe_97
        · replace hf := ifn c10 hf
          refine lv_iload_n hx hb dX9_safe_66 rfl (lv_at hl 2 rfl) ?_
          refine lv_aload_n hx hb dX9_safe_67 rfl (lv_at hl 0 rfl) ?_
          refine lv_iload hx hb dX9_safe_68 (lv_at hl 3 rfl) ?_
          replace hf := bd1_inv hf
          obtain ⟨r13, hc14, hf⟩ := hf
          refine r_ciV0 C h (c_X9_isOnRock hc14) mv_X9_108 rfl 0 rfl [0, 3] rfl rfl hl.1 rfl (Nat.le_of_ble_eq_true rfl) (rok (by decide)) dX9_safe_70 (fun H locs h => ?_)
          refine lv_if_eq (tgt := 80) hx hb dX9_safe_73 rfl (fun c15 => ?_) (fun c15 => ?_)
          · replace hf := ifp c15 hf
            refine lv_iconst (v := (1 : Int32)) hx hb dX9_safe_80 rfl ?_
            refine lv_iload hx hb dX9_safe_81 (lv_at hl 3 rfl) ?_
            refine lv_ishl hx hb dX9_safe_83 ?_
            refine lv_ior hx hb dX9_safe_84 ?_
            refine lv_topi (fun t16 et16 => ?_)
            replace hf := lt1_inv et16 hf
            refine lv_istore_n (lv' := [(3, .int t16), (0, .ref h_this), (2, .int v2), (4, .int v4)]) hx hb dX9_safe_85 rfl hl (by decide) rfl (fun ls hl => ?_)
            obtain ⟨t17, et17⟩ : ∃ y : Int32, y = v4 + (1 : Int32) := ⟨_, rfl⟩
            replace hf := lt1_inv et17 hf
            refine lv_iinc (v := t17) (lv' := [(4, .int t17), (3, .int t16), (0, .ref h_this), (2, .int v2)]) hx hb dX9_safe_86 hl (k := 3) rfl (by rw [et17]; rfl) (by decide) rfl (fun ls hl => ?_)
            refine lv_goto (tgt := 51) hx hb dX9_safe_89 rfl ?_
            exact hK2 _ _ _ _ (ih v2 t16 t17 g_this_laid g_this_pile g_this_s hf) _ _ _ h (lv_sub hl [2, 3, 1, 0] rfl)
          · replace hf := ifn c15 hf
            refine lv_iconst (v := (0 : Int32)) hx hb dX9_safe_76 rfl ?_
            refine lv_goto (tgt := 84) hx hb dX9_safe_77 rfl ?_
            refine lv_ior hx hb dX9_safe_84 ?_
            refine lv_topi (fun t18 et18 => ?_)
            replace hf := lt1_inv et18 hf
            refine lv_istore_n (lv' := [(3, .int t18), (0, .ref h_this), (2, .int v2), (4, .int v4)]) hx hb dX9_safe_85 rfl hl (by decide) rfl (fun ls hl => ?_)
            obtain ⟨t19, et19⟩ : ∃ y : Int32, y = v4 + (1 : Int32) := ⟨_, rfl⟩
            replace hf := lt1_inv et19 hf
            refine lv_iinc (v := t19) (lv' := [(4, .int t19), (3, .int t18), (0, .ref h_this), (2, .int v2)]) hx hb dX9_safe_86 hl (k := 3) rfl (by rw [et19]; rfl) (by decide) rfl (fun ls hl => ?_)
            refine lv_goto (tgt := 51) hx hb dX9_safe_89 rfl ?_
            exact hK2 _ _ _ _ (ih v2 t18 t19 g_this_laid g_this_pile g_this_s hf) _ _ _ h (lv_sub hl [2, 3, 1, 0] rfl)
  have B46 : ∀ (v2 : Int32) (g_this_laid : Nat → Int32) (g_this_pile : Nat → Int32) (g_this_s : Nat → Int32), f_X9_safe_b46 v2 g_this_laid g_this_pile g_this_s = some (r, m_this_laid, m_this_pile, m_this_s) → K 46 ([] : List Value) [(h_this, ob 9 [.ref h_this_s, .ref h_this_kept, .ref h_this_laid, .int x_this_isKept, .ref h_this_pile, .ref h_this_tape, .int x_this_taped, .ref h_this_letters, .int x_this_at, .int x_this_begun, .int x_this_token, .int x_this_value, .int x_this_opened, .int x_this_steps, .ref h_this_code0, .ref h_this_read, .ref h_this_saved, .ref h_this_plan, .ref h_this_bestPlan, .int x_this_most, .int x_this_many, .int x_this_few, .int x_this_everHome, .ref h_this_offThen, .ref h_this_paidThen, .int x_this_firstFit, .ref h_this_rows, .int x_this_rowMany, .ref h_this_sorts, .ref h_this_sizes, .ref h_this_number, .ref h_this_holds, .ref h_this_heldOne, .ref h_this_trace, .int x_this_traced, .int x_this_own, .int x_this_isParted]), (h_this_laid, ia G 65 g_this_laid), (h_this_pile, ia G 200 g_this_pile), (h_this_s, ia G 313 g_this_s)] [(0, .ref h_this), (2, .int v2)] := by
    intro v2 g_this_laid g_this_pile g_this_s hf
    unfold f_X9_safe_b46 at hf
    refine hK1 _ _ _ _ (fun H locs ls h hl => ?_)
    refine lv_iconst (v := (0 : Int32)) hx hb dX9_safe_46 rfl ?_
    refine lv_istore_n (lv' := [(3, .int (0 : Int32)), (0, .ref h_this), (2, .int v2)]) hx hb dX9_safe_47 rfl hl (by decide) rfl (fun ls hl => ?_)
    refine lv_iconst (v := (0 : Int32)) hx hb dX9_safe_48 rfl ?_
    refine lv_istore (lv' := [(4, .int (0 : Int32)), (3, .int (0 : Int32)), (0, .ref h_this), (2, .int v2)]) hx hb dX9_safe_49 hl (by decide) rfl (fun ls hl => ?_)
    exact hK2 _ _ _ _ (L51 1000 v2 (0 : Int32) (0 : Int32) g_this_laid g_this_pile g_this_s hf) _ _ _ h (lv_sub hl [2, 3, 1, 0] rfl)
  have L20 : ∀ (n : Nat) (v2 : Int32) (v3 : Int32) (g_this_laid : Nat → Int32) (g_this_pile : Nat → Int32) (g_this_s : Nat → Int32), f_X9_safe_L20 p0 n v2 v3 g_this_laid g_this_pile g_this_s = some (r, m_this_laid, m_this_pile, m_this_s) → K 20 ([] : List Value) [(h_this, ob 9 [.ref h_this_s, .ref h_this_kept, .ref h_this_laid, .int x_this_isKept, .ref h_this_pile, .ref h_this_tape, .int x_this_taped, .ref h_this_letters, .int x_this_at, .int x_this_begun, .int x_this_token, .int x_this_value, .int x_this_opened, .int x_this_steps, .ref h_this_code0, .ref h_this_read, .ref h_this_saved, .ref h_this_plan, .ref h_this_bestPlan, .int x_this_most, .int x_this_many, .int x_this_few, .int x_this_everHome, .ref h_this_offThen, .ref h_this_paidThen, .int x_this_firstFit, .ref h_this_rows, .int x_this_rowMany, .ref h_this_sorts, .ref h_this_sizes, .ref h_this_number, .ref h_this_holds, .ref h_this_heldOne, .ref h_this_trace, .int x_this_traced, .int x_this_own, .int x_this_isParted]), (h_this_laid, ia G 65 g_this_laid), (h_this_pile, ia G 200 g_this_pile), (h_this_s, ia G 313 g_this_s)] [(0, .ref h_this), (1, .int p0), (2, .int v2), (3, .int v3)] := by
    intro n
    induction n with
    | zero =>
      intro v2 v3 g_this_laid g_this_pile g_this_s hf
      replace hf : (none : Option _) = some _ := hf
      cases hf
    | succ n ih =>
      intro v2 v3 g_this_laid g_this_pile g_this_s hf
      rw [f_X9_safe_L20] at hf
      refine hK1 _ _ _ _ (fun H locs ls h hl => ?_)
      refine lv_iload_n hx hb dX9_safe_20 rfl (lv_at hl 3 rfl) ?_
      refine lv_iload_n hx hb dX9_safe_21 rfl (lv_at hl 1 rfl) ?_
      refine lv_icmp_ge (tgt := 46) hx hb dX9_safe_22 rfl (fun c6 => ?_) (fun c6 => ?_)
      · replace hf := ifp c6 hf
        exact hK2 _ _ _ _ (B46 v2 g_this_laid g_this_pile g_this_s hf) _ _ _ h (lv_sub hl [0, 2] rfl)
      · replace hf := ifn c6 hf
        refine lv_aload_n hx hb dX9_safe_25 rfl (lv_at hl 0 rfl) ?_
        replace hf := bd1_inv hf
        obtain ⟨r20, hc21, hf⟩ := hf
        refine r_ciV0 C h (c_X9_isOver hc21) mv_X9_232 rfl 0 rfl [0, 3] rfl rfl hl.1 rfl (Nat.le_of_ble_eq_true rfl) (rok (by decide)) dX9_safe_26 (fun H locs h => ?_)
        refine lv_if_ne (tgt := 46) hx hb dX9_safe_29 rfl (fun c22 => ?_) (fun c22 => ?_)
        · replace hf := ifn c22 hf
          exact hK2 _ _ _ _ (B46 v2 g_this_laid g_this_pile g_this_s hf) _ _ _ h (lv_sub hl [0, 2] rfl)
        · replace hf := ifp c22 hf
          refine lv_iload_n hx hb dX9_safe_32 rfl (lv_at hl 2 rfl) ?_
          refine lv_aload_n hx hb dX9_safe_33 rfl (lv_at hl 0 rfl) ?_
          refine lv_iconst (v := (-1 : Int32)) hx hb dX9_safe_34 rfl ?_
          replace hf := bd3_inv hf
          obtain ⟨r23, g24, g25, hc26, hf⟩ := hf
          refine r_ciV (ws' := [(h_this, ob 9 [.ref h_this_s, .ref h_this_kept, .ref h_this_laid, .int x_this_isKept, .ref h_this_pile, .ref h_this_tape, .int x_this_taped, .ref h_this_letters, .int x_this_at, .int x_this_begun, .int x_this_token, .int x_this_value, .int x_this_opened, .int x_this_steps, .ref h_this_code0, .ref h_this_read, .ref h_this_saved, .ref h_this_plan, .ref h_this_bestPlan, .int x_this_most, .int x_this_many, .int x_this_few, .int x_this_everHome, .ref h_this_offThen, .ref h_this_paidThen, .int x_this_firstFit, .ref h_this_rows, .int x_this_rowMany, .ref h_this_sorts, .ref h_this_sizes, .ref h_this_number, .ref h_this_holds, .ref h_this_heldOne, .ref h_this_trace, .int x_this_traced, .int x_this_own, .int x_this_isParted]), (h_this_laid, ia G 65 g_this_laid), (h_this_pile, ia G 200 g24), (h_this_s, ia G 313 g25)]) C h (c_X9_goesBy hc26) mv_X9_238 rfl 0 rfl [0, 2, 3] rfl rfl rfl rfl rfl hl.1 rfl (Nat.le_of_ble_eq_true rfl) (rok (by decide)) dX9_safe_35 (fun H locs h => ?_)
          refine lv_iadd hx hb dX9_safe_38 ?_
          refine lv_topi (fun t27 et27 => ?_)
          replace hf := lt1_inv et27 hf
          refine lv_istore_n (lv' := [(2, .int t27), (0, .ref h_this), (1, .int p0), (3, .int v3)]) hx hb dX9_safe_39 rfl hl (by decide) rfl (fun ls hl => ?_)
          obtain ⟨t28, et28⟩ : ∃ y : Int32, y = v3 + (1 : Int32) := ⟨_, rfl⟩
          replace hf := lt1_inv et28 hf
          refine lv_iinc (v := t28) (lv' := [(3, .int t28), (2, .int t27), (0, .ref h_this), (1, .int p0)]) hx hb dX9_safe_40 hl (k := 3) rfl (by rw [et28]; rfl) (by decide) rfl (fun ls hl => ?_)
          refine lv_goto (tgt := 20) hx hb dX9_safe_43 rfl ?_
          exact hK2 _ _ _ _ (ih t27 t28 g_this_laid g24 g25 hf) _ _ _ h (lv_sub hl [2, 3, 1, 0] rfl)
  refine lv_iload_n hx hb dX9_safe_0 rfl (lv_at hl 1 rfl) ?_
  refine lv_iconst (v := (0 : Int32)) hx hb dX9_safe_1 rfl ?_
  refine lv_bipush (v := (16 : Int32)) hx hb dX9_safe_2 rfl ?_
  replace hf := bd1_inv hf
  obtain ⟨r1, hc2, hf⟩ := hf
  refine r_ciS0 C h (c_X9_in1 hc2) ms_X9_71 rfl [] rfl rfl hl.1 rfl (Nat.le_of_ble_eq_true rfl) (rok (by decide)) dX9_safe_4 (fun H locs h => ?_)
  refine lv_if_ne (tgt := 12) hx hb dX9_safe_7 rfl (fun c3 => ?_) (fun c3 => ?_)
  · replace hf := ifn c3 hf
    refine lv_aload_n hx hb dX9_safe_12 rfl (lv_at hl 0 rfl) ?_
    replace hf := bd1_inv hf
    obtain ⟨g4, hc5, hf⟩ := hf
    refine r_cvV (ws' := [(h_this, ob 9 [.ref h_this_s, .ref h_this_kept, .ref h_this_laid, .int x_this_isKept, .ref h_this_pile, .ref h_this_tape, .int x_this_taped, .ref h_this_letters, .int x_this_at, .int x_this_begun, .int x_this_token, .int x_this_value, .int x_this_opened, .int x_this_steps, .ref h_this_code0, .ref h_this_read, .ref h_this_saved, .ref h_this_plan, .ref h_this_bestPlan, .int x_this_most, .int x_this_many, .int x_this_few, .int x_this_everHome, .ref h_this_offThen, .ref h_this_paidThen, .int x_this_firstFit, .ref h_this_rows, .int x_this_rowMany, .ref h_this_sorts, .ref h_this_sizes, .ref h_this_number, .ref h_this_holds, .ref h_this_heldOne, .ref h_this_trace, .int x_this_traced, .int x_this_own, .int x_this_isParted]), (h_this_laid, ia G 65 g4), (h_this_pile, ia G 200 f_this_pile), (h_this_s, ia G 313 f_this_s)]) C h (c_X9_layDown hc5) mv_X9_241 rfl 0 rfl [0, 1, 3] rfl rfl rfl rfl rfl hl.1 rfl (Nat.le_of_ble_eq_true rfl) (rok (by decide)) dX9_safe_13 (fun H locs h => ?_)
    refine lv_iconst (v := (0 : Int32)) hx hb dX9_safe_16 rfl ?_
    refine lv_istore_n (lv' := [(2, .int (0 : Int32)), (0, .ref h_this), (1, .int p0)]) hx hb dX9_safe_17 rfl hl (by decide) rfl (fun ls hl => ?_)
    refine lv_iconst (v := (0 : Int32)) hx hb dX9_safe_18 rfl ?_
    refine lv_istore_n (lv' := [(3, .int (0 : Int32)), (2, .int (0 : Int32)), (0, .ref h_this), (1, .int p0)]) hx hb dX9_safe_19 rfl hl (by decide) rfl (fun ls hl => ?_)
    exact hK2 _ _ _ _ (L20 1000 (0 : Int32) (0 : Int32) g4 f_this_pile f_this_s hf) _ _ _ h (lv_sub hl [2, 3, 1, 0] rfl)
  · replace hf := ifp c3 hf
    refine lv_iconst (v := (-1 : Int32)) hx hb dX9_safe_10 rfl ?_
    cases hf
    exact r_iret C h hr hlk rfl dX9_safe_11
def f_X9_apart (p0 : Int32) (p1 : Int32) : Option (Int32) := (if p1 ≤ p0 then some (p0 - p1) else some (p1 - p0))
set_option maxRecDepth 100000 in
set_option maxHeartbeats 4000000 in
theorem c_X9_apart {l : Launch} {G : Gt} {p0 : Int32} {p1 : Int32} {r : Int32} (hf : f_X9_apart p0 p1 = some r) : mFi l G yX9_apart cX9_apart 2 .int 0 [.int p0, .int p1] ([] : va_W) r ([] : va_W) := by
  refine mFi.of (by decide +kernel) (Nat.le_of_ble_eq_true rfl) ?_
  intro p e s m below meth c A C hr hlk h ls hl
  obtain ⟨hx, hb, hml, hown, hts⟩ := id C
  replace hl : lv_has ls 2 [(0, .int p0), (1, .int p1)] := hl
  unfold f_X9_apart at hf
  refine lv_iload_n hx hb dX9_apart_0 rfl (lv_at hl 0 rfl) ?_
  refine lv_iload_n hx hb dX9_apart_1 rfl (lv_at hl 1 rfl) ?_
  refine lv_icmp_ge (tgt := 11) hx hb dX9_apart_2 rfl (fun c1 => ?_) (fun c1 => ?_)
  · replace hf := ifp c1 hf
    refine lv_iload_n hx hb dX9_apart_11 rfl (lv_at hl 0 rfl) ?_
    refine lv_iload_n hx hb dX9_apart_12 rfl (lv_at hl 1 rfl) ?_
    refine lv_isub hx hb dX9_apart_13 ?_
    cases hf
    exact r_iret C h hr hlk rfl dX9_apart_14
  · replace hf := ifn c1 hf
    refine lv_iload_n hx hb dX9_apart_5 rfl (lv_at hl 1 rfl) ?_
    refine lv_iload_n hx hb dX9_apart_6 rfl (lv_at hl 0 rfl) ?_
    refine lv_isub hx hb dX9_apart_7 ?_
    refine lv_goto (tgt := 14) hx hb dX9_apart_8 rfl ?_
    cases hf
    exact r_iret C h hr hlk rfl dX9_apart_14
def f_X9_areClose_b39 (p0 : Int32) (p1 : Int32) (f_this_s : Nat → Int32) (s0 : Int32) : Option (Int32) := bd1 (f_X9_get p0 (4 : Int32) f_this_s) (fun r6 => (if r6 = 0 then bd1 (f_X9_get p1 (4 : Int32) f_this_s) (fun r9 => (if r9 = 0 then (if s0 = 0 then some (0 : Int32) else some (1 : Int32)) else some (0 : Int32))) else some (0 : Int32)))
def f_X9_areClose_b34 (p0 : Int32) (p1 : Int32) (f_this_s : Nat → Int32) : Option (Int32) := f_X9_areClose_b39 p0 p1 f_this_s (1 : Int32)
def f_X9_areClose (p0 : Int32) (p1 : Int32) (f_this_s : Nat → Int32) : Option (Int32) := bd1 (f_X9_get p0 (3 : Int32) f_this_s) (fun r1 => bd1 (f_X9_get p1 (3 : Int32) f_this_s) (fun r3 => (if r1 = r3 then f_X9_areClose_b34 p0 p1 f_this_s else bd1 (f_X9_get p0 (1 : Int32) f_this_s) (fun r13 => bd1 (f_X9_get p1 (1 : Int32) f_this_s) (fun r15 => bd1 (f_X9_apart r13 r15) (fun r17 => (if (4 : Int32) < r17 then f_X9_areClose_b39 p0 p1 f_this_s (0 : Int32) else f_X9_areClose_b34 p0 p1 f_this_s)))))))
set_option maxRecDepth 100000 in
set_option maxHeartbeats 4000000 in
theorem c_X9_areClose {l : Launch} {G : Gt} {h_this h_this_s h_this_kept h_this_laid h_this_pile h_this_tape h_this_letters h_this_code0 h_this_read h_this_saved h_this_plan h_this_bestPlan h_this_offThen h_this_paidThen h_this_rows h_this_sorts h_this_sizes h_this_number h_this_holds h_this_heldOne h_this_trace : Nat} {p0 : Int32} {p1 : Int32} {x_this_isKept : Int32} {x_this_taped : Int32} {x_this_at : Int32} {x_this_begun : Int32} {x_this_token : Int32} {x_this_value : Int32} {x_this_opened : Int32} {x_this_steps : Int32} {x_this_most : Int32} {x_this_many : Int32} {x_this_few : Int32} {x_this_everHome : Int32} {x_this_firstFit : Int32} {x_this_rowMany : Int32} {x_this_traced : Int32} {x_this_own : Int32} {x_this_isParted : Int32} {f_this_s : Nat → Int32} {r : Int32} (hf : f_X9_areClose p0 p1 f_this_s = some r) : mFi l G yX9_areClose cX9_areClose 4 .boolean 1 [.ref h_this, .int p0, .int p1] [(h_this, ob 9 [.ref h_this_s, .ref h_this_kept, .ref h_this_laid, .int x_this_isKept, .ref h_this_pile, .ref h_this_tape, .int x_this_taped, .ref h_this_letters, .int x_this_at, .int x_this_begun, .int x_this_token, .int x_this_value, .int x_this_opened, .int x_this_steps, .ref h_this_code0, .ref h_this_read, .ref h_this_saved, .ref h_this_plan, .ref h_this_bestPlan, .int x_this_most, .int x_this_many, .int x_this_few, .int x_this_everHome, .ref h_this_offThen, .ref h_this_paidThen, .int x_this_firstFit, .ref h_this_rows, .int x_this_rowMany, .ref h_this_sorts, .ref h_this_sizes, .ref h_this_number, .ref h_this_holds, .ref h_this_heldOne, .ref h_this_trace, .int x_this_traced, .int x_this_own, .int x_this_isParted]), (h_this_s, ia G 313 f_this_s)] r [(h_this, ob 9 [.ref h_this_s, .ref h_this_kept, .ref h_this_laid, .int x_this_isKept, .ref h_this_pile, .ref h_this_tape, .int x_this_taped, .ref h_this_letters, .int x_this_at, .int x_this_begun, .int x_this_token, .int x_this_value, .int x_this_opened, .int x_this_steps, .ref h_this_code0, .ref h_this_read, .ref h_this_saved, .ref h_this_plan, .ref h_this_bestPlan, .int x_this_most, .int x_this_many, .int x_this_few, .int x_this_everHome, .ref h_this_offThen, .ref h_this_paidThen, .int x_this_firstFit, .ref h_this_rows, .int x_this_rowMany, .ref h_this_sorts, .ref h_this_sizes, .ref h_this_number, .ref h_this_holds, .ref h_this_heldOne, .ref h_this_trace, .int x_this_traced, .int x_this_own, .int x_this_isParted]), (h_this_s, ia G 313 f_this_s)] := by
  refine mFi.of (by decide +kernel) (Nat.le_of_ble_eq_true rfl) ?_
  intro p e s m below meth c A C hr hlk h ls hl
  obtain ⟨hx, hb, hml, hown, hts⟩ := id C
  replace hl : lv_has ls 4 [(0, .ref h_this), (1, .int p0), (2, .int p1)] := hl
  unfold f_X9_areClose at hf
  refine with_K G A 4 (fun K hK1 hK2 => ?_)
  have B39 : ∀ (s0 : Int32), f_X9_areClose_b39 p0 p1 f_this_s s0 = some r → K 39 [.int s0] [(h_this, ob 9 [.ref h_this_s, .ref h_this_kept, .ref h_this_laid, .int x_this_isKept, .ref h_this_pile, .ref h_this_tape, .int x_this_taped, .ref h_this_letters, .int x_this_at, .int x_this_begun, .int x_this_token, .int x_this_value, .int x_this_opened, .int x_this_steps, .ref h_this_code0, .ref h_this_read, .ref h_this_saved, .ref h_this_plan, .ref h_this_bestPlan, .int x_this_most, .int x_this_many, .int x_this_few, .int x_this_everHome, .ref h_this_offThen, .ref h_this_paidThen, .int x_this_firstFit, .ref h_this_rows, .int x_this_rowMany, .ref h_this_sorts, .ref h_this_sizes, .ref h_this_number, .ref h_this_holds, .ref h_this_heldOne, .ref h_this_trace, .int x_this_traced, .int x_this_own, .int x_this_isParted]), (h_this_s, ia G 313 f_this_s)] [(0, .ref h_this), (1, .int p0), (2, .int p1)] := by
    intro s0 hf
    unfold f_X9_areClose_b39 at hf
    refine hK1 _ _ _ _ (fun H locs ls h hl => ?_)
    refine lv_istore_n (lv' := [(3, .int s0), (0, .ref h_this), (1, .int p0), (2, .int p1)]) hx hb dX9_areClose_39 rfl hl (by decide) rfl (fun ls hl => ?_)
    refine lv_aload_n hx hb dX9_areClose_40 rfl (lv_at hl 1 rfl) ?_
    refine lv_iload_n hx hb dX9_areClose_41 rfl (lv_at hl 2 rfl) ?_
    refine lv_iconst (v := (4 : Int32)) hx hb dX9_areClose_42 rfl ?_
    replace hf := bd1_inv hf
    obtain ⟨r6, hc7, hf⟩ := hf
    refine r_ciV0 C h (c_X9_get hc7) mv_X9_79 rfl 0 rfl [0, 1] rfl rfl hl.1 rfl (Nat.le_of_ble_eq_true rfl) (rok (by decide)) dX9_areClose_43 (fun H locs h => ?_)
    refine lv_if_ne (tgt := 66) hx hb dX9_areClose_46 rfl (fun c8 => ?_) (fun c8 => ?_)
    · replace hf := ifn c8 hf
      refine lv_iconst (v := (0 : Int32)) hx hb dX9_areClose_66 rfl ?_
      cases hf
      exact r_iret C h hr hlk rfl dX9_areClose_67
    · replace hf := ifp c8 hf
      refine lv_aload_n hx hb dX9_areClose_49 rfl (lv_at hl 1 rfl) ?_
      refine lv_iload_n hx hb dX9_areClose_50 rfl (lv_at hl 3 rfl) ?_
      refine lv_iconst (v := (4 : Int32)) hx hb dX9_areClose_51 rfl ?_
      replace hf := bd1_inv hf
      obtain ⟨r9, hc10, hf⟩ := hf
      refine r_ciV0 C h (c_X9_get hc10) mv_X9_79 rfl 0 rfl [0, 1] rfl rfl hl.1 rfl (Nat.le_of_ble_eq_true rfl) (rok (by decide)) dX9_areClose_52 (fun H locs h => ?_)
      refine lv_if_ne (tgt := 66) hx hb dX9_areClose_55 rfl (fun c11 => ?_) (fun c11 => ?_)
      · replace hf := ifn c11 hf
        refine lv_iconst (v := (0 : Int32)) hx hb dX9_areClose_66 rfl ?_
        cases hf
        exact r_iret C h hr hlk rfl dX9_areClose_67
      · replace hf := ifp c11 hf
        refine lv_iload_n hx hb dX9_areClose_58 rfl (lv_at hl 0 rfl) ?_
        refine lv_if_eq (tgt := 66) hx hb dX9_areClose_59 rfl (fun c12 => ?_) (fun c12 => ?_)
        · replace hf := ifp c12 hf
          refine lv_iconst (v := (0 : Int32)) hx hb dX9_areClose_66 rfl ?_
          cases hf
          exact r_iret C h hr hlk rfl dX9_areClose_67
        · replace hf := ifn c12 hf
          refine lv_iconst (v := (1 : Int32)) hx hb dX9_areClose_62 rfl ?_
          refine lv_goto (tgt := 67) hx hb dX9_areClose_63 rfl ?_
          cases hf
          exact r_iret C h hr hlk rfl dX9_areClose_67
  have B34 : f_X9_areClose_b34 p0 p1 f_this_s = some r → K 34 ([] : List Value) [(h_this, ob 9 [.ref h_this_s, .ref h_this_kept, .ref h_this_laid, .int x_this_isKept, .ref h_this_pile, .ref h_this_tape, .int x_this_taped, .ref h_this_letters, .int x_this_at, .int x_this_begun, .int x_this_token, .int x_this_value, .int x_this_opened, .int x_this_steps, .ref h_this_code0, .ref h_this_read, .ref h_this_saved, .ref h_this_plan, .ref h_this_bestPlan, .int x_this_most, .int x_this_many, .int x_this_few, .int x_this_everHome, .ref h_this_offThen, .ref h_this_paidThen, .int x_this_firstFit, .ref h_this_rows, .int x_this_rowMany, .ref h_this_sorts, .ref h_this_sizes, .ref h_this_number, .ref h_this_holds, .ref h_this_heldOne, .ref h_this_trace, .int x_this_traced, .int x_this_own, .int x_this_isParted]), (h_this_s, ia G 313 f_this_s)] [(0, .ref h_this), (1, .int p0), (2, .int p1)] := by
    intro hf
    unfold f_X9_areClose_b34 at hf
    refine hK1 _ _ _ _ (fun H locs ls h hl => ?_)
    refine lv_iconst (v := (1 : Int32)) hx hb dX9_areClose_34 rfl ?_
    refine lv_goto (tgt := 39) hx hb dX9_areClose_35 rfl ?_
    exact hK2 _ _ _ _ (B39 (1 : Int32) hf) _ _ _ h (lv_sub hl [0, 1, 2] rfl)
  refine lv_aload_n hx hb dX9_areClose_0 rfl (lv_at hl 0 rfl) ?_
  refine lv_iload_n hx hb dX9_areClose_1 rfl (lv_at hl 1 rfl) ?_
  refine lv_iconst (v := (3 : Int32)) hx hb dX9_areClose_2 rfl ?_
  replace hf := bd1_inv hf
  obtain ⟨r1, hc2, hf⟩ := hf
  refine r_ciV0 C h (c_X9_get hc2) mv_X9_79 rfl 0 rfl [0, 1] rfl rfl hl.1 rfl (Nat.le_of_ble_eq_true rfl) (rok (by decide)) dX9_areClose_3 (fun H locs h => ?_)
  refine lv_aload_n hx hb dX9_areClose_6 rfl (lv_at hl 0 rfl) ?_
  refine lv_iload_n hx hb dX9_areClose_7 rfl (lv_at hl 2 rfl) ?_
  refine lv_iconst (v := (3 : Int32)) hx hb dX9_areClose_8 rfl ?_
  replace hf := bd1_inv hf
  obtain ⟨r3, hc4, hf⟩ := hf
  refine r_ciV0 C h (c_X9_get hc4) mv_X9_79 rfl 0 rfl [0, 1] rfl rfl hl.1 rfl (Nat.le_of_ble_eq_true rfl) (rok (by decide)) dX9_areClose_9 (fun H locs h => ?_)
  refine lv_icmp_eq (tgt := 34) hx hb dX9_areClose_12 rfl (fun c5 => ?_) (fun c5 => ?_)
  · replace hf := ifp c5 hf
    exact hK2 _ _ _ _ (B34 hf) _ _ _ h (lv_sub hl [0, 1, 2] rfl)
  · replace hf := ifn c5 hf
    refine lv_aload_n hx hb dX9_areClose_15 rfl (lv_at hl 0 rfl) ?_
    refine lv_iload_n hx hb dX9_areClose_16 rfl (lv_at hl 1 rfl) ?_
    refine lv_iconst (v := (1 : Int32)) hx hb dX9_areClose_17 rfl ?_
    replace hf := bd1_inv hf
    obtain ⟨r13, hc14, hf⟩ := hf
    refine r_ciV0 C h (c_X9_get hc14) mv_X9_79 rfl 0 rfl [0, 1] rfl rfl hl.1 rfl (Nat.le_of_ble_eq_true rfl) (rok (by decide)) dX9_areClose_18 (fun H locs h => ?_)
    refine lv_aload_n hx hb dX9_areClose_21 rfl (lv_at hl 0 rfl) ?_
    refine lv_iload_n hx hb dX9_areClose_22 rfl (lv_at hl 2 rfl) ?_
    refine lv_iconst (v := (1 : Int32)) hx hb dX9_areClose_23 rfl ?_
    replace hf := bd1_inv hf
    obtain ⟨r15, hc16, hf⟩ := hf
    refine r_ciV0 C h (c_X9_get hc16) mv_X9_79 rfl 0 rfl [0, 1] rfl rfl hl.1 rfl (Nat.le_of_ble_eq_true rfl) (rok (by decide)) dX9_areClose_24 (fun H locs h => ?_)
    replace hf := bd1_inv hf
    obtain ⟨r17, hc18, hf⟩ := hf
    refine r_ciS0 C h (c_X9_apart hc18) ms_X9_253 rfl [] rfl rfl hl.1 rfl (Nat.le_of_ble_eq_true rfl) (rok (by decide)) dX9_areClose_27 (fun H locs h => ?_)
    refine lv_iconst (v := (4 : Int32)) hx hb dX9_areClose_30 rfl ?_
    refine lv_icmp_gt (tgt := 38) hx hb dX9_areClose_31 rfl (fun c19 => ?_) (fun c19 => ?_)
    · replace hf := ifp c19 hf
      refine lv_iconst (v := (0 : Int32)) hx hb dX9_areClose_38 rfl ?_
      exact hK2 _ _ _ _ (B39 (0 : Int32) hf) _ _ _ h (lv_sub hl [0, 1, 2] rfl)
    · replace hf := ifn c19 hf
      exact hK2 _ _ _ _ (B34 hf) _ _ _ h (lv_sub hl [0, 1, 2] rfl)
