set_option maxRecDepth 100000 in
set_option maxHeartbeats 4000000 in
theorem c_X9_lone {l : Launch} {G : Gt} {h_this h_this_s h_this_kept h_this_laid h_this_pile h_this_tape h_this_letters h_this_code0 h_this_read h_this_saved h_this_plan h_this_bestPlan h_this_offThen h_this_paidThen h_this_rows h_this_sorts h_this_sizes h_this_number h_this_holds h_this_heldOne h_this_trace : Nat} {p0 : Int32} {x_this_isKept : Int32} {x_this_taped : Int32} {x_this_at : Int32} {x_this_begun : Int32} {x_this_token : Int32} {x_this_value : Int32} {x_this_opened : Int32} {x_this_steps : Int32} {x_this_most : Int32} {x_this_many : Int32} {x_this_few : Int32} {x_this_everHome : Int32} {x_this_firstFit : Int32} {x_this_rowMany : Int32} {x_this_traced : Int32} {x_this_own : Int32} {x_this_isParted : Int32} {f_this_offThen : Nat → Int32} {f_this_paidThen : Nat → Int32} {f_this_s : Nat → Int32} {r : Int32} {m_this_firstFit : Int32} {m_this_offThen : Nat → Int32} {m_this_paidThen : Nat → Int32} (hf : f_X9_lone p0 x_this_firstFit f_this_offThen f_this_paidThen f_this_s = some (r, m_this_firstFit, m_this_offThen, m_this_paidThen)) : mFi l G yX9_lone cX9_lone 3 .int 3 [.ref h_this, .int p0] [(h_this, ob 9 [.ref h_this_s, .ref h_this_kept, .ref h_this_laid, .int x_this_isKept, .ref h_this_pile, .ref h_this_tape, .int x_this_taped, .ref h_this_letters, .int x_this_at, .int x_this_begun, .int x_this_token, .int x_this_value, .int x_this_opened, .int x_this_steps, .ref h_this_code0, .ref h_this_read, .ref h_this_saved, .ref h_this_plan, .ref h_this_bestPlan, .int x_this_most, .int x_this_many, .int x_this_few, .int x_this_everHome, .ref h_this_offThen, .ref h_this_paidThen, .int x_this_firstFit, .ref h_this_rows, .int x_this_rowMany, .ref h_this_sorts, .ref h_this_sizes, .ref h_this_number, .ref h_this_holds, .ref h_this_heldOne, .ref h_this_trace, .int x_this_traced, .int x_this_own, .int x_this_isParted]), (h_this_offThen, ia G 16 f_this_offThen), (h_this_paidThen, ia G 16 f_this_paidThen), (h_this_s, ia G 313 f_this_s)] r [(h_this, ob 9 [.ref h_this_s, .ref h_this_kept, .ref h_this_laid, .int x_this_isKept, .ref h_this_pile, .ref h_this_tape, .int x_this_taped, .ref h_this_letters, .int x_this_at, .int x_this_begun, .int x_this_token, .int x_this_value, .int x_this_opened, .int x_this_steps, .ref h_this_code0, .ref h_this_read, .ref h_this_saved, .ref h_this_plan, .ref h_this_bestPlan, .int x_this_most, .int x_this_many, .int x_this_few, .int x_this_everHome, .ref h_this_offThen, .ref h_this_paidThen, .int m_this_firstFit, .ref h_this_rows, .int x_this_rowMany, .ref h_this_sorts, .ref h_this_sizes, .ref h_this_number, .ref h_this_holds, .ref h_this_heldOne, .ref h_this_trace, .int x_this_traced, .int x_this_own, .int x_this_isParted]), (h_this_offThen, ia G 16 m_this_offThen), (h_this_paidThen, ia G 16 m_this_paidThen), (h_this_s, ia G 313 f_this_s)] := by
  refine mFi.of (by decide +kernel) (Nat.le_of_ble_eq_true rfl) ?_
  intro p e s m below meth c A C hr hlk h ls hl
  obtain ⟨hx, hb, hml, hown, hts⟩ := id C
  replace hl : lv_has ls 3 [(0, .ref h_this), (1, .int p0)] := hl
  unfold f_X9_lone at hf
  refine with_K G A 3 (fun K hK1 hK2 => ?_)
  have B28 : ∀ (v2 : Int32) (y_this_firstFit : Int32) (g_this_offThen : Nat → Int32) (g_this_paidThen : Nat → Int32), f_X9_lone_b28 p0 v2 y_this_firstFit g_this_offThen g_this_paidThen = some (r, m_this_firstFit, m_this_offThen, m_this_paidThen) → K 28 ([] : List Value) [(h_this, ob 9 [.ref h_this_s, .ref h_this_kept, .ref h_this_laid, .int x_this_isKept, .ref h_this_pile, .ref h_this_tape, .int x_this_taped, .ref h_this_letters, .int x_this_at, .int x_this_begun, .int x_this_token, .int x_this_value, .int x_this_opened, .int x_this_steps, .ref h_this_code0, .ref h_this_read, .ref h_this_saved, .ref h_this_plan, .ref h_this_bestPlan, .int x_this_most, .int x_this_many, .int x_this_few, .int x_this_everHome, .ref h_this_offThen, .ref h_this_paidThen, .int y_this_firstFit, .ref h_this_rows, .int x_this_rowMany, .ref h_this_sorts, .ref h_this_sizes, .ref h_this_number, .ref h_this_holds, .ref h_this_heldOne, .ref h_this_trace, .int x_this_traced, .int x_this_own, .int x_this_isParted]), (h_this_offThen, ia G 16 g_this_offThen), (h_this_paidThen, ia G 16 g_this_paidThen), (h_this_s, ia G 313 f_this_s)] [(0, .ref h_this), (1, .int p0), (2, .int v2)] := by
    intro v2 y_this_firstFit g_this_offThen g_this_paidThen hf
    unfold f_X9_lone_b28 at hf
    refine hK1 _ _ _ _ (fun H locs ls h hl => ?_)
    refine lv_iload_n hx hb dX9_lone_28 rfl (lv_at hl 1 rfl) ?_
    refine lv_if_ne (tgt := 36) hx hb dX9_lone_29 rfl (fun c10 => ?_) (fun c10 => ?_)
    · replace hf := ifn c10 hf
      refine lv_iload_n hx hb dX9_lone_36 rfl (lv_at hl 1 rfl) ?_
      refine lv_iconst (v := (1 : Int32)) hx hb dX9_lone_37 rfl ?_
      refine lv_icmp_ne (tgt := 53) hx hb dX9_lone_38 rfl (fun c11 => ?_) (fun c11 => ?_)
      · replace hf := ifn c11 hf
        refine lv_iload_n hx hb dX9_lone_53 rfl (lv_at hl 1 rfl) ?_
        refine lv_iconst (v := (2 : Int32)) hx hb dX9_lone_54 rfl ?_
        refine lv_icmp_ne (tgt := 71) hx hb dX9_lone_55 rfl (fun c12 => ?_) (fun c12 => ?_)
        · replace hf := ifn c12 hf
          refine lv_bipush (v := (9 : Int32)) hx hb dX9_lone_71 rfl ?_
          refine lv_aload_n hx hb dX9_lone_73 rfl (lv_at hl 0 rfl) ?_
          refine r_get C h fk_X9_304 0 rfl rfl dX9_lone_74 ?_
          refine lv_bipush (v := (10 : Int32)) hx hb dX9_lone_77 rfl ?_
          refine lv_irem hx hb dX9_lone_79 (by decide) ?_
          refine lv_imul hx hb dX9_lone_80 ?_
          refine lv_bipush (v := (9 : Int32)) hx hb dX9_lone_81 rfl ?_
          refine lv_iadd hx hb dX9_lone_83 ?_
          clear  hK2 hK1
          cases hf
          exact r_iret C h hr hlk rfl dX9_lone_84
        · replace hf := ifp c12 hf
          refine lv_aload_n hx hb dX9_lone_58 rfl (lv_at hl 0 rfl) ?_
          refine r_get C h fk_X9_304 0 rfl rfl dX9_lone_59 ?_
          refine lv_bipush (v := (10 : Int32)) hx hb dX9_lone_62 rfl ?_
          refine lv_idiv hx hb dX9_lone_64 (by decide) ?_
          refine lv_bipush (v := (10 : Int32)) hx hb dX9_lone_65 rfl ?_
          refine lv_irem hx hb dX9_lone_67 (by decide) ?_
          refine lv_goto (tgt := 84) hx hb dX9_lone_68 rfl ?_
          clear  hK2 hK1
          cases hf
          exact r_iret C h hr hlk rfl dX9_lone_84
      · replace hf := ifp c11 hf
        refine lv_iconst (v := (1 : Int32)) hx hb dX9_lone_41 rfl ?_
        refine lv_aload_n hx hb dX9_lone_42 rfl (lv_at hl 0 rfl) ?_
        refine r_get C h fk_X9_304 0 rfl rfl dX9_lone_43 ?_
        refine lv_bipush (v := (100 : Int32)) hx hb dX9_lone_46 rfl ?_
        refine lv_idiv hx hb dX9_lone_48 (by decide) ?_
        refine lv_iadd hx hb dX9_lone_49 ?_
        refine lv_goto (tgt := 84) hx hb dX9_lone_50 rfl ?_
        clear  hK2 hK1
        cases hf
        exact r_iret C h hr hlk rfl dX9_lone_84
    · replace hf := ifp c10 hf
      refine lv_iload_n hx hb dX9_lone_32 rfl (lv_at hl 2 rfl) ?_
      refine lv_goto (tgt := 84) hx hb dX9_lone_33 rfl ?_
      clear  hK2 hK1
      cases hf
      exact r_iret C h hr hlk rfl dX9_lone_84
  refine lv_iload_n hx hb dX9_lone_0 rfl (lv_at hl 1 rfl) ?_
  refine lv_iconst (v := (0 : Int32)) hx hb dX9_lone_1 rfl ?_
  refine lv_iconst (v := (3 : Int32)) hx hb dX9_lone_2 rfl ?_
  replace hf := bd1_inv hf
  obtain ⟨r1, hc2, hf⟩ := hf
  refine r_ciS0 C h (c_X9_in1 hc2) ms_X9_71 rfl [] rfl rfl hl.1 rfl (Nat.le_of_ble_eq_true rfl) (rok (by decide)) dX9_lone_3 (fun H locs h => ?_)
  refine lv_if_ne (tgt := 11) hx hb dX9_lone_6 rfl (fun c3 => ?_) (fun c3 => ?_)
  · replace hf := ifn c3 hf
    refine lv_aload_n hx hb dX9_lone_11 rfl (lv_at hl 0 rfl) ?_
    refine lv_iconst (v := (-1 : Int32)) hx hb dX9_lone_12 rfl ?_
    replace hf := bd4_inv hf
    obtain ⟨r4, y5, g6, g7, hc8, hf⟩ := hf
    refine r_ciV (ws' := [(h_this, ob 9 [.ref h_this_s, .ref h_this_kept, .ref h_this_laid, .int x_this_isKept, .ref h_this_pile, .ref h_this_tape, .int x_this_taped, .ref h_this_letters, .int x_this_at, .int x_this_begun, .int x_this_token, .int x_this_value, .int x_this_opened, .int x_this_steps, .ref h_this_code0, .ref h_this_read, .ref h_this_saved, .ref h_this_plan, .ref h_this_bestPlan, .int x_this_most, .int x_this_many, .int x_this_few, .int x_this_everHome, .ref h_this_offThen, .ref h_this_paidThen, .int y5, .ref h_this_rows, .int x_this_rowMany, .ref h_this_sorts, .ref h_this_sizes, .ref h_this_number, .ref h_this_holds, .ref h_this_heldOne, .ref h_this_trace, .int x_this_traced, .int x_this_own, .int x_this_isParted]), (h_this_offThen, ia G 16 g6), (h_this_paidThen, ia G 16 g7), (h_this_s, ia G 313 f_this_s)]) C h (c_X9_fitting hc8) mv_X9_313 rfl 0 rfl [0, 1, 2, 3] rfl rfl [0, 1, 2] [(h_this, ob 9 [.ref h_this_s, .ref h_this_kept, .ref h_this_laid, .int x_this_isKept, .ref h_this_pile, .ref h_this_tape, .int x_this_taped, .ref h_this_letters, .int x_this_at, .int x_this_begun, .int x_this_token, .int x_this_value, .int x_this_opened, .int x_this_steps, .ref h_this_code0, .ref h_this_read, .ref h_this_saved, .ref h_this_plan, .ref h_this_bestPlan, .int x_this_most, .int x_this_many, .int x_this_few, .int x_this_everHome, .ref h_this_offThen, .ref h_this_paidThen, .int y5, .ref h_this_rows, .int x_this_rowMany, .ref h_this_sorts, .ref h_this_sizes, .ref h_this_number, .ref h_this_holds, .ref h_this_heldOne, .ref h_this_trace, .int x_this_traced, .int x_this_own, .int x_this_isParted]), (h_this_offThen, ia G 16 g6), (h_this_paidThen, ia G 16 g7)] rfl rfl (by decide +kernel) rfl hl.1 rfl (Nat.le_of_ble_eq_true rfl) (rok (by decide)) dX9_lone_13 (fun H locs h => ?_)
    refine lv_istore_n (lv' := [(2, .int r4), (0, .ref h_this), (1, .int p0)]) hx hb dX9_lone_16 rfl hl (by decide) rfl (fun ls hl => ?_)
    refine lv_iload_n hx hb dX9_lone_17 rfl (lv_at hl 2 rfl) ?_
    refine lv_if_le (tgt := 28) hx hb dX9_lone_18 rfl (fun c9 => ?_) (fun c9 => ?_)
    · replace hf := ifp c9 hf
      exact hK2 _ _ _ _ (B28 r4 y5 g6 g7 hf) _ _ _ h (lv_sub hl [1, 2, 0] rfl)
    · replace hf := ifn c9 hf
      refine lv_iload_n hx hb dX9_lone_21 rfl (lv_at hl 0 rfl) ?_
      refine lv_if_ne (tgt := 28) hx hb dX9_lone_22 rfl (fun c13 => ?_) (fun c13 => ?_)
      · replace hf := ifn c13 hf
        exact hK2 _ _ _ _ (B28 r4 y5 g6 g7 hf) _ _ _ h (lv_sub hl [1, 2, 0] rfl)
      · replace hf := ifp c13 hf
        refine lv_bipush (v := (-3 : Int32)) hx hb dX9_lone_25 rfl ?_
        clear B28 hK2 hK1
        cases hf
        exact r_iret C h hr hlk rfl dX9_lone_27
  · replace hf := ifp c3 hf
    refine lv_iconst (v := (-1 : Int32)) hx hb dX9_lone_9 rfl ?_
    clear B28 hK2 hK1
    cases hf
    exact r_iret C h hr hlk rfl dX9_lone_10
