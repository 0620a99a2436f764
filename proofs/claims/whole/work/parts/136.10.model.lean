set_option maxRecDepth 100000 in
set_option maxHeartbeats 4000000 in
theorem c_X9_act {l : Launch} {G : Gt} {h_this h_this_s h_this_kept h_this_laid h_this_pile h_this_tape h_this_letters h_this_code0 h_this_read h_this_saved h_this_plan h_this_bestPlan h_this_offThen h_this_paidThen h_this_rows h_this_sorts h_this_sizes h_this_number h_this_holds h_this_heldOne h_this_trace : Nat} {p0 : Int32} {p1 : Int32} {p2 : Int32} {x_this_isKept : Int32} {x_this_taped : Int32} {x_this_at : Int32} {x_this_begun : Int32} {x_this_token : Int32} {x_this_value : Int32} {x_this_opened : Int32} {x_this_steps : Int32} {x_this_most : Int32} {x_this_many : Int32} {x_this_few : Int32} {x_this_everHome : Int32} {x_this_firstFit : Int32} {x_this_rowMany : Int32} {x_this_traced : Int32} {x_this_own : Int32} {x_this_isParted : Int32} {f_this_heldOne : Nat → Int32} {f_this_holds : Nat → Int32} {f_this_s : Nat → Int32} {f_this_trace : Nat → Int32} {r : Int32} {m_this_traced : Int32} {m_this_own : Int32} {m_this_isParted : Int32} {m_this_trace : Nat → Int32} (hf : f_X9_act p0 p1 p2 x_this_own x_this_isParted f_this_heldOne f_this_holds f_this_s f_this_trace = some (r, m_this_traced, m_this_own, m_this_isParted, m_this_trace)) : mFi l G yX9_act cX9_act 6 .int 85 [.ref h_this, .int p0, .int p1, .int p2] [(h_this, ob 9 [.ref h_this_s, .ref h_this_kept, .ref h_this_laid, .int x_this_isKept, .ref h_this_pile, .ref h_this_tape, .int x_this_taped, .ref h_this_letters, .int x_this_at, .int x_this_begun, .int x_this_token, .int x_this_value, .int x_this_opened, .int x_this_steps, .ref h_this_code0, .ref h_this_read, .ref h_this_saved, .ref h_this_plan, .ref h_this_bestPlan, .int x_this_most, .int x_this_many, .int x_this_few, .int x_this_everHome, .ref h_this_offThen, .ref h_this_paidThen, .int x_this_firstFit, .ref h_this_rows, .int x_this_rowMany, .ref h_this_sorts, .ref h_this_sizes, .ref h_this_number, .ref h_this_holds, .ref h_this_heldOne, .ref h_this_trace, .int x_this_traced, .int x_this_own, .int x_this_isParted]), (h_this_heldOne, ia G 4 f_this_heldOne), (h_this_holds, ia G 4 f_this_holds), (h_this_s, ia G 313 f_this_s), (h_this_trace, ia G 30 f_this_trace)] r [(h_this, ob 9 [.ref h_this_s, .ref h_this_kept, .ref h_this_laid, .int x_this_isKept, .ref h_this_pile, .ref h_this_tape, .int x_this_taped, .ref h_this_letters, .int x_this_at, .int x_this_begun, .int x_this_token, .int x_this_value, .int x_this_opened, .int x_this_steps, .ref h_this_code0, .ref h_this_read, .ref h_this_saved, .ref h_this_plan, .ref h_this_bestPlan, .int x_this_most, .int x_this_many, .int x_this_few, .int x_this_everHome, .ref h_this_offThen, .ref h_this_paidThen, .int x_this_firstFit, .ref h_this_rows, .int x_this_rowMany, .ref h_this_sorts, .ref h_this_sizes, .ref h_this_number, .ref h_this_holds, .ref h_this_heldOne, .ref h_this_trace, .int m_this_traced, .int m_this_own, .int m_this_isParted]), (h_this_heldOne, ia G 4 f_this_heldOne), (h_this_holds, ia G 4 f_this_holds), (h_this_s, ia G 313 f_this_s), (h_this_trace, ia G 30 m_this_trace)] := by
  refine mFi.of (by decide +kernel) (Nat.le_of_ble_eq_true rfl) ?_
  intro p e s m below meth c A C hr hlk h ls hl
  obtain ⟨hx, hb, hml, hown, hts⟩ := id C
  replace hl : lv_has ls 6 [(0, .ref h_this), (1, .int p0), (2, .int p1), (3, .int p2)] := hl
  unfold f_X9_act at hf
  refine with_K G A 6 (fun K hK1 hK2 => ?_)
  have B108 : ∀ (s0 : Int32) (y_this_traced : Int32) (y_this_own : Int32) (y_this_isParted : Int32) (g_this_trace : Nat → Int32), f_X9_act_b108 s0 y_this_traced y_this_own y_this_isParted g_this_trace = some (r, m_this_traced, m_this_own, m_this_isParted, m_this_trace) → K 108 [.int s0] [(h_this, ob 9 [.ref h_this_s, .ref h_this_kept, .ref h_this_laid, .int x_this_isKept, .ref h_this_pile, .ref h_this_tape, .int x_this_taped, .ref h_this_letters, .int x_this_at, .int x_this_begun, .int x_this_token, .int x_this_value, .int x_this_opened, .int x_this_steps, .ref h_this_code0, .ref h_this_read, .ref h_this_saved, .ref h_this_plan, .ref h_this_bestPlan, .int x_this_most, .int x_this_many, .int x_this_few, .int x_this_everHome, .ref h_this_offThen, .ref h_this_paidThen, .int x_this_firstFit, .ref h_this_rows, .int x_this_rowMany, .ref h_this_sorts, .ref h_this_sizes, .ref h_this_number, .ref h_this_holds, .ref h_this_heldOne, .ref h_this_trace, .int y_this_traced, .int y_this_own, .int y_this_isParted]), (h_this_heldOne, ia G 4 f_this_heldOne), (h_this_holds, ia G 4 f_this_holds), (h_this_s, ia G 313 f_this_s), (h_this_trace, ia G 30 g_this_trace)] [(0, .ref h_this)] := by
    intro s0 y_this_traced y_this_own y_this_isParted g_this_trace hf
    unfold f_X9_act_b108 at hf
    refine hK1 _ _ _ _ (fun H locs ls h hl => ?_)
    refine lv_istore (lv' := [(5, .int s0), (0, .ref h_this)]) hx hb dX9_act_108 hl (by decide) rfl (fun ls hl => ?_)
    refine lv_aload_n hx hb dX9_act_110 rfl (lv_at hl 1 rfl) ?_
    refine r_get C h fk_X9_362 0 rfl rfl dX9_act_111 ?_
    refine lv_if_eq (tgt := 122) hx hb dX9_act_114 rfl (fun c22 => ?_) (fun c22 => ?_)
    · replace hf := ifp c22 hf
      refine lv_iload hx hb dX9_act_122 (lv_at hl 0 rfl) ?_
      clear  hK2 hK1
      cases hf
      exact r_iret C h hr hlk rfl dX9_act_124
    · replace hf := ifn c22 hf
      refine lv_bipush (v := (-15 : Int32)) hx hb dX9_act_117 rfl ?_
      refine lv_goto (tgt := 124) hx hb dX9_act_119 rfl ?_
      clear  hK2 hK1
      cases hf
      exact r_iret C h hr hlk rfl dX9_act_124
  refine lv_aload_n hx hb dX9_act_0 rfl (lv_at hl 0 rfl) ?_
  refine lv_iconst (v := (0 : Int32)) hx hb dX9_act_1 rfl ?_
  refine r_put (ws' := [(h_this, ob 9 [.ref h_this_s, .ref h_this_kept, .ref h_this_laid, .int x_this_isKept, .ref h_this_pile, .ref h_this_tape, .int x_this_taped, .ref h_this_letters, .int x_this_at, .int x_this_begun, .int x_this_token, .int x_this_value, .int x_this_opened, .int x_this_steps, .ref h_this_code0, .ref h_this_read, .ref h_this_saved, .ref h_this_plan, .ref h_this_bestPlan, .int x_this_most, .int x_this_many, .int x_this_few, .int x_this_everHome, .ref h_this_offThen, .ref h_this_paidThen, .int x_this_firstFit, .ref h_this_rows, .int x_this_rowMany, .ref h_this_sorts, .ref h_this_sizes, .ref h_this_number, .ref h_this_holds, .ref h_this_heldOne, .ref h_this_trace, .int (0 : Int32), .int x_this_own, .int x_this_isParted]), (h_this_heldOne, ia G 4 f_this_heldOne), (h_this_holds, ia G 4 f_this_holds), (h_this_s, ia G 313 f_this_s), (h_this_trace, ia G 30 f_this_trace)]) C h fw_X9_344 0 rfl rfl rfl (Nat.le_of_ble_eq_true rfl) dX9_act_2 rfl (fun H locs h => ?_)
  refine lv_iload_n hx hb dX9_act_5 rfl (lv_at hl 1 rfl) ?_
  replace hf := bd1_inv hf
  obtain ⟨r1, hc2, hf⟩ := hf
  refine r_ciS0 C h (c_X9_isSheet hc2) ms_X9_329 rfl [] rfl rfl hl.1 rfl (Nat.le_of_ble_eq_true rfl) (rok (by decide)) dX9_act_6 (fun H locs h => ?_)
  refine lv_if_eq (tgt := 29) hx hb dX9_act_9 rfl (fun c3 => ?_) (fun c3 => ?_)
  · replace hf := ifp c3 hf
    refine lv_iconst (v := (0 : Int32)) hx hb dX9_act_29 rfl ?_
    clear B108 hK2 hK1
    cases hf
    exact r_iret C h hr hlk rfl dX9_act_30
  · replace hf := ifn c3 hf
    refine lv_iload_n hx hb dX9_act_12 rfl (lv_at hl 2 rfl) ?_
    refine lv_iconst (v := (0 : Int32)) hx hb dX9_act_13 rfl ?_
    refine lv_iconst (v := (3 : Int32)) hx hb dX9_act_14 rfl ?_
    replace hf := bd1_inv hf
    obtain ⟨r4, hc5, hf⟩ := hf
    refine r_ciS0 C h (c_X9_in1 hc5) ms_X9_71 rfl [] rfl rfl hl.1 rfl (Nat.le_of_ble_eq_true rfl) (rok (by decide)) dX9_act_15 (fun H locs h => ?_)
    refine lv_if_eq (tgt := 29) hx hb dX9_act_18 rfl (fun c6 => ?_) (fun c6 => ?_)
    · replace hf := ifp c6 hf
      refine lv_iconst (v := (0 : Int32)) hx hb dX9_act_29 rfl ?_
      clear B108 hK2 hK1
      cases hf
      exact r_iret C h hr hlk rfl dX9_act_30
    · replace hf := ifn c6 hf
      refine lv_aload_n hx hb dX9_act_21 rfl (lv_at hl 0 rfl) ?_
      refine lv_iload_n hx hb dX9_act_22 rfl (lv_at hl 1 rfl) ?_
      replace hf := bd1_inv hf
      obtain ⟨r7, hc8, hf⟩ := hf
      refine r_ciV0 C h (c_X9_heldOn hc8) mv_X9_341 rfl 0 rfl [0, 1, 2, 3] rfl rfl hl.1 rfl (Nat.le_of_ble_eq_true rfl) (rok (by decide)) dX9_act_23 (fun H locs h => ?_)
      refine lv_if_eq (tgt := 31) hx hb dX9_act_26 rfl (fun c9 => ?_) (fun c9 => ?_)
      · replace hf := ifp c9 hf
        refine lv_aload_n hx hb dX9_act_31 rfl (lv_at hl 0 rfl) ?_
        refine lv_aload_n hx hb dX9_act_32 rfl (lv_at hl 0 rfl) ?_
        refine r_get C h fk_X9_65 0 rfl rfl dX9_act_33 ?_
        refine lv_iload_n hx hb dX9_act_36 rfl (lv_at hl 1 rfl) ?_
        replace hf := chkI_inv hf
        obtain ⟨hi10, hf⟩ := hf
        refine r_iald C h 1 rfl hi10 dX9_act_37 ?_
        refine lv_topi (fun t11 et11 => ?_)
        replace hf := lt1_inv et11 hf
        refine r_put (ws' := [(h_this, ob 9 [.ref h_this_s, .ref h_this_kept, .ref h_this_laid, .int x_this_isKept, .ref h_this_pile, .ref h_this_tape, .int x_this_taped, .ref h_this_letters, .int x_this_at, .int x_this_begun, .int x_this_token, .int x_this_value, .int x_this_opened, .int x_this_steps, .ref h_this_code0, .ref h_this_read, .ref h_this_saved, .ref h_this_plan, .ref h_this_bestPlan, .int x_this_most, .int x_this_many, .int x_this_few, .int x_this_everHome, .ref h_this_offThen, .ref h_this_paidThen, .int x_this_firstFit, .ref h_this_rows, .int x_this_rowMany, .ref h_this_sorts, .ref h_this_sizes, .ref h_this_number, .ref h_this_holds, .ref h_this_heldOne, .ref h_this_trace, .int (0 : Int32), .int t11, .int x_this_isParted]), (h_this_heldOne, ia G 4 f_this_heldOne), (h_this_holds, ia G 4 f_this_holds), (h_this_s, ia G 313 f_this_s), (h_this_trace, ia G 30 f_this_trace)]) C h fw_X9_353 0 rfl rfl rfl (Nat.le_of_ble_eq_true rfl) dX9_act_38 rfl (fun H locs h => ?_)
        refine lv_aload_n hx hb dX9_act_41 rfl (lv_at hl 0 rfl) ?_
        refine lv_iconst (v := (0 : Int32)) hx hb dX9_act_42 rfl ?_
        refine r_put (ws' := [(h_this, ob 9 [.ref h_this_s, .ref h_this_kept, .ref h_this_laid, .int x_this_isKept, .ref h_this_pile, .ref h_this_tape, .int x_this_taped, .ref h_this_letters, .int x_this_at, .int x_this_begun, .int x_this_token, .int x_this_value, .int x_this_opened, .int x_this_steps, .ref h_this_code0, .ref h_this_read, .ref h_this_saved, .ref h_this_plan, .ref h_this_bestPlan, .int x_this_most, .int x_this_many, .int x_this_few, .int x_this_everHome, .ref h_this_offThen, .ref h_this_paidThen, .int x_this_firstFit, .ref h_this_rows, .int x_this_rowMany, .ref h_this_sorts, .ref h_this_sizes, .ref h_this_number, .ref h_this_holds, .ref h_this_heldOne, .ref h_this_trace, .int (0 : Int32), .int t11, .int (0 : Int32)]), (h_this_heldOne, ia G 4 f_this_heldOne), (h_this_holds, ia G 4 f_this_holds), (h_this_s, ia G 313 f_this_s), (h_this_trace, ia G 30 f_this_trace)]) C h fw_X9_362 0 rfl rfl rfl (Nat.le_of_ble_eq_true rfl) dX9_act_43 rfl (fun H locs h => ?_)
        refine lv_aload_n hx hb dX9_act_46 rfl (lv_at hl 0 rfl) ?_
        refine lv_aload_n hx hb dX9_act_47 rfl (lv_at hl 0 rfl) ?_
        refine r_get C h fk_X9_353 0 rfl rfl dX9_act_48 ?_
        refine lv_iconst (v := (0 : Int32)) hx hb dX9_act_51 rfl ?_
        replace hf := bd1_inv hf
        obtain ⟨r12, hc13, hf⟩ := hf
        refine r_ciV0 C h (c_X9_get hc13) mv_X9_79 rfl 0 rfl [0, 3] rfl rfl hl.1 rfl (Nat.le_of_ble_eq_true rfl) (rok (by decide)) dX9_act_52 (fun H locs h => ?_)
        refine lv_istore (lv' := [(4, .int r12), (0, .ref h_this), (1, .int p0), (2, .int p1), (3, .int p2)]) hx hb dX9_act_55 hl (by decide) rfl (fun ls hl => ?_)
        refine lv_iload_n hx hb dX9_act_57 rfl (lv_at hl 3 rfl) ?_
        refine lv_if_ne (tgt := 71) hx hb dX9_act_58 rfl (fun c14 => ?_) (fun c14 => ?_)
        · replace hf := ifn c14 hf
          refine lv_iload_n hx hb dX9_act_71 rfl (lv_at hl 3 rfl) ?_
          refine lv_iconst (v := (1 : Int32)) hx hb dX9_act_72 rfl ?_
          refine lv_icmp_ne (tgt := 86) hx hb dX9_act_73 rfl (fun c15 => ?_) (fun c15 => ?_)
          · replace hf := ifn c15 hf
            refine lv_iload_n hx hb dX9_act_86 rfl (lv_at hl 3 rfl) ?_
            refine lv_iconst (v := (2 : Int32)) hx hb dX9_act_87 rfl ?_
            refine lv_icmp_ne (tgt := 101) hx hb dX9_act_88 rfl (fun c16 => ?_) (fun c16 => ?_)
            · replace hf := ifn c16 hf
              refine lv_aload_n hx hb dX9_act_101 rfl (lv_at hl 1 rfl) ?_
              refine lv_iload hx hb dX9_act_102 (lv_at hl 0 rfl) ?_
              refine lv_iload_n hx hb dX9_act_104 rfl (lv_at hl 4 rfl) ?_
              replace hf := bd4_inv hf
              obtain ⟨r17, y18, y19, g20, hc21, hf⟩ := hf
              refine r_ciV (ws' := [(h_this, ob 9 [.ref h_this_s, .ref h_this_kept, .ref h_this_laid, .int x_this_isKept, .ref h_this_pile, .ref h_this_tape, .int x_this_taped, .ref h_this_letters, .int x_this_at, .int x_this_begun, .int x_this_token, .int x_this_value, .int x_this_opened, .int x_this_steps, .ref h_this_code0, .ref h_this_read, .ref h_this_saved, .ref h_this_plan, .ref h_this_bestPlan, .int x_this_most, .int x_this_many, .int x_this_few, .int x_this_everHome, .ref h_this_offThen, .ref h_this_paidThen, .int x_this_firstFit, .ref h_this_rows, .int x_this_rowMany, .ref h_this_sorts, .ref h_this_sizes, .ref h_this_number, .ref h_this_holds, .ref h_this_heldOne, .ref h_this_trace, .int y18, .int t11, .int y19]), (h_this_heldOne, ia G 4 f_this_heldOne), (h_this_holds, ia G 4 f_this_holds), (h_this_s, ia G 313 f_this_s), (h_this_trace, ia G 30 g20)]) C h (C_X9_landsAs 4 hc21) mv_X9_366 rfl 0 rfl [0, 3, 4] rfl rfl [0, 4] [(h_this, ob 9 [.ref h_this_s, .ref h_this_kept, .ref h_this_laid, .int x_this_isKept, .ref h_this_pile, .ref h_this_tape, .int x_this_taped, .ref h_this_letters, .int x_this_at, .int x_this_begun, .int x_this_token, .int x_this_value, .int x_this_opened, .int x_this_steps, .ref h_this_code0, .ref h_this_read, .ref h_this_saved, .ref h_this_plan, .ref h_this_bestPlan, .int x_this_most, .int x_this_many, .int x_this_few, .int x_this_everHome, .ref h_this_offThen, .ref h_this_paidThen, .int x_this_firstFit, .ref h_this_rows, .int x_this_rowMany, .ref h_this_sorts, .ref h_this_sizes, .ref h_this_number, .ref h_this_holds, .ref h_this_heldOne, .ref h_this_trace, .int y18, .int t11, .int y19]), (h_this_trace, ia G 30 g20)] rfl rfl (by decide +kernel) rfl hl.1 rfl (Nat.le_of_ble_eq_true rfl) (rok (by decide)) dX9_act_105 (fun H locs h => ?_)
              exact hK2 _ _ _ _ (B108 r17 y18 t11 y19 g20 hf) _ _ _ h (lv_sub hl [1] rfl)
            · replace hf := ifp c16 hf
              refine lv_aload_n hx hb dX9_act_91 rfl (lv_at hl 1 rfl) ?_
              refine lv_iload hx hb dX9_act_92 (lv_at hl 0 rfl) ?_
              refine lv_iload_n hx hb dX9_act_94 rfl (lv_at hl 4 rfl) ?_
              replace hf := bd4_inv hf
              obtain ⟨r23, y24, y25, g26, hc27, hf⟩ := hf
              refine r_ciV (ws' := [(h_this, ob 9 [.ref h_this_s, .ref h_this_kept, .ref h_this_laid, .int x_this_isKept, .ref h_this_pile, .ref h_this_tape, .int x_this_taped, .ref h_this_letters, .int x_this_at, .int x_this_begun, .int x_this_token, .int x_this_value, .int x_this_opened, .int x_this_steps, .ref h_this_code0, .ref h_this_read, .ref h_this_saved, .ref h_this_plan, .ref h_this_bestPlan, .int x_this_most, .int x_this_many, .int x_this_few, .int x_this_everHome, .ref h_this_offThen, .ref h_this_paidThen, .int x_this_firstFit, .ref h_this_rows, .int x_this_rowMany, .ref h_this_sorts, .ref h_this_sizes, .ref h_this_number, .ref h_this_holds, .ref h_this_heldOne, .ref h_this_trace, .int y24, .int t11, .int y25]), (h_this_heldOne, ia G 4 f_this_heldOne), (h_this_holds, ia G 4 f_this_holds), (h_this_s, ia G 313 f_this_s), (h_this_trace, ia G 30 g26)]) C h (C_X9_soundsAs 4 hc27) mv_X9_359 rfl 0 rfl [0, 3, 4] rfl rfl [0, 4] [(h_this, ob 9 [.ref h_this_s, .ref h_this_kept, .ref h_this_laid, .int x_this_isKept, .ref h_this_pile, .ref h_this_tape, .int x_this_taped, .ref h_this_letters, .int x_this_at, .int x_this_begun, .int x_this_token, .int x_this_value, .int x_this_opened, .int x_this_steps, .ref h_this_code0, .ref h_this_read, .ref h_this_saved, .ref h_this_plan, .ref h_this_bestPlan, .int x_this_most, .int x_this_many, .int x_this_few, .int x_this_everHome, .ref h_this_offThen, .ref h_this_paidThen, .int x_this_firstFit, .ref h_this_rows, .int x_this_rowMany, .ref h_this_sorts, .ref h_this_sizes, .ref h_this_number, .ref h_this_holds, .ref h_this_heldOne, .ref h_this_trace, .int y24, .int t11, .int y25]), (h_this_trace, ia G 30 g26)] rfl rfl (by decide +kernel) rfl hl.1 rfl (Nat.le_of_ble_eq_true rfl) (rok (by decide)) dX9_act_95 (fun H locs h => ?_)
              refine lv_goto (tgt := 108) hx hb dX9_act_98 rfl ?_
              exact hK2 _ _ _ _ (B108 r23 y24 t11 y25 g26 hf) _ _ _ h (lv_sub hl [1] rfl)
          · replace hf := ifp c15 hf
            refine lv_aload_n hx hb dX9_act_76 rfl (lv_at hl 1 rfl) ?_
            refine lv_iload hx hb dX9_act_77 (lv_at hl 0 rfl) ?_
            refine lv_iload_n hx hb dX9_act_79 rfl (lv_at hl 4 rfl) ?_
            replace hf := bd3_inv hf
            obtain ⟨r28, y29, g30, hc31, hf⟩ := hf
            refine r_ciV (ws' := [(h_this, ob 9 [.ref h_this_s, .ref h_this_kept, .ref h_this_laid, .int x_this_isKept, .ref h_this_pile, .ref h_this_tape, .int x_this_taped, .ref h_this_letters, .int x_this_at, .int x_this_begun, .int x_this_token, .int x_this_value, .int x_this_opened, .int x_this_steps, .ref h_this_code0, .ref h_this_read, .ref h_this_saved, .ref h_this_plan, .ref h_this_bestPlan, .int x_this_most, .int x_this_many, .int x_this_few, .int x_this_everHome, .ref h_this_offThen, .ref h_this_paidThen, .int x_this_firstFit, .ref h_this_rows, .int x_this_rowMany, .ref h_this_sorts, .ref h_this_sizes, .ref h_this_number, .ref h_this_holds, .ref h_this_heldOne, .ref h_this_trace, .int y29, .int t11, .int (0 : Int32)]), (h_this_heldOne, ia G 4 f_this_heldOne), (h_this_holds, ia G 4 f_this_holds), (h_this_s, ia G 313 f_this_s), (h_this_trace, ia G 30 g30)]) C h (C_X9_tacksAs 4 hc31) mv_X9_356 rfl 0 rfl [0, 3, 4] rfl rfl [0, 4] [(h_this, ob 9 [.ref h_this_s, .ref h_this_kept, .ref h_this_laid, .int x_this_isKept, .ref h_this_pile, .ref h_this_tape, .int x_this_taped, .ref h_this_letters, .int x_this_at, .int x_this_begun, .int x_this_token, .int x_this_value, .int x_this_opened, .int x_this_steps, .ref h_this_code0, .ref h_this_read, .ref h_this_saved, .ref h_this_plan, .ref h_this_bestPlan, .int x_this_most, .int x_this_many, .int x_this_few, .int x_this_everHome, .ref h_this_offThen, .ref h_this_paidThen, .int x_this_firstFit, .ref h_this_rows, .int x_this_rowMany, .ref h_this_sorts, .ref h_this_sizes, .ref h_this_number, .ref h_this_holds, .ref h_this_heldOne, .ref h_this_trace, .int y29, .int t11, .int (0 : Int32)]), (h_this_trace, ia G 30 g30)] rfl rfl (by decide +kernel) rfl hl.1 rfl (Nat.le_of_ble_eq_true rfl) (rok (by decide)) dX9_act_80 (fun H locs h => ?_)
            refine lv_goto (tgt := 108) hx hb dX9_act_83 rfl ?_
            exact hK2 _ _ _ _ (B108 r28 y29 t11 (0 : Int32) g30 hf) _ _ _ h (lv_sub hl [1] rfl)
        · replace hf := ifp c14 hf
          refine lv_aload_n hx hb dX9_act_61 rfl (lv_at hl 1 rfl) ?_
          refine lv_iload hx hb dX9_act_62 (lv_at hl 0 rfl) ?_
          refine lv_iload_n hx hb dX9_act_64 rfl (lv_at hl 4 rfl) ?_
          replace hf := bd3_inv hf
          obtain ⟨r32, y33, g34, hc35, hf⟩ := hf
          refine r_ciV (ws' := [(h_this, ob 9 [.ref h_this_s, .ref h_this_kept, .ref h_this_laid, .int x_this_isKept, .ref h_this_pile, .ref h_this_tape, .int x_this_taped, .ref h_this_letters, .int x_this_at, .int x_this_begun, .int x_this_token, .int x_this_value, .int x_this_opened, .int x_this_steps, .ref h_this_code0, .ref h_this_read, .ref h_this_saved, .ref h_this_plan, .ref h_this_bestPlan, .int x_this_most, .int x_this_many, .int x_this_few, .int x_this_everHome, .ref h_this_offThen, .ref h_this_paidThen, .int x_this_firstFit, .ref h_this_rows, .int x_this_rowMany, .ref h_this_sorts, .ref h_this_sizes, .ref h_this_number, .ref h_this_holds, .ref h_this_heldOne, .ref h_this_trace, .int y33, .int t11, .int (0 : Int32)]), (h_this_heldOne, ia G 4 f_this_heldOne), (h_this_holds, ia G 4 f_this_holds), (h_this_s, ia G 313 f_this_s), (h_this_trace, ia G 30 g34)]) C h (C_X9_sightsAs 4 hc35) mv_X9_350 rfl 0 rfl [0, 4] rfl rfl [0, 4] [(h_this, ob 9 [.ref h_this_s, .ref h_this_kept, .ref h_this_laid, .int x_this_isKept, .ref h_this_pile, .ref h_this_tape, .int x_this_taped, .ref h_this_letters, .int x_this_at, .int x_this_begun, .int x_this_token, .int x_this_value, .int x_this_opened, .int x_this_steps, .ref h_this_code0, .ref h_this_read, .ref h_this_saved, .ref h_this_plan, .ref h_this_bestPlan, .int x_this_most, .int x_this_many, .int x_this_few, .int x_this_everHome, .ref h_this_offThen, .ref h_this_paidThen, .int x_this_firstFit, .ref h_this_rows, .int x_this_rowMany, .ref h_this_sorts, .ref h_this_sizes, .ref h_this_number, .ref h_this_holds, .ref h_this_heldOne, .ref h_this_trace, .int y33, .int t11, .int (0 : Int32)]), (h_this_trace, ia G 30 g34)] rfl rfl (by decide +kernel) rfl hl.1 rfl (Nat.le_of_ble_eq_true rfl) (rok (by decide)) dX9_act_65 (fun H locs h => ?_)
          refine lv_goto (tgt := 108) hx hb dX9_act_68 rfl ?_
          exact hK2 _ _ _ _ (B108 r32 y33 t11 (0 : Int32) g34 hf) _ _ _ h (lv_sub hl [1] rfl)
      · replace hf := ifn c9 hf
        refine lv_iconst (v := (0 : Int32)) hx hb dX9_act_29 rfl ?_
        clear B108 hK2 hK1
        cases hf
        exact r_iret C h hr hlk rfl dX9_act_30
