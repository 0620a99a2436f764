set_option maxRecDepth 100000 in
set_option maxHeartbeats 4000000 in
theorem c_X9_report {l : Launch} {G : Gt} {h_this h_this_s h_this_kept h_this_laid h_this_pile h_this_tape h_this_letters h_this_code0 h_this_read h_this_saved h_this_plan h_this_bestPlan h_this_offThen h_this_paidThen h_this_rows h_this_sorts h_this_sizes h_this_number h_this_holds h_this_heldOne h_this_trace : Nat} {p0 : Int32} {p1 : Int32} {p2 : Int32} {p3 : Int32} {x_this_isKept : Int32} {x_this_taped : Int32} {x_this_at : Int32} {x_this_begun : Int32} {x_this_token : Int32} {x_this_value : Int32} {x_this_opened : Int32} {x_this_steps : Int32} {x_this_most : Int32} {x_this_many : Int32} {x_this_few : Int32} {x_this_everHome : Int32} {x_this_firstFit : Int32} {x_this_rowMany : Int32} {x_this_traced : Int32} {x_this_own : Int32} {x_this_isParted : Int32} {f_this_s : Nat → Int32} {r : Int32} {m_this_s : Nat → Int32} (hf : f_X9_report p0 p1 p2 p3 f_this_s = some (r, m_this_s)) : mFi l G yX9_report cX9_report 7 .int 1 [.ref h_this, .int p0, .int p1, .int p2, .int p3] [(h_this, ob 9 [.ref h_this_s, .ref h_this_kept, .ref h_this_laid, .int x_this_isKept, .ref h_this_pile, .ref h_this_tape, .int x_this_taped, .ref h_this_letters, .int x_this_at, .int x_this_begun, .int x_this_token, .int x_this_value, .int x_this_opened, .int x_this_steps, .ref h_this_code0, .ref h_this_read, .ref h_this_saved, .ref h_this_plan, .ref h_this_bestPlan, .int x_this_most, .int x_this_many, .int x_this_few, .int x_this_everHome, .ref h_this_offThen, .ref h_this_paidThen, .int x_this_firstFit, .ref h_this_rows, .int x_this_rowMany, .ref h_this_sorts, .ref h_this_sizes, .ref h_this_number, .ref h_this_holds, .ref h_this_heldOne, .ref h_this_trace, .int x_this_traced, .int x_this_own, .int x_this_isParted]), (h_this_s, ia G 313 f_this_s)] r [(h_this, ob 9 [.ref h_this_s, .ref h_this_kept, .ref h_this_laid, .int x_this_isKept, .ref h_this_pile, .ref h_this_tape, .int x_this_taped, .ref h_this_letters, .int x_this_at, .int x_this_begun, .int x_this_token, .int x_this_value, .int x_this_opened, .int x_this_steps, .ref h_this_code0, .ref h_this_read, .ref h_this_saved, .ref h_this_plan, .ref h_this_bestPlan, .int x_this_most, .int x_this_many, .int x_this_few, .int x_this_everHome, .ref h_this_offThen, .ref h_this_paidThen, .int x_this_firstFit, .ref h_this_rows, .int x_this_rowMany, .ref h_this_sorts, .ref h_this_sizes, .ref h_this_number, .ref h_this_holds, .ref h_this_heldOne, .ref h_this_trace, .int x_this_traced, .int x_this_own, .int x_this_isParted]), (h_this_s, ia G 313 m_this_s)] := by
  refine mFi.of (by decide +kernel) (Nat.le_of_ble_eq_true rfl) ?_
  intro p e s m below meth c A C hr hlk h ls hl
  obtain ⟨hx, hb, hml, hown, hts⟩ := id C
  replace hl : lv_has ls 7 [(0, .ref h_this), (1, .int p0), (2, .int p1), (3, .int p2), (4, .int p3)] := hl
  unfold f_X9_report at hf
  refine with_K G A 7 (fun K hK1 hK2 => ?_)
  have B11 : ∀ (s0 : Int32), f_X9_report_b11 p0 p1 p2 p3 f_this_s s0 = some (r, m_this_s) → K 11 [.int s0] [(h_this, ob 9 [.ref h_this_s, .ref h_this_kept, .ref h_this_laid, .int x_this_isKept, .ref h_this_pile, .ref h_this_tape, .int x_this_taped, .ref h_this_letters, .int x_this_at, .int x_this_begun, .int x_this_token, .int x_this_value, .int x_this_opened, .int x_this_steps, .ref h_this_code0, .ref h_this_read, .ref h_this_saved, .ref h_this_plan, .ref h_this_bestPlan, .int x_this_most, .int x_this_many, .int x_this_few, .int x_this_everHome, .ref h_this_offThen, .ref h_this_paidThen, .int x_this_firstFit, .ref h_this_rows, .int x_this_rowMany, .ref h_this_sorts, .ref h_this_sizes, .ref h_this_number, .ref h_this_holds, .ref h_this_heldOne, .ref h_this_trace, .int x_this_traced, .int x_this_own, .int x_this_isParted]), (h_this_s, ia G 313 f_this_s)] [(0, .ref h_this), (1, .int p0), (2, .int p1), (3, .int p2), (4, .int p3)] := by
    intro s0 hf
    unfold f_X9_report_b11 at hf
    refine hK1 _ _ _ _ (fun H locs ls h hl => ?_)
    refine lv_istore (lv' := [(5, .int s0), (0, .ref h_this), (1, .int p0), (2, .int p1), (3, .int p2), (4, .int p3)]) hx hb dX9_report_11 hl (by decide) rfl (fun ls hl => ?_)
    refine lv_iload_n hx hb dX9_report_13 rfl (lv_at hl 2 rfl) ?_
    refine lv_iconst (v := (0 : Int32)) hx hb dX9_report_14 rfl ?_
    refine lv_bipush (v := (15 : Int32)) hx hb dX9_report_15 rfl ?_
    replace hf := bd1_inv hf
    obtain ⟨r2, hc3, hf⟩ := hf
    refine r_ciS0 C h (c_X9_in1 hc3) ms_X9_71 rfl [] rfl rfl hl.1 rfl (Nat.le_of_ble_eq_true rfl) (rok (by decide)) dX9_report_17 (fun H locs h => ?_)
    refine lv_if_eq (tgt := 53) hx hb dX9_report_20 rfl (fun c4 => ?_) (fun c4 => ?_)
    · replace hf := ifp c4 hf
      refine lv_iconst (v := (-1 : Int32)) hx hb dX9_report_53 rfl ?_
      clear  hK2 hK1
      cases hf
      exact r_iret C h hr hlk rfl dX9_report_54
    · replace hf := ifn c4 hf
      refine lv_iload_n hx hb dX9_report_23 rfl (lv_at hl 3 rfl) ?_
      refine lv_iconst (v := (0 : Int32)) hx hb dX9_report_24 rfl ?_
      refine lv_iconst (v := (1 : Int32)) hx hb dX9_report_25 rfl ?_
      replace hf := bd1_inv hf
      obtain ⟨r5, hc6, hf⟩ := hf
      refine r_ciS0 C h (c_X9_in1 hc6) ms_X9_71 rfl [] rfl rfl hl.1 rfl (Nat.le_of_ble_eq_true rfl) (rok (by decide)) dX9_report_26 (fun H locs h => ?_)
      refine lv_if_eq (tgt := 53) hx hb dX9_report_29 rfl (fun c7 => ?_) (fun c7 => ?_)
      · replace hf := ifp c7 hf
        refine lv_iconst (v := (-1 : Int32)) hx hb dX9_report_53 rfl ?_
        clear  hK2 hK1
        cases hf
        exact r_iret C h hr hlk rfl dX9_report_54
      · replace hf := ifn c7 hf
        refine lv_iload_n hx hb dX9_report_32 rfl (lv_at hl 4 rfl) ?_
        refine lv_iconst (v := (0 : Int32)) hx hb dX9_report_33 rfl ?_
        refine lv_iload hx hb dX9_report_34 (lv_at hl 0 rfl) ?_
        replace hf := bd1_inv hf
        obtain ⟨r8, hc9, hf⟩ := hf
        refine r_ciS0 C h (c_X9_in1 hc9) ms_X9_71 rfl [] rfl rfl hl.1 rfl (Nat.le_of_ble_eq_true rfl) (rok (by decide)) dX9_report_36 (fun H locs h => ?_)
        refine lv_if_eq (tgt := 53) hx hb dX9_report_39 rfl (fun c10 => ?_) (fun c10 => ?_)
        · replace hf := ifp c10 hf
          refine lv_iconst (v := (-1 : Int32)) hx hb dX9_report_53 rfl ?_
          clear  hK2 hK1
          cases hf
          exact r_iret C h hr hlk rfl dX9_report_54
        · replace hf := ifn c10 hf
          refine lv_iload hx hb dX9_report_42 (lv_at hl 5 rfl) ?_
          refine lv_iload_n hx hb dX9_report_44 rfl (lv_at hl 4 rfl) ?_
          refine lv_iload hx hb dX9_report_45 (lv_at hl 0 rfl) ?_
          replace hf := bd1_inv hf
          obtain ⟨r11, hc12, hf⟩ := hf
          refine r_ciS0 C h (c_X9_in1 hc12) ms_X9_71 rfl [] rfl rfl hl.1 rfl (Nat.le_of_ble_eq_true rfl) (rok (by decide)) dX9_report_47 (fun H locs h => ?_)
          refine lv_if_ne (tgt := 55) hx hb dX9_report_50 rfl (fun c13 => ?_) (fun c13 => ?_)
          · replace hf := ifn c13 hf
            refine lv_aload_n hx hb dX9_report_55 rfl (lv_at hl 1 rfl) ?_
            refine r_get C h fk_X9_9 0 rfl rfl dX9_report_56 ?_
            refine lv_bipush (v := (6 : Int32)) hx hb dX9_report_59 rfl ?_
            refine r_ialdL C h 1 rfl (vlit rfl) 6 rfl dX9_report_61 ?_
            refine lv_bipush (v := (6 : Int32)) hx hb dX9_report_62 rfl ?_
            refine lv_icmp_ne (tgt := 70) hx hb dX9_report_64 rfl (fun c14 => ?_) (fun c14 => ?_)
            · replace hf := ifn c14 hf
              refine lv_bipush (v := (65 : Int32)) hx hb dX9_report_70 rfl ?_
              refine lv_iconst (v := (4 : Int32)) hx hb dX9_report_72 rfl ?_
              refine lv_aload_n hx hb dX9_report_73 rfl (lv_at hl 1 rfl) ?_
              refine r_get C h fk_X9_9 0 rfl rfl dX9_report_74 ?_
              refine lv_bipush (v := (6 : Int32)) hx hb dX9_report_77 rfl ?_
              refine r_ialdL C h 1 rfl (vlit rfl) 6 rfl dX9_report_79 ?_
              refine lv_imul hx hb dX9_report_80 ?_
              refine lv_iadd hx hb dX9_report_81 ?_
              refine lv_topi (fun t15 et15 => ?_)
              replace hf := lt1_inv et15 hf
              refine lv_istore (lv' := [(6, .int t15), (5, .int s0), (0, .ref h_this), (1, .int p0), (2, .int p1), (3, .int p2), (4, .int p3)]) hx hb dX9_report_82 hl (by decide) rfl (fun ls hl => ?_)
              refine lv_aload_n hx hb dX9_report_84 rfl (lv_at hl 2 rfl) ?_
              refine r_get C h fk_X9_9 0 rfl rfl dX9_report_85 ?_
              refine lv_iload hx hb dX9_report_88 (lv_at hl 0 rfl) ?_
              refine lv_iload_n hx hb dX9_report_90 rfl (lv_at hl 3 rfl) ?_
              replace hf := chkI_inv hf
              obtain ⟨hi16, hf⟩ := hf
              refine r_iast (ws' := [(h_this, ob 9 [.ref h_this_s, .ref h_this_kept, .ref h_this_laid, .int x_this_isKept, .ref h_this_pile, .ref h_this_tape, .int x_this_taped, .ref h_this_letters, .int x_this_at, .int x_this_begun, .int x_this_token, .int x_this_value, .int x_this_opened, .int x_this_steps, .ref h_this_code0, .ref h_this_read, .ref h_this_saved, .ref h_this_plan, .ref h_this_bestPlan, .int x_this_most, .int x_this_many, .int x_this_few, .int x_this_everHome, .ref h_this_offThen, .ref h_this_paidThen, .int x_this_firstFit, .ref h_this_rows, .int x_this_rowMany, .ref h_this_sorts, .ref h_this_sizes, .ref h_this_number, .ref h_this_holds, .ref h_this_heldOne, .ref h_this_trace, .int x_this_traced, .int x_this_own, .int x_this_isParted]), (h_this_s, ia G 313 (upd f_this_s t15.toNatClampNeg p0))]) C h 1 rfl hi16 dX9_report_91 rfl (fun H locs h => ?_)
              refine lv_aload_n hx hb dX9_report_92 rfl (lv_at hl 2 rfl) ?_
              refine r_get C h fk_X9_9 0 rfl rfl dX9_report_93 ?_
              refine lv_iload hx hb dX9_report_96 (lv_at hl 0 rfl) ?_
              refine lv_iconst (v := (1 : Int32)) hx hb dX9_report_98 rfl ?_
              refine lv_iadd hx hb dX9_report_99 ?_
              refine lv_iload_n hx hb dX9_report_100 rfl (lv_at hl 4 rfl) ?_
              replace hf := chkI_inv hf
              obtain ⟨hi17, hf⟩ := hf
              refine r_iast (ws' := [(h_this, ob 9 [.ref h_this_s, .ref h_this_kept, .ref h_this_laid, .int x_this_isKept, .ref h_this_pile, .ref h_this_tape, .int x_this_taped, .ref h_this_letters, .int x_this_at, .int x_this_begun, .int x_this_token, .int x_this_value, .int x_this_opened, .int x_this_steps, .ref h_this_code0, .ref h_this_read, .ref h_this_saved, .ref h_this_plan, .ref h_this_bestPlan, .int x_this_most, .int x_this_many, .int x_this_few, .int x_this_everHome, .ref h_this_offThen, .ref h_this_paidThen, .int x_this_firstFit, .ref h_this_rows, .int x_this_rowMany, .ref h_this_sorts, .ref h_this_sizes, .ref h_this_number, .ref h_this_holds, .ref h_this_heldOne, .ref h_this_trace, .int x_this_traced, .int x_this_own, .int x_this_isParted]), (h_this_s, ia G 313 (upd (upd f_this_s t15.toNatClampNeg p0) (t15 + (1 : Int32)).toNatClampNeg p1))]) C h 1 rfl hi17 dX9_report_101 rfl (fun H locs h => ?_)
              refine lv_aload_n hx hb dX9_report_102 rfl (lv_at hl 2 rfl) ?_
              refine r_get C h fk_X9_9 0 rfl rfl dX9_report_103 ?_
              refine lv_iload hx hb dX9_report_106 (lv_at hl 0 rfl) ?_
              refine lv_iconst (v := (2 : Int32)) hx hb dX9_report_108 rfl ?_
              refine lv_iadd hx hb dX9_report_109 ?_
              refine lv_iload_n hx hb dX9_report_110 rfl (lv_at hl 5 rfl) ?_
              replace hf := chkI_inv hf
              obtain ⟨hi18, hf⟩ := hf
              refine r_iast (ws' := [(h_this, ob 9 [.ref h_this_s, .ref h_this_kept, .ref h_this_laid, .int x_this_isKept, .ref h_this_pile, .ref h_this_tape, .int x_this_taped, .ref h_this_letters, .int x_this_at, .int x_this_begun, .int x_this_token, .int x_this_value, .int x_this_opened, .int x_this_steps, .ref h_this_code0, .ref h_this_read, .ref h_this_saved, .ref h_this_plan, .ref h_this_bestPlan, .int x_this_most, .int x_this_many, .int x_this_few, .int x_this_everHome, .ref h_this_offThen, .ref h_this_paidThen, .int x_this_firstFit, .ref h_this_rows, .int x_this_rowMany, .ref h_this_sorts, .ref h_this_sizes, .ref h_this_number, .ref h_this_holds, .ref h_this_heldOne, .ref h_this_trace, .int x_this_traced, .int x_this_own, .int x_this_isParted]), (h_this_s, ia G 313 (upd (upd (upd f_this_s t15.toNatClampNeg p0) (t15 + (1 : Int32)).toNatClampNeg p1) (t15 + (2 : Int32)).toNatClampNeg p2))]) C h 1 rfl hi18 dX9_report_111 rfl (fun H locs h => ?_)
              refine lv_aload_n hx hb dX9_report_112 rfl (lv_at hl 2 rfl) ?_
              refine r_get C h fk_X9_9 0 rfl rfl dX9_report_113 ?_
              refine lv_iload hx hb dX9_report_116 (lv_at hl 0 rfl) ?_
              refine lv_iconst (v := (3 : Int32)) hx hb dX9_report_118 rfl ?_
              refine lv_iadd hx hb dX9_report_119 ?_
              refine lv_iload hx hb dX9_report_120 (lv_at hl 6 rfl) ?_
              replace hf := chkI_inv hf
              obtain ⟨hi19, hf⟩ := hf
              refine r_iast (ws' := [(h_this, ob 9 [.ref h_this_s, .ref h_this_kept, .ref h_this_laid, .int x_this_isKept, .ref h_this_pile, .ref h_this_tape, .int x_this_taped, .ref h_this_letters, .int x_this_at, .int x_this_begun, .int x_this_token, .int x_this_value, .int x_this_opened, .int x_this_steps, .ref h_this_code0, .ref h_this_read, .ref h_this_saved, .ref h_this_plan, .ref h_this_bestPlan, .int x_this_most, .int x_this_many, .int x_this_few, .int x_this_everHome, .ref h_this_offThen, .ref h_this_paidThen, .int x_this_firstFit, .ref h_this_rows, .int x_this_rowMany, .ref h_this_sorts, .ref h_this_sizes, .ref h_this_number, .ref h_this_holds, .ref h_this_heldOne, .ref h_this_trace, .int x_this_traced, .int x_this_own, .int x_this_isParted]), (h_this_s, ia G 313 (upd (upd (upd (upd f_this_s t15.toNatClampNeg p0) (t15 + (1 : Int32)).toNatClampNeg p1) (t15 + (2 : Int32)).toNatClampNeg p2) (t15 + (3 : Int32)).toNatClampNeg p3))]) C h 1 rfl hi19 dX9_report_122 rfl (fun H locs h => ?_)
              refine lv_aload_n hx hb dX9_report_123 rfl (lv_at hl 2 rfl) ?_
              refine r_get C h fk_X9_9 0 rfl rfl dX9_report_124 ?_
              refine lv_bipush (v := (6 : Int32)) hx hb dX9_report_127 rfl ?_
              refine lv_dup2_11 hx hb dX9_report_129 rfl rfl ?_
              refine r_ialdL C h 1 rfl (vlit rfl) 6 rfl dX9_report_130 ?_
              refine lv_iconst (v := (1 : Int32)) hx hb dX9_report_131 rfl ?_
              refine lv_iadd hx hb dX9_report_132 ?_
              refine lv_topi (fun t20 et20 => ?_)
              replace hf := lt1_inv et20 hf
              refine r_iastL (ws' := [(h_this, ob 9 [.ref h_this_s, .ref h_this_kept, .ref h_this_laid, .int x_this_isKept, .ref h_this_pile, .ref h_this_tape, .int x_this_taped, .ref h_this_letters, .int x_this_at, .int x_this_begun, .int x_this_token, .int x_this_value, .int x_this_opened, .int x_this_steps, .ref h_this_code0, .ref h_this_read, .ref h_this_saved, .ref h_this_plan, .ref h_this_bestPlan, .int x_this_most, .int x_this_many, .int x_this_few, .int x_this_everHome, .ref h_this_offThen, .ref h_this_paidThen, .int x_this_firstFit, .ref h_this_rows, .int x_this_rowMany, .ref h_this_sorts, .ref h_this_sizes, .ref h_this_number, .ref h_this_holds, .ref h_this_heldOne, .ref h_this_trace, .int x_this_traced, .int x_this_own, .int x_this_isParted]), (h_this_s, ia G 313 (upd (upd (upd (upd (upd f_this_s t15.toNatClampNeg p0) (t15 + (1 : Int32)).toNatClampNeg p1) (t15 + (2 : Int32)).toNatClampNeg p2) (t15 + (3 : Int32)).toNatClampNeg p3) 6 t20))]) C h 1 rfl (vlit rfl) 6 rfl dX9_report_133 rfl (fun H locs h => ?_)
              refine lv_aload_n hx hb dX9_report_134 rfl (lv_at hl 2 rfl) ?_
              refine r_get C h fk_X9_9 0 rfl rfl dX9_report_135 ?_
              refine lv_bipush (v := (6 : Int32)) hx hb dX9_report_138 rfl ?_
              refine r_ialdL C h 1 rfl (vlit rfl) 6 rfl dX9_report_140 ?_
              refine lv_iconst (v := (1 : Int32)) hx hb dX9_report_141 rfl ?_
              refine lv_isub hx hb dX9_report_142 ?_
              clear  hK2 hK1
              cases hf
              exact r_iret C h hr hlk rfl dX9_report_143
            · replace hf := ifp c14 hf
              refine lv_bipush (v := (-2 : Int32)) hx hb dX9_report_67 rfl ?_
              clear  hK2 hK1
              cases hf
              exact r_iret C h hr hlk rfl dX9_report_69
          · replace hf := ifp c13 hf
            refine lv_iconst (v := (-1 : Int32)) hx hb dX9_report_53 rfl ?_
            clear  hK2 hK1
            cases hf
            exact r_iret C h hr hlk rfl dX9_report_54
  refine lv_iload_n hx hb dX9_report_0 rfl (lv_at hl 2 rfl) ?_
  refine lv_if_ne (tgt := 9) hx hb dX9_report_1 rfl (fun c1 => ?_) (fun c1 => ?_)
  · replace hf := ifn c1 hf
    refine lv_bipush (v := (16 : Int32)) hx hb dX9_report_9 rfl ?_
    exact hK2 _ _ _ _ (B11 (16 : Int32) hf) _ _ _ h (lv_sub hl [0, 1, 2, 3, 4] rfl)
  · replace hf := ifp c1 hf
    refine lv_bipush (v := (99 : Int32)) hx hb dX9_report_4 rfl ?_
    refine lv_goto (tgt := 11) hx hb dX9_report_6 rfl ?_
    exact hK2 _ _ _ _ (B11 (99 : Int32) hf) _ _ _ h (lv_sub hl [0, 1, 2, 3, 4] rfl)
