set_option maxRecDepth 100000 in
set_option maxHeartbeats 4000000 in
theorem c_X9_isPlan {l : Launch} {G : Gt} {p0 : Int32} {r : Int32} (hf : f_X9_isPlan p0 = some r) : mFi l G yX9_isPlan cX9_isPlan 1 .boolean 1 [.int p0] ([] : va_W) r ([] : va_W) := by
  refine mFi.of (by decide +kernel) (Nat.le_of_ble_eq_true rfl) ?_
  intro p e s m below meth c A C hr hlk h ls hl
  obtain ⟨hx, hb, hml, hown, hts⟩ := id C
  replace hl : lv_has ls 1 [(0, .int p0)] := hl
  unfold f_X9_isPlan at hf
  refine lv_iload_n hx hb dX9_isPlan_0 rfl (lv_at hl 0 rfl) ?_
  refine lv_iconst (v := (0 : Int32)) hx hb dX9_isPlan_1 rfl ?_
  refine lv_iconst (v := (4 : Int32)) hx hb dX9_isPlan_2 rfl ?_
  replace hf := bd1_inv hf
  obtain ⟨r1, hc2, hf⟩ := hf
  refine r_ciS0 C h (c_X9_in1 hc2) ms_X9_71 rfl [] rfl rfl hl.1 rfl (Nat.le_of_ble_eq_true rfl) (rok (by decide)) dX9_isPlan_3 (fun H locs h => ?_)
  replace hf := chkB_inv hf
  obtain ⟨hb3, hf⟩ := hf
  cases hf
  exact r_iret C h hr hlk hb3 dX9_isPlan_6
set_option maxRecDepth 100000 in
set_option maxHeartbeats 4000000 in
theorem c_X9_daysOf {l : Launch} {G : Gt} {h_this h_this_s h_this_kept h_this_laid h_this_pile h_this_tape h_this_letters h_this_code0 h_this_read h_this_saved h_this_plan h_this_bestPlan h_this_offThen h_this_paidThen h_this_rows h_this_sorts h_this_sizes h_this_number h_this_holds h_this_heldOne h_this_trace : Nat} {p0 : Int32} {x_this_isKept : Int32} {x_this_taped : Int32} {x_this_at : Int32} {x_this_begun : Int32} {x_this_token : Int32} {x_this_value : Int32} {x_this_opened : Int32} {x_this_steps : Int32} {x_this_most : Int32} {x_this_many : Int32} {x_this_few : Int32} {x_this_everHome : Int32} {x_this_firstFit : Int32} {x_this_rowMany : Int32} {x_this_traced : Int32} {x_this_own : Int32} {x_this_isParted : Int32} {f_this_s : Nat → Int32} {r : Int32} (hf : f_X9_daysOf p0 f_this_s = some r) : mFi l G yX9_daysOf cX9_daysOf 3 .int 1 [.ref h_this, .int p0] [(h_this, ob 9 [.ref h_this_s, .ref h_this_kept, .ref h_this_laid, .int x_this_isKept, .ref h_this_pile, .ref h_this_tape, .int x_this_taped, .ref h_this_letters, .int x_this_at, .int x_this_begun, .int x_this_token, .int x_this_value, .int x_this_opened, .int x_this_steps, .ref h_this_code0, .ref h_this_read, .ref h_this_saved, .ref h_this_plan, .ref h_this_bestPlan, .int x_this_most, .int x_this_many, .int x_this_few, .int x_this_everHome, .ref h_this_offThen, .ref h_this_paidThen, .int x_this_firstFit, .ref h_this_rows, .int x_this_rowMany, .ref h_this_sorts, .ref h_this_sizes, .ref h_this_number, .ref h_this_holds, .ref h_this_heldOne, .ref h_this_trace, .int x_this_traced, .int x_this_own, .int x_this_isParted]), (h_this_s, ia G 313 f_this_s)] r [(h_this, ob 9 [.ref h_this_s, .ref h_this_kept, .ref h_this_laid, .int x_this_isKept, .ref h_this_pile, .ref h_this_tape, .int x_this_taped, .ref h_this_letters, .int x_this_at, .int x_this_begun, .int x_this_token, .int x_this_value, .int x_this_opened, .int x_this_steps, .ref h_this_code0, .ref h_this_read, .ref h_this_saved, .ref h_this_plan, .ref h_this_bestPlan, .int x_this_most, .int x_this_many, .int x_this_few, .int x_this_everHome, .ref h_this_offThen, .ref h_this_paidThen, .int x_this_firstFit, .ref h_this_rows, .int x_this_rowMany, .ref h_this_sorts, .ref h_this_sizes, .ref h_this_number, .ref h_this_holds, .ref h_this_heldOne, .ref h_this_trace, .int x_this_traced, .int x_this_own, .int x_this_isParted]), (h_this_s, ia G 313 f_this_s)] := by
  refine mFi.of (by decide +kernel) (Nat.le_of_ble_eq_true rfl) ?_
  intro p e s m below meth c A C hr hlk h ls hl
  obtain ⟨hx, hb, hml, hown, hts⟩ := id C
  replace hl : lv_has ls 3 [(0, .ref h_this), (1, .int p0)] := hl
  unfold f_X9_daysOf at hf
  refine with_K G A 3 (fun K hK1 hK2 => ?_)
  have B24 : ∀ (s0 : Int32), f_X9_daysOf_b24 p0 s0 = some r → K 24 [.int s0] [(h_this, ob 9 [.ref h_this_s, .ref h_this_kept, .ref h_this_laid, .int x_this_isKept, .ref h_this_pile, .ref h_this_tape, .int x_this_taped, .ref h_this_letters, .int x_this_at, .int x_this_begun, .int x_this_token, .int x_this_value, .int x_this_opened, .int x_this_steps, .ref h_this_code0, .ref h_this_read, .ref h_this_saved, .ref h_this_plan, .ref h_this_bestPlan, .int x_this_most, .int x_this_many, .int x_this_few, .int x_this_everHome, .ref h_this_offThen, .ref h_this_paidThen, .int x_this_firstFit, .ref h_this_rows, .int x_this_rowMany, .ref h_this_sorts, .ref h_this_sizes, .ref h_this_number, .ref h_this_holds, .ref h_this_heldOne, .ref h_this_trace, .int x_this_traced, .int x_this_own, .int x_this_isParted]), (h_this_s, ia G 313 f_this_s)] [(1, .int p0)] := by
    intro s0 hf
    unfold f_X9_daysOf_b24 at hf
    refine hK1 _ _ _ _ (fun H locs ls h hl => ?_)
    refine lv_istore_n (lv' := [(2, .int s0), (1, .int p0)]) hx hb dX9_daysOf_24 rfl hl (by decide) rfl (fun ls hl => ?_)
    refine lv_iload_n hx hb dX9_daysOf_25 rfl (lv_at hl 1 rfl) ?_
    refine lv_iload_n hx hb dX9_daysOf_26 rfl (lv_at hl 0 rfl) ?_
    refine lv_icmp_ge (tgt := 34) hx hb dX9_daysOf_27 rfl (fun c4 => ?_) (fun c4 => ?_)
    · replace hf := ifp c4 hf
      refine lv_iload_n hx hb dX9_daysOf_34 rfl (lv_at hl 0 rfl) ?_
      cases hf
      exact r_iret C h hr hlk rfl dX9_daysOf_35
    · replace hf := ifn c4 hf
      refine lv_iload_n hx hb dX9_daysOf_30 rfl (lv_at hl 1 rfl) ?_
      refine lv_goto (tgt := 35) hx hb dX9_daysOf_31 rfl ?_
      cases hf
      exact r_iret C h hr hlk rfl dX9_daysOf_35
  refine lv_aload_n hx hb dX9_daysOf_0 rfl (lv_at hl 0 rfl) ?_
  replace hf := bd1_inv hf
  obtain ⟨r1, hc2, hf⟩ := hf
  refine r_ciV0 C h (c_X9_isOver hc2) mv_X9_232 rfl 0 rfl [0, 1] rfl rfl hl.1 rfl (Nat.le_of_ble_eq_true rfl) (rok (by decide)) dX9_daysOf_1 (fun H locs h => ?_)
  refine lv_if_eq (tgt := 11) hx hb dX9_daysOf_4 rfl (fun c3 => ?_) (fun c3 => ?_)
  · replace hf := ifp c3 hf
    refine lv_aload_n hx hb dX9_daysOf_11 rfl (lv_at hl 0 rfl) ?_
    refine r_get C h fk_X9_9 0 rfl rfl dX9_daysOf_12 ?_
    refine lv_iconst (v := (1 : Int32)) hx hb dX9_daysOf_15 rfl ?_
    refine r_ialdL C h 1 rfl (vlit rfl) 1 rfl dX9_daysOf_16 ?_
    refine lv_aload_n hx hb dX9_daysOf_17 rfl (lv_at hl 0 rfl) ?_
    refine r_get C h fk_X9_9 0 rfl rfl dX9_daysOf_18 ?_
    refine lv_iconst (v := (0 : Int32)) hx hb dX9_daysOf_21 rfl ?_
    refine r_ialdL C h 1 rfl (vlit rfl) 0 rfl dX9_daysOf_22 ?_
    refine lv_isub hx hb dX9_daysOf_23 ?_
    exact hK2 _ _ _ _ (B24 ((f_this_s 1) - (f_this_s 0)) hf) _ _ _ h (lv_sub hl [1] rfl)
  · replace hf := ifn c3 hf
    refine lv_iconst (v := (0 : Int32)) hx hb dX9_daysOf_7 rfl ?_
    refine lv_goto (tgt := 24) hx hb dX9_daysOf_8 rfl ?_
    exact hK2 _ _ _ _ (B24 (0 : Int32) hf) _ _ _ h (lv_sub hl [1] rfl)
set_option maxRecDepth 100000 in
set_option maxHeartbeats 4000000 in
theorem c_X9_endsPlan {l : Launch} {G : Gt} {h_this h_this_s h_this_kept h_this_laid h_this_pile h_this_tape h_this_letters h_this_code0 h_this_read h_this_saved h_this_plan h_this_bestPlan h_this_offThen h_this_paidThen h_this_rows h_this_sorts h_this_sizes h_this_number h_this_holds h_this_heldOne h_this_trace : Nat} {p0 : Int32} {p1 : Int32} {p2 : Int32} {p3 : Int32} {x_this_isKept : Int32} {x_this_taped : Int32} {x_this_at : Int32} {x_this_begun : Int32} {x_this_token : Int32} {x_this_value : Int32} {x_this_opened : Int32} {x_this_steps : Int32} {x_this_most : Int32} {x_this_many : Int32} {x_this_few : Int32} {x_this_everHome : Int32} {x_this_firstFit : Int32} {x_this_rowMany : Int32} {x_this_traced : Int32} {x_this_own : Int32} {x_this_isParted : Int32} {f_this_bestPlan : Nat → Int32} {f_this_plan : Nat → Int32} {f_this_s : Nat → Int32} {m_this_most : Int32} {m_this_many : Int32} {m_this_few : Int32} {m_this_everHome : Int32} {m_this_bestPlan : Nat → Int32} (hf : f_X9_endsPlan p0 p1 p2 p3 x_this_most x_this_many x_this_few x_this_everHome f_this_bestPlan f_this_plan f_this_s = some (m_this_most, m_this_many, m_this_few, m_this_everHome, m_this_bestPlan)) : mFv l G yX9_endsPlan cX9_endsPlan 6 2 [.ref h_this, .int p0, .int p1, .int p2, .int p3] [(h_this, ob 9 [.ref h_this_s, .ref h_this_kept, .ref h_this_laid, .int x_this_isKept, .ref h_this_pile, .ref h_this_tape, .int x_this_taped, .ref h_this_letters, .int x_this_at, .int x_this_begun, .int x_this_token, .int x_this_value, .int x_this_opened, .int x_this_steps, .ref h_this_code0, .ref h_this_read, .ref h_this_saved, .ref h_this_plan, .ref h_this_bestPlan, .int x_this_most, .int x_this_many, .int x_this_few, .int x_this_everHome, .ref h_this_offThen, .ref h_this_paidThen, .int x_this_firstFit, .ref h_this_rows, .int x_this_rowMany, .ref h_this_sorts, .ref h_this_sizes, .ref h_this_number, .ref h_this_holds, .ref h_this_heldOne, .ref h_this_trace, .int x_this_traced, .int x_this_own, .int x_this_isParted]), (h_this_bestPlan, ia G 4 f_this_bestPlan), (h_this_plan, ia G 4 f_this_plan), (h_this_s, ia G 313 f_this_s)] [(h_this, ob 9 [.ref h_this_s, .ref h_this_kept, .ref h_this_laid, .int x_this_isKept, .ref h_this_pile, .ref h_this_tape, .int x_this_taped, .ref h_this_letters, .int x_this_at, .int x_this_begun, .int x_this_token, .int x_this_value, .int x_this_opened, .int x_this_steps, .ref h_this_code0, .ref h_this_read, .ref h_this_saved, .ref h_this_plan, .ref h_this_bestPlan, .int m_this_most, .int m_this_many, .int m_this_few, .int m_this_everHome, .ref h_this_offThen, .ref h_this_paidThen, .int x_this_firstFit, .ref h_this_rows, .int x_this_rowMany, .ref h_this_sorts, .ref h_this_sizes, .ref h_this_number, .ref h_this_holds, .ref h_this_heldOne, .ref h_this_trace, .int x_this_traced, .int x_this_own, .int x_this_isParted]), (h_this_bestPlan, ia G 4 m_this_bestPlan), (h_this_plan, ia G 4 f_this_plan), (h_this_s, ia G 313 f_this_s)] := by
  refine mFv.of (by decide +kernel) (Nat.le_of_ble_eq_true rfl) ?_
  intro p e s m below meth c A C hr hlk h ls hl
  obtain ⟨hx, hb, hml, hown, hts⟩ := id C
  replace hl : lv_has ls 6 [(0, .ref h_this), (1, .int p0), (2, .int p1), (3, .int p2), (4, .int p3)] := hl
  unfold f_X9_endsPlan at hf
  refine with_K G A 6 (fun K hK1 hK2 => ?_)
  have B99 : ∀ (v5 : Int32) (y_this_most : Int32) (y_this_many : Int32) (g_this_bestPlan : Nat → Int32), f_X9_endsPlan_b99 x_this_few x_this_everHome v5 y_this_most y_this_many g_this_bestPlan = some (m_this_most, m_this_many, m_this_few, m_this_everHome, m_this_bestPlan) → K 99 [.ref h_this] [(h_this, ob 9 [.ref h_this_s, .ref h_this_kept, .ref h_this_laid, .int x_this_isKept, .ref h_this_pile, .ref h_this_tape, .int x_this_taped, .ref h_this_letters, .int x_this_at, .int x_this_begun, .int x_this_token, .int x_this_value, .int x_this_opened, .int x_this_steps, .ref h_this_code0, .ref h_this_read, .ref h_this_saved, .ref h_this_plan, .ref h_this_bestPlan, .int y_this_most, .int y_this_many, .int x_this_few, .int x_this_everHome, .ref h_this_offThen, .ref h_this_paidThen, .int x_this_firstFit, .ref h_this_rows, .int x_this_rowMany, .ref h_this_sorts, .ref h_this_sizes, .ref h_this_number, .ref h_this_holds, .ref h_this_heldOne, .ref h_this_trace, .int x_this_traced, .int x_this_own, .int x_this_isParted]), (h_this_bestPlan, ia G 4 g_this_bestPlan), (h_this_plan, ia G 4 f_this_plan), (h_this_s, ia G 313 f_this_s)] [(0, .ref h_this), (5, .int v5)] := by
    intro v5 y_this_most y_this_many g_this_bestPlan hf
    unfold f_X9_endsPlan_b99 at hf
    refine hK1 _ _ _ _ (fun H locs ls h hl => ?_)
    refine lv_aload_n hx hb dX9_endsPlan_99 rfl (lv_at hl 0 rfl) ?_
    refine r_get C h fk_X9_268 0 rfl rfl dX9_endsPlan_100 ?_
    refine r_put (ws' := [(h_this, ob 9 [.ref h_this_s, .ref h_this_kept, .ref h_this_laid, .int x_this_isKept, .ref h_this_pile, .ref h_this_tape, .int x_this_taped, .ref h_this_letters, .int x_this_at, .int x_this_begun, .int x_this_token, .int x_this_value, .int x_this_opened, .int x_this_steps, .ref h_this_code0, .ref h_this_read, .ref h_this_saved, .ref h_this_plan, .ref h_this_bestPlan, .int y_this_most, .int y_this_many, .int x_this_few, .int x_this_everHome, .ref h_this_offThen, .ref h_this_paidThen, .int x_this_firstFit, .ref h_this_rows, .int x_this_rowMany, .ref h_this_sorts, .ref h_this_sizes, .ref h_this_number, .ref h_this_holds, .ref h_this_heldOne, .ref h_this_trace, .int x_this_traced, .int x_this_own, .int x_this_isParted]), (h_this_bestPlan, ia G 4 g_this_bestPlan), (h_this_plan, ia G 4 f_this_plan), (h_this_s, ia G 313 f_this_s)]) C h fw_X9_268 0 rfl rfl rfl (Nat.le_of_ble_eq_true rfl) dX9_endsPlan_103 rfl (fun H locs h => ?_)
    refine lv_aload_n hx hb dX9_endsPlan_106 rfl (lv_at hl 0 rfl) ?_
    refine lv_dup hx hb dX9_endsPlan_107 rfl ?_
    refine r_get C h fk_X9_271 0 rfl rfl dX9_endsPlan_108 ?_
    refine lv_iload hx hb dX9_endsPlan_111 (lv_at hl 1 rfl) ?_
    refine lv_ior hx hb dX9_endsPlan_113 ?_
    refine lv_topi (fun t7 et7 => ?_)
    replace hf := lt1_inv et7 hf
    refine r_put (ws' := [(h_this, ob 9 [.ref h_this_s, .ref h_this_kept, .ref h_this_laid, .int x_this_isKept, .ref h_this_pile, .ref h_this_tape, .int x_this_taped, .ref h_this_letters, .int x_this_at, .int x_this_begun, .int x_this_token, .int x_this_value, .int x_this_opened, .int x_this_steps, .ref h_this_code0, .ref h_this_read, .ref h_this_saved, .ref h_this_plan, .ref h_this_bestPlan, .int y_this_most, .int y_this_many, .int x_this_few, .int t7, .ref h_this_offThen, .ref h_this_paidThen, .int x_this_firstFit, .ref h_this_rows, .int x_this_rowMany, .ref h_this_sorts, .ref h_this_sizes, .ref h_this_number, .ref h_this_holds, .ref h_this_heldOne, .ref h_this_trace, .int x_this_traced, .int x_this_own, .int x_this_isParted]), (h_this_bestPlan, ia G 4 g_this_bestPlan), (h_this_plan, ia G 4 f_this_plan), (h_this_s, ia G 313 f_this_s)]) C h fw_X9_271 0 rfl rfl rfl (Nat.le_of_ble_eq_true rfl) dX9_endsPlan_114 rfl (fun H locs h => ?_)
    cases hf
    exact r_vret C h hr hlk dX9_endsPlan_117
  have B65 : ∀ (s1 : Int32) (s2 : Int32) (y_this_most : Int32) (y_this_many : Int32) (g_this_bestPlan : Nat → Int32), f_X9_endsPlan_b65 p2 p3 x_this_few x_this_everHome f_this_s s1 s2 y_this_most y_this_many g_this_bestPlan = some (m_this_most, m_this_many, m_this_few, m_this_everHome, m_this_bestPlan) → K 65 [.int s2, .int s1, .ref h_this] [(h_this, ob 9 [.ref h_this_s, .ref h_this_kept, .ref h_this_laid, .int x_this_isKept, .ref h_this_pile, .ref h_this_tape, .int x_this_taped, .ref h_this_letters, .int x_this_at, .int x_this_begun, .int x_this_token, .int x_this_value, .int x_this_opened, .int x_this_steps, .ref h_this_code0, .ref h_this_read, .ref h_this_saved, .ref h_this_plan, .ref h_this_bestPlan, .int y_this_most, .int y_this_many, .int x_this_few, .int x_this_everHome, .ref h_this_offThen, .ref h_this_paidThen, .int x_this_firstFit, .ref h_this_rows, .int x_this_rowMany, .ref h_this_sorts, .ref h_this_sizes, .ref h_this_number, .ref h_this_holds, .ref h_this_heldOne, .ref h_this_trace, .int x_this_traced, .int x_this_own, .int x_this_isParted]), (h_this_bestPlan, ia G 4 g_this_bestPlan), (h_this_plan, ia G 4 f_this_plan), (h_this_s, ia G 313 f_this_s)] [(0, .ref h_this), (3, .int p2), (4, .int p3)] := by
    intro s1 s2 y_this_most y_this_many g_this_bestPlan hf
    unfold f_X9_endsPlan_b65 at hf
    refine hK1 _ _ _ _ (fun H locs ls h hl => ?_)
    refine lv_iadd hx hb dX9_endsPlan_65 ?_
    refine lv_topi (fun t3 et3 => ?_)
    replace hf := lt1_inv et3 hf
    refine r_put (ws' := [(h_this, ob 9 [.ref h_this_s, .ref h_this_kept, .ref h_this_laid, .int x_this_isKept, .ref h_this_pile, .ref h_this_tape, .int x_this_taped, .ref h_this_letters, .int x_this_at, .int x_this_begun, .int x_this_token, .int x_this_value, .int x_this_opened, .int x_this_steps, .ref h_this_code0, .ref h_this_read, .ref h_this_saved, .ref h_this_plan, .ref h_this_bestPlan, .int y_this_most, .int t3, .int x_this_few, .int x_this_everHome, .ref h_this_offThen, .ref h_this_paidThen, .int x_this_firstFit, .ref h_this_rows, .int x_this_rowMany, .ref h_this_sorts, .ref h_this_sizes, .ref h_this_number, .ref h_this_holds, .ref h_this_heldOne, .ref h_this_trace, .int x_this_traced, .int x_this_own, .int x_this_isParted]), (h_this_bestPlan, ia G 4 g_this_bestPlan), (h_this_plan, ia G 4 f_this_plan), (h_this_s, ia G 313 f_this_s)]) C h fw_X9_265 0 rfl rfl rfl (Nat.le_of_ble_eq_true rfl) dX9_endsPlan_66 rfl (fun H locs h => ?_)
    refine lv_aload_n hx hb dX9_endsPlan_69 rfl (lv_at hl 0 rfl) ?_
    refine lv_iconst (v := (4 : Int32)) hx hb dX9_endsPlan_70 rfl ?_
    replace hf := bd1_inv hf
    obtain ⟨r4, hc5, hf⟩ := hf
    refine r_ciV0 C h (c_X9_those hc5) mv_X9_235 rfl 0 rfl [0, 3] rfl rfl hl.1 rfl (Nat.le_of_ble_eq_true rfl) (rok (by decide)) dX9_endsPlan_71 (fun H locs h => ?_)
    refine lv_istore (lv' := [(5, .int r4), (0, .ref h_this), (3, .int p2), (4, .int p3)]) hx hb dX9_endsPlan_74 hl (by decide) rfl (fun ls hl => ?_)
    refine lv_aload_n hx hb dX9_endsPlan_76 rfl (lv_at hl 1 rfl) ?_
    refine lv_iload hx hb dX9_endsPlan_77 (lv_at hl 3 rfl) ?_
    refine lv_iload hx hb dX9_endsPlan_79 (lv_at hl 0 rfl) ?_
    refine lv_iconst (v := (-1 : Int32)) hx hb dX9_endsPlan_81 rfl ?_
    refine lv_ixor hx hb dX9_endsPlan_82 ?_
    refine lv_iand hx hb dX9_endsPlan_83 ?_
    refine lv_if_ne (tgt := 99) hx hb dX9_endsPlan_84 rfl (fun c6 => ?_) (fun c6 => ?_)
    · replace hf := ifn c6 hf
      exact hK2 _ _ _ _ (B99 r4 y_this_most t3 g_this_bestPlan hf) _ _ _ h (lv_sub hl [1, 0] rfl)
    · replace hf := ifp c6 hf
      refine lv_iload_n hx hb dX9_endsPlan_87 rfl (lv_at hl 2 rfl) ?_
      refine lv_aload_n hx hb dX9_endsPlan_88 rfl (lv_at hl 1 rfl) ?_
      refine r_get C h fk_X9_268 0 rfl rfl dX9_endsPlan_89 ?_
      refine lv_icmp_ge (tgt := 99) hx hb dX9_endsPlan_92 rfl (fun c8 => ?_) (fun c8 => ?_)
      · replace hf := ifp c8 hf
        exact hK2 _ _ _ _ (B99 r4 y_this_most t3 g_this_bestPlan hf) _ _ _ h (lv_sub hl [1, 0] rfl)
      · replace hf := ifn c8 hf
        refine lv_iload_n hx hb dX9_endsPlan_95 rfl (lv_at hl 2 rfl) ?_
        refine lv_goto (tgt := 103) hx hb dX9_endsPlan_96 rfl ?_
        refine r_put (ws' := [(h_this, ob 9 [.ref h_this_s, .ref h_this_kept, .ref h_this_laid, .int x_this_isKept, .ref h_this_pile, .ref h_this_tape, .int x_this_taped, .ref h_this_letters, .int x_this_at, .int x_this_begun, .int x_this_token, .int x_this_value, .int x_this_opened, .int x_this_steps, .ref h_this_code0, .ref h_this_read, .ref h_this_saved, .ref h_this_plan, .ref h_this_bestPlan, .int y_this_most, .int t3, .int p2, .int x_this_everHome, .ref h_this_offThen, .ref h_this_paidThen, .int x_this_firstFit, .ref h_this_rows, .int x_this_rowMany, .ref h_this_sorts, .ref h_this_sizes, .ref h_this_number, .ref h_this_holds, .ref h_this_heldOne, .ref h_this_trace, .int x_this_traced, .int x_this_own, .int x_this_isParted]), (h_this_bestPlan, ia G 4 g_this_bestPlan), (h_this_plan, ia G 4 f_this_plan), (h_this_s, ia G 313 f_this_s)]) C h fw_X9_268 0 rfl rfl rfl (Nat.le_of_ble_eq_true rfl) dX9_endsPlan_103 rfl (fun H locs h => ?_)
        refine lv_aload_n hx hb dX9_endsPlan_106 rfl (lv_at hl 1 rfl) ?_
        refine lv_dup hx hb dX9_endsPlan_107 rfl ?_
        refine r_get C h fk_X9_271 0 rfl rfl dX9_endsPlan_108 ?_
        refine lv_iload hx hb dX9_endsPlan_111 (lv_at hl 0 rfl) ?_
        refine lv_ior hx hb dX9_endsPlan_113 ?_
        refine lv_topi (fun t9 et9 => ?_)
        replace hf := lt1_inv et9 hf
        refine r_put (ws' := [(h_this, ob 9 [.ref h_this_s, .ref h_this_kept, .ref h_this_laid, .int x_this_isKept, .ref h_this_pile, .ref h_this_tape, .int x_this_taped, .ref h_this_letters, .int x_this_at, .int x_this_begun, .int x_this_token, .int x_this_value, .int x_this_opened, .int x_this_steps, .ref h_this_code0, .ref h_this_read, .ref h_this_saved, .ref h_this_plan, .ref h_this_bestPlan, .int y_this_most, .int t3, .int p2, .int t9, .ref h_this_offThen, .ref h_this_paidThen, .int x_this_firstFit, .ref h_this_rows, .int x_this_rowMany, .ref h_this_sorts, .ref h_this_sizes, .ref h_this_number, .ref h_this_holds, .ref h_this_heldOne, .ref h_this_trace, .int x_this_traced, .int x_this_own, .int x_this_isParted]), (h_this_bestPlan, ia G 4 g_this_bestPlan), (h_this_plan, ia G 4 f_this_plan), (h_this_s, ia G 313 f_this_s)]) C h fw_X9_271 0 rfl rfl rfl (Nat.le_of_ble_eq_true rfl) dX9_endsPlan_114 rfl (fun H locs h => ?_)
        cases hf
        exact r_vret C h hr hlk dX9_endsPlan_117
  have B47 : ∀ (y_this_most : Int32) (y_this_many : Int32) (g_this_bestPlan : Nat → Int32), f_X9_endsPlan_b47 p1 p2 p3 x_this_few x_this_everHome f_this_s y_this_most y_this_many g_this_bestPlan = some (m_this_most, m_this_many, m_this_few, m_this_everHome, m_this_bestPlan) → K 47 ([] : List Value) [(h_this, ob 9 [.ref h_this_s, .ref h_this_kept, .ref h_this_laid, .int x_this_isKept, .ref h_this_pile, .ref h_this_tape, .int x_this_taped, .ref h_this_letters, .int x_this_at, .int x_this_begun, .int x_this_token, .int x_this_value, .int x_this_opened, .int x_this_steps, .ref h_this_code0, .ref h_this_read, .ref h_this_saved, .ref h_this_plan, .ref h_this_bestPlan, .int y_this_most, .int y_this_many, .int x_this_few, .int x_this_everHome, .ref h_this_offThen, .ref h_this_paidThen, .int x_this_firstFit, .ref h_this_rows, .int x_this_rowMany, .ref h_this_sorts, .ref h_this_sizes, .ref h_this_number, .ref h_this_holds, .ref h_this_heldOne, .ref h_this_trace, .int x_this_traced, .int x_this_own, .int x_this_isParted]), (h_this_bestPlan, ia G 4 g_this_bestPlan), (h_this_plan, ia G 4 f_this_plan), (h_this_s, ia G 313 f_this_s)] [(0, .ref h_this), (2, .int p1), (3, .int p2), (4, .int p3)] := by
    intro y_this_most y_this_many g_this_bestPlan hf
    unfold f_X9_endsPlan_b47 at hf
    refine hK1 _ _ _ _ (fun H locs ls h hl => ?_)
    refine lv_aload_n hx hb dX9_endsPlan_47 rfl (lv_at hl 0 rfl) ?_
    refine lv_dup hx hb dX9_endsPlan_48 rfl ?_
    refine r_get C h fk_X9_265 0 rfl rfl dX9_endsPlan_49 ?_
    refine lv_iload_n hx hb dX9_endsPlan_52 rfl (lv_at hl 1 rfl) ?_
    refine lv_aload_n hx hb dX9_endsPlan_53 rfl (lv_at hl 0 rfl) ?_
    refine r_get C h fk_X9_262 0 rfl rfl dX9_endsPlan_54 ?_
    refine lv_icmp_ne (tgt := 64) hx hb dX9_endsPlan_57 rfl (fun c2 => ?_) (fun c2 => ?_)
    · replace hf := ifn c2 hf
      refine lv_iconst (v := (0 : Int32)) hx hb dX9_endsPlan_64 rfl ?_
      exact hK2 _ _ _ _ (B65 y_this_many (0 : Int32) y_this_most y_this_many g_this_bestPlan hf) _ _ _ h (lv_sub hl [0, 2, 3] rfl)
    · replace hf := ifp c2 hf
      refine lv_iconst (v := (1 : Int32)) hx hb dX9_endsPlan_60 rfl ?_
      refine lv_goto (tgt := 65) hx hb dX9_endsPlan_61 rfl ?_
      exact hK2 _ _ _ _ (B65 y_this_many (1 : Int32) y_this_most y_this_many g_this_bestPlan hf) _ _ _ h (lv_sub hl [0, 2, 3] rfl)
  have L21 : ∀ (n : Nat) (v5 : Int32) (y_this_most : Int32) (y_this_many : Int32) (g_this_bestPlan : Nat → Int32), f_X9_endsPlan_L21 p0 p1 p2 p3 x_this_few x_this_everHome f_this_plan f_this_s n v5 y_this_most y_this_many g_this_bestPlan = some (m_this_most, m_this_many, m_this_few, m_this_everHome, m_this_bestPlan) → K 21 ([] : List Value) [(h_this, ob 9 [.ref h_this_s, .ref h_this_kept, .ref h_this_laid, .int x_this_isKept, .ref h_this_pile, .ref h_this_tape, .int x_this_taped, .ref h_this_letters, .int x_this_at, .int x_this_begun, .int x_this_token, .int x_this_value, .int x_this_opened, .int x_this_steps, .ref h_this_code0, .ref h_this_read, .ref h_this_saved, .ref h_this_plan, .ref h_this_bestPlan, .int y_this_most, .int y_this_many, .int x_this_few, .int x_this_everHome, .ref h_this_offThen, .ref h_this_paidThen, .int x_this_firstFit, .ref h_this_rows, .int x_this_rowMany, .ref h_this_sorts, .ref h_this_sizes, .ref h_this_number, .ref h_this_holds, .ref h_this_heldOne, .ref h_this_trace, .int x_this_traced, .int x_this_own, .int x_this_isParted]), (h_this_bestPlan, ia G 4 g_this_bestPlan), (h_this_plan, ia G 4 f_this_plan), (h_this_s, ia G 313 f_this_s)] [(0, .ref h_this), (1, .int p0), (2, .int p1), (3, .int p2), (4, .int p3), (5, .int v5)] := by
    intro n
    induction n with
    | zero =>
      intro v5 y_this_most y_this_many g_this_bestPlan hf
      replace hf : (none : Option _) = some _ := hf
      cases hf
    | succ n ih =>
      intro v5 y_this_most y_this_many g_this_bestPlan hf
      rw [f_X9_endsPlan_L21] at hf
      refine hK1 _ _ _ _ (fun H locs ls h hl => ?_)
      refine lv_iload hx hb dX9_endsPlan_21 (lv_at hl 5 rfl) ?_
      refine lv_iload_n hx hb dX9_endsPlan_23 rfl (lv_at hl 1 rfl) ?_
      refine lv_icmp_ge (tgt := 47) hx hb dX9_endsPlan_24 rfl (fun c10 => ?_) (fun c10 => ?_)
      · replace hf := ifp c10 hf
        exact hK2 _ _ _ _ (B47 y_this_most y_this_many g_this_bestPlan hf) _ _ _ h (lv_sub hl [0, 2, 3, 4] rfl)
      · replace hf := ifn c10 hf
        refine lv_aload_n hx hb dX9_endsPlan_27 rfl (lv_at hl 0 rfl) ?_
        refine r_get C h fk_X9_41 0 rfl rfl dX9_endsPlan_28 ?_
        refine lv_iload hx hb dX9_endsPlan_31 (lv_at hl 5 rfl) ?_
        refine lv_aload_n hx hb dX9_endsPlan_33 rfl (lv_at hl 0 rfl) ?_
        refine r_get C h fk_X9_38 0 rfl rfl dX9_endsPlan_34 ?_
        refine lv_iload hx hb dX9_endsPlan_37 (lv_at hl 5 rfl) ?_
        replace hf := chkI_inv hf
        obtain ⟨hi11, hf⟩ := hf
        refine r_iald C h 2 rfl hi11 dX9_endsPlan_39 ?_
        refine lv_topi (fun t12 et12 => ?_)
        replace hf := lt1_inv et12 hf
        replace hf := chkI_inv hf
        obtain ⟨hi13, hf⟩ := hf
        refine r_iast (ws' := [(h_this, ob 9 [.ref h_this_s, .ref h_this_kept, .ref h_this_laid, .int x_this_isKept, .ref h_this_pile, .ref h_this_tape, .int x_this_taped, .ref h_this_letters, .int x_this_at, .int x_this_begun, .int x_this_token, .int x_this_value, .int x_this_opened, .int x_this_steps, .ref h_this_code0, .ref h_this_read, .ref h_this_saved, .ref h_this_plan, .ref h_this_bestPlan, .int y_this_most, .int y_this_many, .int x_this_few, .int x_this_everHome, .ref h_this_offThen, .ref h_this_paidThen, .int x_this_firstFit, .ref h_this_rows, .int x_this_rowMany, .ref h_this_sorts, .ref h_this_sizes, .ref h_this_number, .ref h_this_holds, .ref h_this_heldOne, .ref h_this_trace, .int x_this_traced, .int x_this_own, .int x_this_isParted]), (h_this_bestPlan, ia G 4 (upd g_this_bestPlan v5.toNatClampNeg t12)), (h_this_plan, ia G 4 f_this_plan), (h_this_s, ia G 313 f_this_s)]) C h 1 rfl hi13 dX9_endsPlan_40 rfl (fun H locs h => ?_)
        obtain ⟨t14, et14⟩ : ∃ y : Int32, y = v5 + (1 : Int32) := ⟨_, rfl⟩
        replace hf := lt1_inv et14 hf
        refine lv_iinc (v := t14) (lv' := [(5, .int t14), (0, .ref h_this), (1, .int p0), (2, .int p1), (3, .int p2), (4, .int p3)]) hx hb dX9_endsPlan_41 hl (k := 5) rfl (by rw [et14]; rfl) (by decide) rfl (fun ls hl => ?_)
        refine lv_goto (tgt := 21) hx hb dX9_endsPlan_44 rfl ?_
        exact hK2 _ _ _ _ (ih t14 y_this_most y_this_many (upd g_this_bestPlan v5.toNatClampNeg t12) hf) _ _ _ h (lv_sub hl [1, 2, 3, 4, 5, 0] rfl)
  refine lv_iload_n hx hb dX9_endsPlan_0 rfl (lv_at hl 2 rfl) ?_
  refine lv_aload_n hx hb dX9_endsPlan_1 rfl (lv_at hl 0 rfl) ?_
  refine r_get C h fk_X9_262 0 rfl rfl dX9_endsPlan_2 ?_
  refine lv_icmp_le (tgt := 47) hx hb dX9_endsPlan_5 rfl (fun c1 => ?_) (fun c1 => ?_)
  · replace hf := ifp c1 hf
    exact hK2 _ _ _ _ (B47 x_this_most x_this_many f_this_bestPlan hf) _ _ _ h (lv_sub hl [0, 2, 3, 4] rfl)
  · replace hf := ifn c1 hf
    refine lv_aload_n hx hb dX9_endsPlan_8 rfl (lv_at hl 0 rfl) ?_
    refine lv_iconst (v := (0 : Int32)) hx hb dX9_endsPlan_9 rfl ?_
    refine r_put (ws' := [(h_this, ob 9 [.ref h_this_s, .ref h_this_kept, .ref h_this_laid, .int x_this_isKept, .ref h_this_pile, .ref h_this_tape, .int x_this_taped, .ref h_this_letters, .int x_this_at, .int x_this_begun, .int x_this_token, .int x_this_value, .int x_this_opened, .int x_this_steps, .ref h_this_code0, .ref h_this_read, .ref h_this_saved, .ref h_this_plan, .ref h_this_bestPlan, .int x_this_most, .int (0 : Int32), .int x_this_few, .int x_this_everHome, .ref h_this_offThen, .ref h_this_paidThen, .int x_this_firstFit, .ref h_this_rows, .int x_this_rowMany, .ref h_this_sorts, .ref h_this_sizes, .ref h_this_number, .ref h_this_holds, .ref h_this_heldOne, .ref h_this_trace, .int x_this_traced, .int x_this_own, .int x_this_isParted]), (h_this_bestPlan, ia G 4 f_this_bestPlan), (h_this_plan, ia G 4 f_this_plan), (h_this_s, ia G 313 f_this_s)]) C h fw_X9_265 0 rfl rfl rfl (Nat.le_of_ble_eq_true rfl) dX9_endsPlan_10 rfl (fun H locs h => ?_)
    refine lv_aload_n hx hb dX9_endsPlan_13 rfl (lv_at hl 0 rfl) ?_
    refine lv_iload_n hx hb dX9_endsPlan_14 rfl (lv_at hl 2 rfl) ?_
    refine r_put (ws' := [(h_this, ob 9 [.ref h_this_s, .ref h_this_kept, .ref h_this_laid, .int x_this_isKept, .ref h_this_pile, .ref h_this_tape, .int x_this_taped, .ref h_this_letters, .int x_this_at, .int x_this_begun, .int x_this_token, .int x_this_value, .int x_this_opened, .int x_this_steps, .ref h_this_code0, .ref h_this_read, .ref h_this_saved, .ref h_this_plan, .ref h_this_bestPlan, .int p1, .int (0 : Int32), .int x_this_few, .int x_this_everHome, .ref h_this_offThen, .ref h_this_paidThen, .int x_this_firstFit, .ref h_this_rows, .int x_this_rowMany, .ref h_this_sorts, .ref h_this_sizes, .ref h_this_number, .ref h_this_holds, .ref h_this_heldOne, .ref h_this_trace, .int x_this_traced, .int x_this_own, .int x_this_isParted]), (h_this_bestPlan, ia G 4 f_this_bestPlan), (h_this_plan, ia G 4 f_this_plan), (h_this_s, ia G 313 f_this_s)]) C h fw_X9_262 0 rfl rfl rfl (Nat.le_of_ble_eq_true rfl) dX9_endsPlan_15 rfl (fun H locs h => ?_)
    refine lv_iconst (v := (0 : Int32)) hx hb dX9_endsPlan_18 rfl ?_
    refine lv_istore (lv' := [(5, .int (0 : Int32)), (0, .ref h_this), (1, .int p0), (2, .int p1), (3, .int p2), (4, .int p3)]) hx hb dX9_endsPlan_19 hl (by decide) rfl (fun ls hl => ?_)
    exact hK2 _ _ _ _ (L21 1000 (0 : Int32) p1 (0 : Int32) f_this_bestPlan hf) _ _ _ h (lv_sub hl [1, 2, 3, 4, 5, 0] rfl)
set_option maxRecDepth 100000 in
set_option maxHeartbeats 4000000 in
theorem c_X9_saves {l : Launch} {G : Gt} {h_this h_this_s h_this_kept h_this_laid h_this_pile h_this_tape h_this_letters h_this_code0 h_this_read h_this_saved h_this_plan h_this_bestPlan h_this_offThen h_this_paidThen h_this_rows h_this_sorts h_this_sizes h_this_number h_this_holds h_this_heldOne h_this_trace : Nat} {p0 : Int32} {x_this_isKept : Int32} {x_this_taped : Int32} {x_this_at : Int32} {x_this_begun : Int32} {x_this_token : Int32} {x_this_value : Int32} {x_this_opened : Int32} {x_this_steps : Int32} {x_this_most : Int32} {x_this_many : Int32} {x_this_few : Int32} {x_this_everHome : Int32} {x_this_firstFit : Int32} {x_this_rowMany : Int32} {x_this_traced : Int32} {x_this_own : Int32} {x_this_isParted : Int32} {f_this_s : Nat → Int32} {f_this_saved : Nat → Int32} {m_this_saved : Nat → Int32} (hf : f_X9_saves p0 f_this_s f_this_saved = some m_this_saved) : mFv l G yX9_saves cX9_saves 3 0 [.ref h_this, .int p0] [(h_this, ob 9 [.ref h_this_s, .ref h_this_kept, .ref h_this_laid, .int x_this_isKept, .ref h_this_pile, .ref h_this_tape, .int x_this_taped, .ref h_this_letters, .int x_this_at, .int x_this_begun, .int x_this_token, .int x_this_value, .int x_this_opened, .int x_this_steps, .ref h_this_code0, .ref h_this_read, .ref h_this_saved, .ref h_this_plan, .ref h_this_bestPlan, .int x_this_most, .int x_this_many, .int x_this_few, .int x_this_everHome, .ref h_this_offThen, .ref h_this_paidThen, .int x_this_firstFit, .ref h_this_rows, .int x_this_rowMany, .ref h_this_sorts, .ref h_this_sizes, .ref h_this_number, .ref h_this_holds, .ref h_this_heldOne, .ref h_this_trace, .int x_this_traced, .int x_this_own, .int x_this_isParted]), (h_this_s, ia G 313 f_this_s), (h_this_saved, ia G 325 f_this_saved)] [(h_this, ob 9 [.ref h_this_s, .ref h_this_kept, .ref h_this_laid, .int x_this_isKept, .ref h_this_pile, .ref h_this_tape, .int x_this_taped, .ref h_this_letters, .int x_this_at, .int x_this_begun, .int x_this_token, .int x_this_value, .int x_this_opened, .int x_this_steps, .ref h_this_code0, .ref h_this_read, .ref h_this_saved, .ref h_this_plan, .ref h_this_bestPlan, .int x_this_most, .int x_this_many, .int x_this_few, .int x_this_everHome, .ref h_this_offThen, .ref h_this_paidThen, .int x_this_firstFit, .ref h_this_rows, .int x_this_rowMany, .ref h_this_sorts, .ref h_this_sizes, .ref h_this_number, .ref h_this_holds, .ref h_this_heldOne, .ref h_this_trace, .int x_this_traced, .int x_this_own, .int x_this_isParted]), (h_this_s, ia G 313 f_this_s), (h_this_saved, ia G 325 m_this_saved)] := by
  refine mFv.of (by decide +kernel) (Nat.le_of_ble_eq_true rfl) ?_
  intro p e s m below meth c A C hr hlk h ls hl
  obtain ⟨hx, hb, hml, hown, hts⟩ := id C
  replace hl : lv_has ls 3 [(0, .ref h_this), (1, .int p0)] := hl
  unfold f_X9_saves at hf
  refine with_K G A 3 (fun K hK1 hK2 => ?_)
  have L2 : ∀ (n : Nat) (v2 : Int32) (g_this_saved : Nat → Int32), f_X9_saves_L2 p0 f_this_s n v2 g_this_saved = some m_this_saved → K 2 ([] : List Value) [(h_this, ob 9 [.ref h_this_s, .ref h_this_kept, .ref h_this_laid, .int x_this_isKept, .ref h_this_pile, .ref h_this_tape, .int x_this_taped, .ref h_this_letters, .int x_this_at, .int x_this_begun, .int x_this_token, .int x_this_value, .int x_this_opened, .int x_this_steps, .ref h_this_code0, .ref h_this_read, .ref h_this_saved, .ref h_this_plan, .ref h_this_bestPlan, .int x_this_most, .int x_this_many, .int x_this_few, .int x_this_everHome, .ref h_this_offThen, .ref h_this_paidThen, .int x_this_firstFit, .ref h_this_rows, .int x_this_rowMany, .ref h_this_sorts, .ref h_this_sizes, .ref h_this_number, .ref h_this_holds, .ref h_this_heldOne, .ref h_this_trace, .int x_this_traced, .int x_this_own, .int x_this_isParted]), (h_this_s, ia G 313 f_this_s), (h_this_saved, ia G 325 g_this_saved)] [(0, .ref h_this), (1, .int p0), (2, .int v2)] := by
    intro n
    induction n with
    | zero =>
      intro v2 g_this_saved hf
      replace hf : (none : Option _) = some _ := hf
      cases hf
    | succ n ih =>
      intro v2 g_this_saved hf
      rw [f_X9_saves_L2] at hf
      refine hK1 _ _ _ _ (fun H locs ls h hl => ?_)
      refine lv_iload_n hx hb dX9_saves_2 rfl (lv_at hl 2 rfl) ?_
      refine lv_bipush (v := (65 : Int32)) hx hb dX9_saves_3 rfl ?_
      refine lv_icmp_ge (tgt := 31) hx hb dX9_saves_5 rfl (fun c1 => ?_) (fun c1 => ?_)
      · replace hf := ifp c1 hf
        cases hf
        exact r_vret C h hr hlk dX9_saves_31
      · replace hf := ifn c1 hf
        refine lv_aload_n hx hb dX9_saves_8 rfl (lv_at hl 0 rfl) ?_
        refine r_get C h fk_X9_35 0 rfl rfl dX9_saves_9 ?_
        refine lv_bipush (v := (65 : Int32)) hx hb dX9_saves_12 rfl ?_
        refine lv_iload_n hx hb dX9_saves_14 rfl (lv_at hl 1 rfl) ?_
        refine lv_imul hx hb dX9_saves_15 ?_
        refine lv_iload_n hx hb dX9_saves_16 rfl (lv_at hl 2 rfl) ?_
        refine lv_iadd hx hb dX9_saves_17 ?_
        refine lv_aload_n hx hb dX9_saves_18 rfl (lv_at hl 0 rfl) ?_
        refine r_get C h fk_X9_9 0 rfl rfl dX9_saves_19 ?_
        refine lv_iload_n hx hb dX9_saves_22 rfl (lv_at hl 2 rfl) ?_
        replace hf := chkI_inv hf
        obtain ⟨hi2, hf⟩ := hf
        refine r_iald C h 1 rfl hi2 dX9_saves_23 ?_
        refine lv_topi (fun t3 et3 => ?_)
        replace hf := lt1_inv et3 hf
        replace hf := chkI_inv hf
        obtain ⟨hi4, hf⟩ := hf
        refine r_iast (ws' := [(h_this, ob 9 [.ref h_this_s, .ref h_this_kept, .ref h_this_laid, .int x_this_isKept, .ref h_this_pile, .ref h_this_tape, .int x_this_taped, .ref h_this_letters, .int x_this_at, .int x_this_begun, .int x_this_token, .int x_this_value, .int x_this_opened, .int x_this_steps, .ref h_this_code0, .ref h_this_read, .ref h_this_saved, .ref h_this_plan, .ref h_this_bestPlan, .int x_this_most, .int x_this_many, .int x_this_few, .int x_this_everHome, .ref h_this_offThen, .ref h_this_paidThen, .int x_this_firstFit, .ref h_this_rows, .int x_this_rowMany, .ref h_this_sorts, .ref h_this_sizes, .ref h_this_number, .ref h_this_holds, .ref h_this_heldOne, .ref h_this_trace, .int x_this_traced, .int x_this_own, .int x_this_isParted]), (h_this_s, ia G 313 f_this_s), (h_this_saved, ia G 325 (upd g_this_saved (((65 : Int32) * p0) + v2).toNatClampNeg t3))]) C h 2 rfl hi4 dX9_saves_24 rfl (fun H locs h => ?_)
        obtain ⟨t5, et5⟩ : ∃ y : Int32, y = v2 + (1 : Int32) := ⟨_, rfl⟩
        replace hf := lt1_inv et5 hf
        refine lv_iinc (v := t5) (lv' := [(2, .int t5), (0, .ref h_this), (1, .int p0)]) hx hb dX9_saves_25 hl (k := 2) rfl (by rw [et5]; rfl) (by decide) rfl (fun ls hl => ?_)
        refine lv_goto (tgt := 2) hx hb dX9_saves_28 rfl ?_
        exact hK2 _ _ _ _ (ih t5 (upd g_this_saved (((65 : Int32) * p0) + v2).toNatClampNeg t3) hf) _ _ _ h (lv_sub hl [1, 2, 0] rfl)
  refine lv_iconst (v := (0 : Int32)) hx hb dX9_saves_0 rfl ?_
  refine lv_istore_n (lv' := [(2, .int (0 : Int32)), (0, .ref h_this), (1, .int p0)]) hx hb dX9_saves_1 rfl hl (by decide) rfl (fun ls hl => ?_)
  exact hK2 _ _ _ _ (L2 1000 (0 : Int32) f_this_saved hf) _ _ _ h (lv_sub hl [1, 2, 0] rfl)
set_option maxRecDepth 100000 in
set_option maxHeartbeats 4000000 in
theorem c_X9_restores {l : Launch} {G : Gt} {h_this h_this_s h_this_kept h_this_laid h_this_pile h_this_tape h_this_letters h_this_code0 h_this_read h_this_saved h_this_plan h_this_bestPlan h_this_offThen h_this_paidThen h_this_rows h_this_sorts h_this_sizes h_this_number h_this_holds h_this_heldOne h_this_trace : Nat} {p0 : Int32} {x_this_isKept : Int32} {x_this_taped : Int32} {x_this_at : Int32} {x_this_begun : Int32} {x_this_token : Int32} {x_this_value : Int32} {x_this_opened : Int32} {x_this_steps : Int32} {x_this_most : Int32} {x_this_many : Int32} {x_this_few : Int32} {x_this_everHome : Int32} {x_this_firstFit : Int32} {x_this_rowMany : Int32} {x_this_traced : Int32} {x_this_own : Int32} {x_this_isParted : Int32} {f_this_s : Nat → Int32} {f_this_saved : Nat → Int32} {m_this_s : Nat → Int32} (hf : f_X9_restores p0 f_this_s f_this_saved = some m_this_s) : mFv l G yX9_restores cX9_restores 3 0 [.ref h_this, .int p0] [(h_this, ob 9 [.ref h_this_s, .ref h_this_kept, .ref h_this_laid, .int x_this_isKept, .ref h_this_pile, .ref h_this_tape, .int x_this_taped, .ref h_this_letters, .int x_this_at, .int x_this_begun, .int x_this_token, .int x_this_value, .int x_this_opened, .int x_this_steps, .ref h_this_code0, .ref h_this_read, .ref h_this_saved, .ref h_this_plan, .ref h_this_bestPlan, .int x_this_most, .int x_this_many, .int x_this_few, .int x_this_everHome, .ref h_this_offThen, .ref h_this_paidThen, .int x_this_firstFit, .ref h_this_rows, .int x_this_rowMany, .ref h_this_sorts, .ref h_this_sizes, .ref h_this_number, .ref h_this_holds, .ref h_this_heldOne, .ref h_this_trace, .int x_this_traced, .int x_this_own, .int x_this_isParted]), (h_this_s, ia G 313 f_this_s), (h_this_saved, ia G 325 f_this_saved)] [(h_this, ob 9 [.ref h_this_s, .ref h_this_kept, .ref h_this_laid, .int x_this_isKept, .ref h_this_pile, .ref h_this_tape, .int x_this_taped, .ref h_this_letters, .int x_this_at, .int x_this_begun, .int x_this_token, .int x_this_value, .int x_this_opened, .int x_this_steps, .ref h_this_code0, .ref h_this_read, .ref h_this_saved, .ref h_this_plan, .ref h_this_bestPlan, .int x_this_most, .int x_this_many, .int x_this_few, .int x_this_everHome, .ref h_this_offThen, .ref h_this_paidThen, .int x_this_firstFit, .ref h_this_rows, .int x_this_rowMany, .ref h_this_sorts, .ref h_this_sizes, .ref h_this_number, .ref h_this_holds, .ref h_this_heldOne, .ref h_this_trace, .int x_this_traced, .int x_this_own, .int x_this_isParted]), (h_this_s, ia G 313 m_this_s), (h_this_saved, ia G 325 f_this_saved)] := by
  refine mFv.of (by decide +kernel) (Nat.le_of_ble_eq_true rfl) ?_
  intro p e s m below meth c A C hr hlk h ls hl
  obtain ⟨hx, hb, hml, hown, hts⟩ := id C
  replace hl : lv_has ls 3 [(0, .ref h_this), (1, .int p0)] := hl
  unfold f_X9_restores at hf
  refine with_K G A 3 (fun K hK1 hK2 => ?_)
  have L2 : ∀ (n : Nat) (v2 : Int32) (g_this_s : Nat → Int32), f_X9_restores_L2 p0 f_this_saved n v2 g_this_s = some m_this_s → K 2 ([] : List Value) [(h_this, ob 9 [.ref h_this_s, .ref h_this_kept, .ref h_this_laid, .int x_this_isKept, .ref h_this_pile, .ref h_this_tape, .int x_this_taped, .ref h_this_letters, .int x_this_at, .int x_this_begun, .int x_this_token, .int x_this_value, .int x_this_opened, .int x_this_steps, .ref h_this_code0, .ref h_this_read, .ref h_this_saved, .ref h_this_plan, .ref h_this_bestPlan, .int x_this_most, .int x_this_many, .int x_this_few, .int x_this_everHome, .ref h_this_offThen, .ref h_this_paidThen, .int x_this_firstFit, .ref h_this_rows, .int x_this_rowMany, .ref h_this_sorts, .ref h_this_sizes, .ref h_this_number, .ref h_this_holds, .ref h_this_heldOne, .ref h_this_trace, .int x_this_traced, .int x_this_own, .int x_this_isParted]), (h_this_s, ia G 313 g_this_s), (h_this_saved, ia G 325 f_this_saved)] [(0, .ref h_this), (1, .int p0), (2, .int v2)] := by
    intro n
    induction n with
    | zero =>
      intro v2 g_this_s hf
      replace hf : (none : Option _) = some _ := hf
      cases hf
    | succ n ih =>
      intro v2 g_this_s hf
      rw [f_X9_restores_L2] at hf
      refine hK1 _ _ _ _ (fun H locs ls h hl => ?_)
      refine lv_iload_n hx hb dX9_restores_2 rfl (lv_at hl 2 rfl) ?_
      refine lv_bipush (v := (65 : Int32)) hx hb dX9_restores_3 rfl ?_
      refine lv_icmp_ge (tgt := 31) hx hb dX9_restores_5 rfl (fun c1 => ?_) (fun c1 => ?_)
      · replace hf := ifp c1 hf
        cases hf
        exact r_vret C h hr hlk dX9_restores_31
      · replace hf := ifn c1 hf
        refine lv_aload_n hx hb dX9_restores_8 rfl (lv_at hl 0 rfl) ?_
        refine r_get C h fk_X9_9 0 rfl rfl dX9_restores_9 ?_
        refine lv_iload_n hx hb dX9_restores_12 rfl (lv_at hl 2 rfl) ?_
        refine lv_aload_n hx hb dX9_restores_13 rfl (lv_at hl 0 rfl) ?_
        refine r_get C h fk_X9_35 0 rfl rfl dX9_restores_14 ?_
        refine lv_bipush (v := (65 : Int32)) hx hb dX9_restores_17 rfl ?_
        refine lv_iload_n hx hb dX9_restores_19 rfl (lv_at hl 1 rfl) ?_
        refine lv_imul hx hb dX9_restores_20 ?_
        refine lv_iload_n hx hb dX9_restores_21 rfl (lv_at hl 2 rfl) ?_
        refine lv_iadd hx hb dX9_restores_22 ?_
        replace hf := chkI_inv hf
        obtain ⟨hi2, hf⟩ := hf
        refine r_iald C h 2 rfl hi2 dX9_restores_23 ?_
        refine lv_topi (fun t3 et3 => ?_)
        replace hf := lt1_inv et3 hf
        replace hf := chkI_inv hf
        obtain ⟨hi4, hf⟩ := hf
        refine r_iast (ws' := [(h_this, ob 9 [.ref h_this_s, .ref h_this_kept, .ref h_this_laid, .int x_this_isKept, .ref h_this_pile, .ref h_this_tape, .int x_this_taped, .ref h_this_letters, .int x_this_at, .int x_this_begun, .int x_this_token, .int x_this_value, .int x_this_opened, .int x_this_steps, .ref h_this_code0, .ref h_this_read, .ref h_this_saved, .ref h_this_plan, .ref h_this_bestPlan, .int x_this_most, .int x_this_many, .int x_this_few, .int x_this_everHome, .ref h_this_offThen, .ref h_this_paidThen, .int x_this_firstFit, .ref h_this_rows, .int x_this_rowMany, .ref h_this_sorts, .ref h_this_sizes, .ref h_this_number, .ref h_this_holds, .ref h_this_heldOne, .ref h_this_trace, .int x_this_traced, .int x_this_own, .int x_this_isParted]), (h_this_s, ia G 313 (upd g_this_s v2.toNatClampNeg t3)), (h_this_saved, ia G 325 f_this_saved)]) C h 1 rfl hi4 dX9_restores_24 rfl (fun H locs h => ?_)
        obtain ⟨t5, et5⟩ : ∃ y : Int32, y = v2 + (1 : Int32) := ⟨_, rfl⟩
        replace hf := lt1_inv et5 hf
        refine lv_iinc (v := t5) (lv' := [(2, .int t5), (0, .ref h_this), (1, .int p0)]) hx hb dX9_restores_25 hl (k := 2) rfl (by rw [et5]; rfl) (by decide) rfl (fun ls hl => ?_)
        refine lv_goto (tgt := 2) hx hb dX9_restores_28 rfl ?_
        exact hK2 _ _ _ _ (ih t5 (upd g_this_s v2.toNatClampNeg t3) hf) _ _ _ h (lv_sub hl [1, 2, 0] rfl)
  refine lv_iconst (v := (0 : Int32)) hx hb dX9_restores_0 rfl ?_
  refine lv_istore_n (lv' := [(2, .int (0 : Int32)), (0, .ref h_this), (1, .int p0)]) hx hb dX9_restores_1 rfl hl (by decide) rfl (fun ls hl => ?_)
  exact hK2 _ _ _ _ (L2 1000 (0 : Int32) f_this_s hf) _ _ _ h (lv_sub hl [1, 2, 0] rfl)
set_option maxRecDepth 100000 in
set_option maxHeartbeats 4000000 in
theorem c_X9_goesPlans {l : Launch} {G : Gt} {self : Int32 → Int32 → Int32 → Int32 → Int32 → Int32 → Int32 → Int32 → Int32 → (Nat → Int32) → (Nat → Int32) → (Nat → Int32) → (Nat → Int32) → (Nat → Int32) → Option (Int32 × Int32 × Int32 × Int32 × (Nat → Int32) × (Nat → Int32) × (Nat → Int32) × (Nat → Int32) × (Nat → Int32))} {H0 : Nat} (hself : ∀ {h_this h_this_s h_this_kept h_this_laid h_this_pile h_this_tape h_this_letters h_this_code0 h_this_read h_this_saved h_this_plan h_this_bestPlan h_this_offThen h_this_paidThen h_this_rows h_this_sorts h_this_sizes h_this_number h_this_holds h_this_heldOne h_this_trace : Nat} {p0 : Int32} {p1 : Int32} {p2 : Int32} {p3 : Int32} {p4 : Int32} {x_this_isKept : Int32} {x_this_taped : Int32} {x_this_at : Int32} {x_this_begun : Int32} {x_this_token : Int32} {x_this_value : Int32} {x_this_opened : Int32} {x_this_steps : Int32} {x_this_most : Int32} {x_this_many : Int32} {x_this_few : Int32} {x_this_everHome : Int32} {x_this_firstFit : Int32} {x_this_rowMany : Int32} {x_this_traced : Int32} {x_this_own : Int32} {x_this_isParted : Int32} {f_this_bestPlan : Nat → Int32} {f_this_pile : Nat → Int32} {f_this_plan : Nat → Int32} {f_this_s : Nat → Int32} {f_this_saved : Nat → Int32} {m_this_most : Int32} {m_this_many : Int32} {m_this_few : Int32} {m_this_everHome : Int32} {m_this_bestPlan : Nat → Int32} {m_this_pile : Nat → Int32} {m_this_plan : Nat → Int32} {m_this_s : Nat → Int32} {m_this_saved : Nat → Int32} , self p0 p1 p2 p3 p4 x_this_most x_this_many x_this_few x_this_everHome f_this_bestPlan f_this_pile f_this_plan f_this_s f_this_saved = some (m_this_most, m_this_many, m_this_few, m_this_everHome, m_this_bestPlan, m_this_pile, m_this_plan, m_this_s, m_this_saved) → mFv l G yX9_goesPlans cX9_goesPlans 8 H0 [.ref h_this, .int p0, .int p1, .int p2, .int p3, .int p4] [(h_this, ob 9 [.ref h_this_s, .ref h_this_kept, .ref h_this_laid, .int x_this_isKept, .ref h_this_pile, .ref h_this_tape, .int x_this_taped, .ref h_this_letters, .int x_this_at, .int x_this_begun, .int x_this_token, .int x_this_value, .int x_this_opened, .int x_this_steps, .ref h_this_code0, .ref h_this_read, .ref h_this_saved, .ref h_this_plan, .ref h_this_bestPlan, .int x_this_most, .int x_this_many, .int x_this_few, .int x_this_everHome, .ref h_this_offThen, .ref h_this_paidThen, .int x_this_firstFit, .ref h_this_rows, .int x_this_rowMany, .ref h_this_sorts, .ref h_this_sizes, .ref h_this_number, .ref h_this_holds, .ref h_this_heldOne, .ref h_this_trace, .int x_this_traced, .int x_this_own, .int x_this_isParted]), (h_this_bestPlan, ia G 4 f_this_bestPlan), (h_this_pile, ia G 200 f_this_pile), (h_this_plan, ia G 4 f_this_plan), (h_this_s, ia G 313 f_this_s), (h_this_saved, ia G 325 f_this_saved)] [(h_this, ob 9 [.ref h_this_s, .ref h_this_kept, .ref h_this_laid, .int x_this_isKept, .ref h_this_pile, .ref h_this_tape, .int x_this_taped, .ref h_this_letters, .int x_this_at, .int x_this_begun, .int x_this_token, .int x_this_value, .int x_this_opened, .int x_this_steps, .ref h_this_code0, .ref h_this_read, .ref h_this_saved, .ref h_this_plan, .ref h_this_bestPlan, .int m_this_most, .int m_this_many, .int m_this_few, .int m_this_everHome, .ref h_this_offThen, .ref h_this_paidThen, .int x_this_firstFit, .ref h_this_rows, .int x_this_rowMany, .ref h_this_sorts, .ref h_this_sizes, .ref h_this_number, .ref h_this_holds, .ref h_this_heldOne, .ref h_this_trace, .int x_this_traced, .int x_this_own, .int x_this_isParted]), (h_this_bestPlan, ia G 4 m_this_bestPlan), (h_this_pile, ia G 200 m_this_pile), (h_this_plan, ia G 4 m_this_plan), (h_this_s, ia G 313 m_this_s), (h_this_saved, ia G 325 m_this_saved)]) {h_this h_this_s h_this_kept h_this_laid h_this_pile h_this_tape h_this_letters h_this_code0 h_this_read h_this_saved h_this_plan h_this_bestPlan h_this_offThen h_this_paidThen h_this_rows h_this_sorts h_this_sizes h_this_number h_this_holds h_this_heldOne h_this_trace : Nat} {p0 : Int32} {p1 : Int32} {p2 : Int32} {p3 : Int32} {p4 : Int32} {x_this_isKept : Int32} {x_this_taped : Int32} {x_this_at : Int32} {x_this_begun : Int32} {x_this_token : Int32} {x_this_value : Int32} {x_this_opened : Int32} {x_this_steps : Int32} {x_this_most : Int32} {x_this_many : Int32} {x_this_few : Int32} {x_this_everHome : Int32} {x_this_firstFit : Int32} {x_this_rowMany : Int32} {x_this_traced : Int32} {x_this_own : Int32} {x_this_isParted : Int32} {f_this_bestPlan : Nat → Int32} {f_this_pile : Nat → Int32} {f_this_plan : Nat → Int32} {f_this_s : Nat → Int32} {f_this_saved : Nat → Int32} {m_this_most : Int32} {m_this_many : Int32} {m_this_few : Int32} {m_this_everHome : Int32} {m_this_bestPlan : Nat → Int32} {m_this_pile : Nat → Int32} {m_this_plan : Nat → Int32} {m_this_s : Nat → Int32} {m_this_saved : Nat → Int32} (hf : f_X9_goesPlans self p0 p1 p2 p3 p4 x_this_most x_this_many x_this_few x_this_everHome f_this_bestPlan f_this_pile f_this_plan f_this_s f_this_saved = some (m_this_most, m_this_many, m_this_few, m_this_everHome, m_this_bestPlan, m_this_pile, m_this_plan, m_this_s, m_this_saved)) : mFv l G yX9_goesPlans cX9_goesPlans 8 (H0 + 7) [.ref h_this, .int p0, .int p1, .int p2, .int p3, .int p4] [(h_this, ob 9 [.ref h_this_s, .ref h_this_kept, .ref h_this_laid, .int x_this_isKept, .ref h_this_pile, .ref h_this_tape, .int x_this_taped, .ref h_this_letters, .int x_this_at, .int x_this_begun, .int x_this_token, .int x_this_value, .int x_this_opened, .int x_this_steps, .ref h_this_code0, .ref h_this_read, .ref h_this_saved, .ref h_this_plan, .ref h_this_bestPlan, .int x_this_most, .int x_this_many, .int x_this_few, .int x_this_everHome, .ref h_this_offThen, .ref h_this_paidThen, .int x_this_firstFit, .ref h_this_rows, .int x_this_rowMany, .ref h_this_sorts, .ref h_this_sizes, .ref h_this_number, .ref h_this_holds, .ref h_this_heldOne, .ref h_this_trace, .int x_this_traced, .int x_this_own, .int x_this_isParted]), (h_this_bestPlan, ia G 4 f_this_bestPlan), (h_this_pile, ia G 200 f_this_pile), (h_this_plan, ia G 4 f_this_plan), (h_this_s, ia G 313 f_this_s), (h_this_saved, ia G 325 f_this_saved)] [(h_this, ob 9 [.ref h_this_s, .ref h_this_kept, .ref h_this_laid, .int x_this_isKept, .ref h_this_pile, .ref h_this_tape, .int x_this_taped, .ref h_this_letters, .int x_this_at, .int x_this_begun, .int x_this_token, .int x_this_value, .int x_this_opened, .int x_this_steps, .ref h_this_code0, .ref h_this_read, .ref h_this_saved, .ref h_this_plan, .ref h_this_bestPlan, .int m_this_most, .int m_this_many, .int m_this_few, .int m_this_everHome, .ref h_this_offThen, .ref h_this_paidThen, .int x_this_firstFit, .ref h_this_rows, .int x_this_rowMany, .ref h_this_sorts, .ref h_this_sizes, .ref h_this_number, .ref h_this_holds, .ref h_this_heldOne, .ref h_this_trace, .int x_this_traced, .int x_this_own, .int x_this_isParted]), (h_this_bestPlan, ia G 4 m_this_bestPlan), (h_this_pile, ia G 200 m_this_pile), (h_this_plan, ia G 4 m_this_plan), (h_this_s, ia G 313 m_this_s), (h_this_saved, ia G 325 m_this_saved)] := by
  refine mFv.of (by decide +kernel) (Nat.le_of_ble_eq_true rfl) ?_
  intro p e s m below meth c A C hr hlk h ls hl
  obtain ⟨hx, hb, hml, hown, hts⟩ := id C
  replace hl : lv_has ls 8 [(0, .ref h_this), (1, .int p0), (2, .int p1), (3, .int p2), (4, .int p3), (5, .int p4)] := hl
  unfold f_X9_goesPlans at hf
  refine with_K G A 8 (fun K hK1 hK2 => ?_)
  have L24 : ∀ (n : Nat) (v6 : Int32) (y_this_most : Int32) (y_this_many : Int32) (y_this_few : Int32) (y_this_everHome : Int32) (g_this_bestPlan : Nat → Int32) (g_this_pile : Nat → Int32) (g_this_plan : Nat → Int32) (g_this_s : Nat → Int32) (g_this_saved : Nat → Int32), f_X9_goesPlans_L24 self p0 p1 p2 p3 p4 n v6 y_this_most y_this_many y_this_few y_this_everHome g_this_bestPlan g_this_pile g_this_plan g_this_s g_this_saved = some (m_this_most, m_this_many, m_this_few, m_this_everHome, m_this_bestPlan, m_this_pile, m_this_plan, m_this_s, m_this_saved) → K 24 ([] : List Value) [(h_this, ob 9 [.ref h_this_s, .ref h_this_kept, .ref h_this_laid, .int x_this_isKept, .ref h_this_pile, .ref h_this_tape, .int x_this_taped, .ref h_this_letters, .int x_this_at, .int x_this_begun, .int x_this_token, .int x_this_value, .int x_this_opened, .int x_this_steps, .ref h_this_code0, .ref h_this_read, .ref h_this_saved, .ref h_this_plan, .ref h_this_bestPlan, .int y_this_most, .int y_this_many, .int y_this_few, .int y_this_everHome, .ref h_this_offThen, .ref h_this_paidThen, .int x_this_firstFit, .ref h_this_rows, .int x_this_rowMany, .ref h_this_sorts, .ref h_this_sizes, .ref h_this_number, .ref h_this_holds, .ref h_this_heldOne, .ref h_this_trace, .int x_this_traced, .int x_this_own, .int x_this_isParted]), (h_this_bestPlan, ia G 4 g_this_bestPlan), (h_this_pile, ia G 200 g_this_pile), (h_this_plan, ia G 4 g_this_plan), (h_this_s, ia G 313 g_this_s), (h_this_saved, ia G 325 g_this_saved)] [(0, .ref h_this), (1, .int p0), (2, .int p1), (3, .int p2), (4, .int p3), (5, .int p4), (6, .int v6)] := by
    intro n
    induction n with
    | zero =>
      intro v6 y_this_most y_this_many y_this_few y_this_everHome g_this_bestPlan g_this_pile g_this_plan g_this_s g_this_saved hf
      replace hf : (none : Option _) = some _ := hf
      cases hf
    | succ n ih =>
      intro v6 y_this_most y_this_many y_this_few y_this_everHome g_this_bestPlan g_this_pile g_this_plan g_this_s g_this_saved hf
      rw [f_X9_goesPlans_L24] at hf
      refine hK1 _ _ _ _ (fun H locs ls h hl => ?_)
      refine lv_iload hx hb dX9_goesPlans_24 (lv_at hl 6 rfl) ?_
      refine lv_aload_n hx hb dX9_goesPlans_26 rfl (lv_at hl 0 rfl) ?_
      refine r_get C h fk_X9_9 0 rfl rfl dX9_goesPlans_27 ?_
      refine lv_iconst (v := (4 : Int32)) hx hb dX9_goesPlans_30 rfl ?_
      refine r_ialdL C h 4 rfl (vlit rfl) 4 rfl dX9_goesPlans_31 ?_
      refine lv_icmp_gt (tgt := 90) hx hb dX9_goesPlans_32 rfl (fun c4 => ?_) (fun c4 => ?_)
      · replace hf := ifp c4 hf
        obtain ⟨rfl, rfl, rfl, rfl, rfl, rfl, rfl, rfl, rfl⟩ := sm9 hf
        exact r_vret C h hr hlk dX9_goesPlans_90
      · replace hf := ifn c4 hf
        refine lv_aload_n hx hb dX9_goesPlans_35 rfl (lv_at hl 0 rfl) ?_
        refine r_get C h fk_X9_38 0 rfl rfl dX9_goesPlans_36 ?_
        refine lv_iload_n hx hb dX9_goesPlans_39 rfl (lv_at hl 1 rfl) ?_
        refine lv_iload hx hb dX9_goesPlans_40 (lv_at hl 6 rfl) ?_
        replace hf := chkI_inv hf
        obtain ⟨hi5, hf⟩ := hf
        refine r_iast (ws' := [(h_this, ob 9 [.ref h_this_s, .ref h_this_kept, .ref h_this_laid, .int x_this_isKept, .ref h_this_pile, .ref h_this_tape, .int x_this_taped, .ref h_this_letters, .int x_this_at, .int x_this_begun, .int x_this_token, .int x_this_value, .int x_this_opened, .int x_this_steps, .ref h_this_code0, .ref h_this_read, .ref h_this_saved, .ref h_this_plan, .ref h_this_bestPlan, .int y_this_most, .int y_this_many, .int y_this_few, .int y_this_everHome, .ref h_this_offThen, .ref h_this_paidThen, .int x_this_firstFit, .ref h_this_rows, .int x_this_rowMany, .ref h_this_sorts, .ref h_this_sizes, .ref h_this_number, .ref h_this_holds, .ref h_this_heldOne, .ref h_this_trace, .int x_this_traced, .int x_this_own, .int x_this_isParted]), (h_this_bestPlan, ia G 4 g_this_bestPlan), (h_this_pile, ia G 200 g_this_pile), (h_this_plan, ia G 4 (upd g_this_plan p0.toNatClampNeg v6)), (h_this_s, ia G 313 g_this_s), (h_this_saved, ia G 325 g_this_saved)]) C h 3 rfl hi5 dX9_goesPlans_42 rfl (fun H locs h => ?_)
        refine lv_aload_n hx hb dX9_goesPlans_43 rfl (lv_at hl 0 rfl) ?_
        refine lv_iload hx hb dX9_goesPlans_44 (lv_at hl 6 rfl) ?_
        replace hf := bd3_inv hf
        obtain ⟨r6, g7, g8, hc9, hf⟩ := hf
        refine r_ciV (ws' := [(h_this, ob 9 [.ref h_this_s, .ref h_this_kept, .ref h_this_laid, .int x_this_isKept, .ref h_this_pile, .ref h_this_tape, .int x_this_taped, .ref h_this_letters, .int x_this_at, .int x_this_begun, .int x_this_token, .int x_this_value, .int x_this_opened, .int x_this_steps, .ref h_this_code0, .ref h_this_read, .ref h_this_saved, .ref h_this_plan, .ref h_this_bestPlan, .int y_this_most, .int y_this_many, .int y_this_few, .int y_this_everHome, .ref h_this_offThen, .ref h_this_paidThen, .int x_this_firstFit, .ref h_this_rows, .int x_this_rowMany, .ref h_this_sorts, .ref h_this_sizes, .ref h_this_number, .ref h_this_holds, .ref h_this_heldOne, .ref h_this_trace, .int x_this_traced, .int x_this_own, .int x_this_isParted]), (h_this_bestPlan, ia G 4 g_this_bestPlan), (h_this_pile, ia G 200 g7), (h_this_plan, ia G 4 (upd g_this_plan p0.toNatClampNeg v6)), (h_this_s, ia G 313 g8), (h_this_saved, ia G 325 g_this_saved)]) C h (c_X9_goesBy hc9) mv_X9_238 rfl 0 rfl [0, 2, 4] rfl rfl [2, 4] [(h_this_pile, ia G 200 g7), (h_this_s, ia G 313 g8)] rfl rfl (by decide +kernel) rfl hl.1 rfl (Nat.le_of_ble_eq_true rfl) (rok (by omega)) dX9_goesPlans_46 (fun H locs h => ?_)
        refine lv_istore (lv' := [(7, .int r6), (0, .ref h_this), (1, .int p0), (2, .int p1), (3, .int p2), (4, .int p3), (5, .int p4), (6, .int v6)]) hx hb dX9_goesPlans_49 hl (by decide) rfl (fun ls hl => ?_)
        refine lv_aload_n hx hb dX9_goesPlans_51 rfl (lv_at hl 1 rfl) ?_
        refine lv_iload_n hx hb dX9_goesPlans_52 rfl (lv_at hl 2 rfl) ?_
        refine lv_iconst (v := (1 : Int32)) hx hb dX9_goesPlans_53 rfl ?_
        refine lv_iadd hx hb dX9_goesPlans_54 ?_
        refine lv_iload_n hx hb dX9_goesPlans_55 rfl (lv_at hl 3 rfl) ?_
        refine lv_iload_n hx hb dX9_goesPlans_56 rfl (lv_at hl 4 rfl) ?_
        refine lv_iload hx hb dX9_goesPlans_57 (lv_at hl 0 rfl) ?_
        refine lv_iadd hx hb dX9_goesPlans_59 ?_
        refine lv_iload hx hb dX9_goesPlans_60 (lv_at hl 7 rfl) ?_
        refine lv_if_le (tgt := 72) hx hb dX9_goesPlans_62 rfl (fun c10 => ?_) (fun c10 => ?_)
        · replace hf := ifp c10 hf
          refine lv_iload hx hb dX9_goesPlans_72 (lv_at hl 5 rfl) ?_
          refine lv_iload hx hb dX9_goesPlans_74 (lv_at hl 6 rfl) ?_
          replace hf := bd9_inv hf
          obtain ⟨y11, y12, y13, y14, g15, g16, g17, g18, g19, hc20, hf⟩ := hf
          refine r_cvV (ws' := [(h_this, ob 9 [.ref h_this_s, .ref h_this_kept, .ref h_this_laid, .int x_this_isKept, .ref h_this_pile, .ref h_this_tape, .int x_this_taped, .ref h_this_letters, .int x_this_at, .int x_this_begun, .int x_this_token, .int x_this_value, .int x_this_opened, .int x_this_steps, .ref h_this_code0, .ref h_this_read, .ref h_this_saved, .ref h_this_plan, .ref h_this_bestPlan, .int y11, .int y12, .int y13, .int y14, .ref h_this_offThen, .ref h_this_paidThen, .int x_this_firstFit, .ref h_this_rows, .int x_this_rowMany, .ref h_this_sorts, .ref h_this_sizes, .ref h_this_number, .ref h_this_holds, .ref h_this_heldOne, .ref h_this_trace, .int x_this_traced, .int x_this_own, .int x_this_isParted]), (h_this_bestPlan, ia G 4 g15), (h_this_pile, ia G 200 g16), (h_this_plan, ia G 4 g17), (h_this_s, ia G 313 g18), (h_this_saved, ia G 325 g19)]) C h (hself hc20) mv_X9_281 rfl 0 rfl [0, 1, 2, 3, 4, 5] rfl rfl [0, 1, 2, 3, 4, 5] [(h_this, ob 9 [.ref h_this_s, .ref h_this_kept, .ref h_this_laid, .int x_this_isKept, .ref h_this_pile, .ref h_this_tape, .int x_this_taped, .ref h_this_letters, .int x_this_at, .int x_this_begun, .int x_this_token, .int x_this_value, .int x_this_opened, .int x_this_steps, .ref h_this_code0, .ref h_this_read, .ref h_this_saved, .ref h_this_plan, .ref h_this_bestPlan, .int y11, .int y12, .int y13, .int y14, .ref h_this_offThen, .ref h_this_paidThen, .int x_this_firstFit, .ref h_this_rows, .int x_this_rowMany, .ref h_this_sorts, .ref h_this_sizes, .ref h_this_number, .ref h_this_holds, .ref h_this_heldOne, .ref h_this_trace, .int x_this_traced, .int x_this_own, .int x_this_isParted]), (h_this_bestPlan, ia G 4 g15), (h_this_pile, ia G 200 g16), (h_this_plan, ia G 4 g17), (h_this_s, ia G 313 g18), (h_this_saved, ia G 325 g19)] rfl rfl (by decide +kernel) rfl hl.1 rfl (Nat.le_of_ble_eq_true rfl) (rok (by omega)) dX9_goesPlans_76 (fun H locs h => ?_)
          refine lv_aload_n hx hb dX9_goesPlans_79 rfl (lv_at hl 1 rfl) ?_
          refine lv_iload_n hx hb dX9_goesPlans_80 rfl (lv_at hl 2 rfl) ?_
          replace hf := bd1_inv hf
          obtain ⟨g21, hc22, hf⟩ := hf
          refine r_cvV (ws' := [(h_this, ob 9 [.ref h_this_s, .ref h_this_kept, .ref h_this_laid, .int x_this_isKept, .ref h_this_pile, .ref h_this_tape, .int x_this_taped, .ref h_this_letters, .int x_this_at, .int x_this_begun, .int x_this_token, .int x_this_value, .int x_this_opened, .int x_this_steps, .ref h_this_code0, .ref h_this_read, .ref h_this_saved, .ref h_this_plan, .ref h_this_bestPlan, .int y11, .int y12, .int y13, .int y14, .ref h_this_offThen, .ref h_this_paidThen, .int x_this_firstFit, .ref h_this_rows, .int x_this_rowMany, .ref h_this_sorts, .ref h_this_sizes, .ref h_this_number, .ref h_this_holds, .ref h_this_heldOne, .ref h_this_trace, .int x_this_traced, .int x_this_own, .int x_this_isParted]), (h_this_bestPlan, ia G 4 g15), (h_this_pile, ia G 200 g16), (h_this_plan, ia G 4 g17), (h_this_s, ia G 313 g21), (h_this_saved, ia G 325 g19)]) C h (c_X9_restores hc22) mv_X9_285 rfl 0 rfl [0, 4, 5] rfl rfl [4] [(h_this_s, ia G 313 g21)] rfl rfl (by decide +kernel) rfl hl.1 rfl (Nat.le_of_ble_eq_true rfl) (rok (by omega)) dX9_goesPlans_81 (fun H locs h => ?_)
          obtain ⟨t23, et23⟩ : ∃ y : Int32, y = v6 + (1 : Int32) := ⟨_, rfl⟩
          replace hf := lt1_inv et23 hf
          refine lv_iinc (v := t23) (lv' := [(6, .int t23), (7, .int r6), (0, .ref h_this), (1, .int p0), (2, .int p1), (3, .int p2), (4, .int p3), (5, .int p4)]) hx hb dX9_goesPlans_84 hl (k := 7) rfl (by rw [et23]; rfl) (by decide) rfl (fun ls hl => ?_)
          refine lv_goto (tgt := 24) hx hb dX9_goesPlans_87 rfl ?_
          exact hK2 _ _ _ _ (ih t23 y11 y12 y13 y14 g15 g16 g17 g21 g19 hf) _ _ _ h (lv_sub hl [2, 3, 4, 5, 6, 7, 0] rfl)
        · replace hf := ifn c10 hf
          refine lv_iload hx hb dX9_goesPlans_65 (lv_at hl 5 rfl) ?_
          refine lv_iconst (v := (1 : Int32)) hx hb dX9_goesPlans_67 rfl ?_
          refine lv_iadd hx hb dX9_goesPlans_68 ?_
          refine lv_goto (tgt := 74) hx hb dX9_goesPlans_69 rfl ?_
          refine lv_iload hx hb dX9_goesPlans_74 (lv_at hl 6 rfl) ?_
          replace hf := bd9_inv hf
          obtain ⟨y24, y25, y26, y27, g28, g29, g30, g31, g32, hc33, hf⟩ := hf
          refine r_cvV (ws' := [(h_this, ob 9 [.ref h_this_s, .ref h_this_kept, .ref h_this_laid, .int x_this_isKept, .ref h_this_pile, .ref h_this_tape, .int x_this_taped, .ref h_this_letters, .int x_this_at, .int x_this_begun, .int x_this_token, .int x_this_value, .int x_this_opened, .int x_this_steps, .ref h_this_code0, .ref h_this_read, .ref h_this_saved, .ref h_this_plan, .ref h_this_bestPlan, .int y24, .int y25, .int y26, .int y27, .ref h_this_offThen, .ref h_this_paidThen, .int x_this_firstFit, .ref h_this_rows, .int x_this_rowMany, .ref h_this_sorts, .ref h_this_sizes, .ref h_this_number, .ref h_this_holds, .ref h_this_heldOne, .ref h_this_trace, .int x_this_traced, .int x_this_own, .int x_this_isParted]), (h_this_bestPlan, ia G 4 g28), (h_this_pile, ia G 200 g29), (h_this_plan, ia G 4 g30), (h_this_s, ia G 313 g31), (h_this_saved, ia G 325 g32)]) C h (hself hc33) mv_X9_281 rfl 0 rfl [0, 1, 2, 3, 4, 5] rfl rfl [0, 1, 2, 3, 4, 5] [(h_this, ob 9 [.ref h_this_s, .ref h_this_kept, .ref h_this_laid, .int x_this_isKept, .ref h_this_pile, .ref h_this_tape, .int x_this_taped, .ref h_this_letters, .int x_this_at, .int x_this_begun, .int x_this_token, .int x_this_value, .int x_this_opened, .int x_this_steps, .ref h_this_code0, .ref h_this_read, .ref h_this_saved, .ref h_this_plan, .ref h_this_bestPlan, .int y24, .int y25, .int y26, .int y27, .ref h_this_offThen, .ref h_this_paidThen, .int x_this_firstFit, .ref h_this_rows, .int x_this_rowMany, .ref h_this_sorts, .ref h_this_sizes, .ref h_this_number, .ref h_this_holds, .ref h_this_heldOne, .ref h_this_trace, .int x_this_traced, .int x_this_own, .int x_this_isParted]), (h_this_bestPlan, ia G 4 g28), (h_this_pile, ia G 200 g29), (h_this_plan, ia G 4 g30), (h_this_s, ia G 313 g31), (h_this_saved, ia G 325 g32)] rfl rfl (by decide +kernel) rfl hl.1 rfl (Nat.le_of_ble_eq_true rfl) (rok (by omega)) dX9_goesPlans_76 (fun H locs h => ?_)
          refine lv_aload_n hx hb dX9_goesPlans_79 rfl (lv_at hl 1 rfl) ?_
          refine lv_iload_n hx hb dX9_goesPlans_80 rfl (lv_at hl 2 rfl) ?_
          replace hf := bd1_inv hf
          obtain ⟨g34, hc35, hf⟩ := hf
          refine r_cvV (ws' := [(h_this, ob 9 [.ref h_this_s, .ref h_this_kept, .ref h_this_laid, .int x_this_isKept, .ref h_this_pile, .ref h_this_tape, .int x_this_taped, .ref h_this_letters, .int x_this_at, .int x_this_begun, .int x_this_token, .int x_this_value, .int x_this_opened, .int x_this_steps, .ref h_this_code0, .ref h_this_read, .ref h_this_saved, .ref h_this_plan, .ref h_this_bestPlan, .int y24, .int y25, .int y26, .int y27, .ref h_this_offThen, .ref h_this_paidThen, .int x_this_firstFit, .ref h_this_rows, .int x_this_rowMany, .ref h_this_sorts, .ref h_this_sizes, .ref h_this_number, .ref h_this_holds, .ref h_this_heldOne, .ref h_this_trace, .int x_this_traced, .int x_this_own, .int x_this_isParted]), (h_this_bestPlan, ia G 4 g28), (h_this_pile, ia G 200 g29), (h_this_plan, ia G 4 g30), (h_this_s, ia G 313 g34), (h_this_saved, ia G 325 g32)]) C h (c_X9_restores hc35) mv_X9_285 rfl 0 rfl [0, 4, 5] rfl rfl [4] [(h_this_s, ia G 313 g34)] rfl rfl (by decide +kernel) rfl hl.1 rfl (Nat.le_of_ble_eq_true rfl) (rok (by omega)) dX9_goesPlans_81 (fun H locs h => ?_)
          obtain ⟨t36, et36⟩ : ∃ y : Int32, y = v6 + (1 : Int32) := ⟨_, rfl⟩
          replace hf := lt1_inv et36 hf
          refine lv_iinc (v := t36) (lv' := [(6, .int t36), (7, .int r6), (0, .ref h_this), (1, .int p0), (2, .int p1), (3, .int p2), (4, .int p3), (5, .int p4)]) hx hb dX9_goesPlans_84 hl (k := 7) rfl (by rw [et36]; rfl) (by decide) rfl (fun ls hl => ?_)
          refine lv_goto (tgt := 24) hx hb dX9_goesPlans_87 rfl ?_
          exact hK2 _ _ _ _ (ih t36 y24 y25 y26 y27 g28 g29 g30 g34 g32 hf) _ _ _ h (lv_sub hl [2, 3, 4, 5, 6, 7, 0] rfl)
  refine lv_iload_n hx hb dX9_goesPlans_0 rfl (lv_at hl 1 rfl) ?_
  refine lv_iload_n hx hb dX9_goesPlans_1 rfl (lv_at hl 2 rfl) ?_
  refine lv_icmp_ne (tgt := 16) hx hb dX9_goesPlans_2 rfl (fun c1 => ?_) (fun c1 => ?_)
  · replace hf := ifn c1 hf
    refine lv_aload_n hx hb dX9_goesPlans_16 rfl (lv_at hl 0 rfl) ?_
    refine lv_iload_n hx hb dX9_goesPlans_17 rfl (lv_at hl 1 rfl) ?_
    replace hf := bd1_inv hf
    obtain ⟨g2, hc3, hf⟩ := hf
    refine r_cvV (ws' := [(h_this, ob 9 [.ref h_this_s, .ref h_this_kept, .ref h_this_laid, .int x_this_isKept, .ref h_this_pile, .ref h_this_tape, .int x_this_taped, .ref h_this_letters, .int x_this_at, .int x_this_begun, .int x_this_token, .int x_this_value, .int x_this_opened, .int x_this_steps, .ref h_this_code0, .ref h_this_read, .ref h_this_saved, .ref h_this_plan, .ref h_this_bestPlan, .int x_this_most, .int x_this_many, .int x_this_few, .int x_this_everHome, .ref h_this_offThen, .ref h_this_paidThen, .int x_this_firstFit, .ref h_this_rows, .int x_this_rowMany, .ref h_this_sorts, .ref h_this_sizes, .ref h_this_number, .ref h_this_holds, .ref h_this_heldOne, .ref h_this_trace, .int x_this_traced, .int x_this_own, .int x_this_isParted]), (h_this_bestPlan, ia G 4 f_this_bestPlan), (h_this_pile, ia G 200 f_this_pile), (h_this_plan, ia G 4 f_this_plan), (h_this_s, ia G 313 f_this_s), (h_this_saved, ia G 325 g2)]) C h (c_X9_saves hc3) mv_X9_278 rfl 0 rfl [0, 4, 5] rfl rfl [5] [(h_this_saved, ia G 325 g2)] rfl rfl (by decide +kernel) rfl hl.1 rfl (Nat.le_of_ble_eq_true rfl) (rok (by omega)) dX9_goesPlans_18 (fun H locs h => ?_)
    refine lv_iconst (v := (0 : Int32)) hx hb dX9_goesPlans_21 rfl ?_
    refine lv_istore (lv' := [(6, .int (0 : Int32)), (0, .ref h_this), (1, .int p0), (2, .int p1), (3, .int p2), (4, .int p3), (5, .int p4)]) hx hb dX9_goesPlans_22 hl (by decide) rfl (fun ls hl => ?_)
    exact hK2 _ _ _ _ (L24 1000 (0 : Int32) x_this_most x_this_many x_this_few x_this_everHome f_this_bestPlan f_this_pile f_this_plan f_this_s g2 hf) _ _ _ h (lv_sub hl [1, 2, 3, 4, 5, 6, 0] rfl)
  · replace hf := ifp c1 hf
    refine lv_aload_n hx hb dX9_goesPlans_5 rfl (lv_at hl 0 rfl) ?_
    refine lv_iload_n hx hb dX9_goesPlans_6 rfl (lv_at hl 2 rfl) ?_
    refine lv_iload_n hx hb dX9_goesPlans_7 rfl (lv_at hl 3 rfl) ?_
    refine lv_iload hx hb dX9_goesPlans_8 (lv_at hl 4 rfl) ?_
    refine lv_iload hx hb dX9_goesPlans_10 (lv_at hl 5 rfl) ?_
    replace hf := bd5_inv hf
    obtain ⟨y37, y38, y39, y40, g41, hc42, hf⟩ := hf
    refine r_cvV (ws' := [(h_this, ob 9 [.ref h_this_s, .ref h_this_kept, .ref h_this_laid, .int x_this_isKept, .ref h_this_pile, .ref h_this_tape, .int x_this_taped, .ref h_this_letters, .int x_this_at, .int x_this_begun, .int x_this_token, .int x_this_value, .int x_this_opened, .int x_this_steps, .ref h_this_code0, .ref h_this_read, .ref h_this_saved, .ref h_this_plan, .ref h_this_bestPlan, .int y37, .int y38, .int y39, .int y40, .ref h_this_offThen, .ref h_this_paidThen, .int x_this_firstFit, .ref h_this_rows, .int x_this_rowMany, .ref h_this_sorts, .ref h_this_sizes, .ref h_this_number, .ref h_this_holds, .ref h_this_heldOne, .ref h_this_trace, .int x_this_traced, .int x_this_own, .int x_this_isParted]), (h_this_bestPlan, ia G 4 g41), (h_this_pile, ia G 200 f_this_pile), (h_this_plan, ia G 4 f_this_plan), (h_this_s, ia G 313 f_this_s), (h_this_saved, ia G 325 f_this_saved)]) C h (c_X9_endsPlan hc42) mv_X9_274 rfl 0 rfl [0, 1, 3, 4] rfl rfl [0, 1] [(h_this, ob 9 [.ref h_this_s, .ref h_this_kept, .ref h_this_laid, .int x_this_isKept, .ref h_this_pile, .ref h_this_tape, .int x_this_taped, .ref h_this_letters, .int x_this_at, .int x_this_begun, .int x_this_token, .int x_this_value, .int x_this_opened, .int x_this_steps, .ref h_this_code0, .ref h_this_read, .ref h_this_saved, .ref h_this_plan, .ref h_this_bestPlan, .int y37, .int y38, .int y39, .int y40, .ref h_this_offThen, .ref h_this_paidThen, .int x_this_firstFit, .ref h_this_rows, .int x_this_rowMany, .ref h_this_sorts, .ref h_this_sizes, .ref h_this_number, .ref h_this_holds, .ref h_this_heldOne, .ref h_this_trace, .int x_this_traced, .int x_this_own, .int x_this_isParted]), (h_this_bestPlan, ia G 4 g41)] rfl rfl (by decide +kernel) rfl hl.1 rfl (Nat.le_of_ble_eq_true rfl) (rok (by omega)) dX9_goesPlans_12 (fun H locs h => ?_)
    obtain ⟨rfl, rfl, rfl, rfl, rfl, rfl, rfl, rfl, rfl⟩ := sm9 hf
    exact r_vret C h hr hlk dX9_goesPlans_15
theorem C_X9_goesPlans {l : Launch} {G : Gt} (d : Nat) : ∀ {h_this h_this_s h_this_kept h_this_laid h_this_pile h_this_tape h_this_letters h_this_code0 h_this_read h_this_saved h_this_plan h_this_bestPlan h_this_offThen h_this_paidThen h_this_rows h_this_sorts h_this_sizes h_this_number h_this_holds h_this_heldOne h_this_trace : Nat} {p0 : Int32} {p1 : Int32} {p2 : Int32} {p3 : Int32} {p4 : Int32} {x_this_isKept : Int32} {x_this_taped : Int32} {x_this_at : Int32} {x_this_begun : Int32} {x_this_token : Int32} {x_this_value : Int32} {x_this_opened : Int32} {x_this_steps : Int32} {x_this_most : Int32} {x_this_many : Int32} {x_this_few : Int32} {x_this_everHome : Int32} {x_this_firstFit : Int32} {x_this_rowMany : Int32} {x_this_traced : Int32} {x_this_own : Int32} {x_this_isParted : Int32} {f_this_bestPlan : Nat → Int32} {f_this_pile : Nat → Int32} {f_this_plan : Nat → Int32} {f_this_s : Nat → Int32} {f_this_saved : Nat → Int32} {m_this_most : Int32} {m_this_many : Int32} {m_this_few : Int32} {m_this_everHome : Int32} {m_this_bestPlan : Nat → Int32} {m_this_pile : Nat → Int32} {m_this_plan : Nat → Int32} {m_this_s : Nat → Int32} {m_this_saved : Nat → Int32} , F_X9_goesPlans d p0 p1 p2 p3 p4 x_this_most x_this_many x_this_few x_this_everHome f_this_bestPlan f_this_pile f_this_plan f_this_s f_this_saved = some (m_this_most, m_this_many, m_this_few, m_this_everHome, m_this_bestPlan, m_this_pile, m_this_plan, m_this_s, m_this_saved) → mFv l G yX9_goesPlans cX9_goesPlans 8 (d * 7) [.ref h_this, .int p0, .int p1, .int p2, .int p3, .int p4] [(h_this, ob 9 [.ref h_this_s, .ref h_this_kept, .ref h_this_laid, .int x_this_isKept, .ref h_this_pile, .ref h_this_tape, .int x_this_taped, .ref h_this_letters, .int x_this_at, .int x_this_begun, .int x_this_token, .int x_this_value, .int x_this_opened, .int x_this_steps, .ref h_this_code0, .ref h_this_read, .ref h_this_saved, .ref h_this_plan, .ref h_this_bestPlan, .int x_this_most, .int x_this_many, .int x_this_few, .int x_this_everHome, .ref h_this_offThen, .ref h_this_paidThen, .int x_this_firstFit, .ref h_this_rows, .int x_this_rowMany, .ref h_this_sorts, .ref h_this_sizes, .ref h_this_number, .ref h_this_holds, .ref h_this_heldOne, .ref h_this_trace, .int x_this_traced, .int x_this_own, .int x_this_isParted]), (h_this_bestPlan, ia G 4 f_this_bestPlan), (h_this_pile, ia G 200 f_this_pile), (h_this_plan, ia G 4 f_this_plan), (h_this_s, ia G 313 f_this_s), (h_this_saved, ia G 325 f_this_saved)] [(h_this, ob 9 [.ref h_this_s, .ref h_this_kept, .ref h_this_laid, .int x_this_isKept, .ref h_this_pile, .ref h_this_tape, .int x_this_taped, .ref h_this_letters, .int x_this_at, .int x_this_begun, .int x_this_token, .int x_this_value, .int x_this_opened, .int x_this_steps, .ref h_this_code0, .ref h_this_read, .ref h_this_saved, .ref h_this_plan, .ref h_this_bestPlan, .int m_this_most, .int m_this_many, .int m_this_few, .int m_this_everHome, .ref h_this_offThen, .ref h_this_paidThen, .int x_this_firstFit, .ref h_this_rows, .int x_this_rowMany, .ref h_this_sorts, .ref h_this_sizes, .ref h_this_number, .ref h_this_holds, .ref h_this_heldOne, .ref h_this_trace, .int x_this_traced, .int x_this_own, .int x_this_isParted]), (h_this_bestPlan, ia G 4 m_this_bestPlan), (h_this_pile, ia G 200 m_this_pile), (h_this_plan, ia G 4 m_this_plan), (h_this_s, ia G 313 m_this_s), (h_this_saved, ia G 325 m_this_saved)] := by
  induction d with
  | zero =>
    intros
    rename_i hf
    replace hf : (none : Option _) = some _ := hf
    cases hf
  | succ d ih =>
    intros
    rename_i hf
    rw [Nat.succ_mul]
    exact c_X9_goesPlans (self := F_X9_goesPlans d) ih hf
set_option maxRecDepth 100000 in
set_option maxHeartbeats 4000000 in
theorem c_X9_triesAll {l : Launch} {G : Gt} {h_this h_this_s h_this_kept h_this_laid h_this_pile h_this_tape h_this_letters h_this_code0 h_this_read h_this_saved h_this_plan h_this_bestPlan h_this_offThen h_this_paidThen h_this_rows h_this_sorts h_this_sizes h_this_number h_this_holds h_this_heldOne h_this_trace : Nat} {p0 : Int32} {p1 : Int32} {x_this_isKept : Int32} {x_this_taped : Int32} {x_this_at : Int32} {x_this_begun : Int32} {x_this_token : Int32} {x_this_value : Int32} {x_this_opened : Int32} {x_this_steps : Int32} {x_this_most : Int32} {x_this_many : Int32} {x_this_few : Int32} {x_this_everHome : Int32} {x_this_firstFit : Int32} {x_this_rowMany : Int32} {x_this_traced : Int32} {x_this_own : Int32} {x_this_isParted : Int32} {f_this_bestPlan : Nat → Int32} {f_this_pile : Nat → Int32} {f_this_plan : Nat → Int32} {f_this_s : Nat → Int32} {f_this_saved : Nat → Int32} {m_this_most : Int32} {m_this_many : Int32} {m_this_few : Int32} {m_this_everHome : Int32} {m_this_bestPlan : Nat → Int32} {m_this_pile : Nat → Int32} {m_this_plan : Nat → Int32} {m_this_s : Nat → Int32} {m_this_saved : Nat → Int32} (hf : f_X9_triesAll p0 p1 f_this_bestPlan f_this_pile f_this_plan f_this_s f_this_saved = some (m_this_most, m_this_many, m_this_few, m_this_everHome, m_this_bestPlan, m_this_pile, m_this_plan, m_this_s, m_this_saved)) : mFv l G yX9_triesAll cX9_triesAll 3 43 [.ref h_this, .int p0, .int p1] [(h_this, ob 9 [.ref h_this_s, .ref h_this_kept, .ref h_this_laid, .int x_this_isKept, .ref h_this_pile, .ref h_this_tape, .int x_this_taped, .ref h_this_letters, .int x_this_at, .int x_this_begun, .int x_this_token, .int x_this_value, .int x_this_opened, .int x_this_steps, .ref h_this_code0, .ref h_this_read, .ref h_this_saved, .ref h_this_plan, .ref h_this_bestPlan, .int x_this_most, .int x_this_many, .int x_this_few, .int x_this_everHome, .ref h_this_offThen, .ref h_this_paidThen, .int x_this_firstFit, .ref h_this_rows, .int x_this_rowMany, .ref h_this_sorts, .ref h_this_sizes, .ref h_this_number, .ref h_this_holds, .ref h_this_heldOne, .ref h_this_trace, .int x_this_traced, .int x_this_own, .int x_this_isParted]), (h_this_bestPlan, ia G 4 f_this_bestPlan), (h_this_pile, ia G 200 f_this_pile), (h_this_plan, ia G 4 f_this_plan), (h_this_s, ia G 313 f_this_s), (h_this_saved, ia G 325 f_this_saved)] [(h_this, ob 9 [.ref h_this_s, .ref h_this_kept, .ref h_this_laid, .int x_this_isKept, .ref h_this_pile, .ref h_this_tape, .int x_this_taped, .ref h_this_letters, .int x_this_at, .int x_this_begun, .int x_this_token, .int x_this_value, .int x_this_opened, .int x_this_steps, .ref h_this_code0, .ref h_this_read, .ref h_this_saved, .ref h_this_plan, .ref h_this_bestPlan, .int m_this_most, .int m_this_many, .int m_this_few, .int m_this_everHome, .ref h_this_offThen, .ref h_this_paidThen, .int x_this_firstFit, .ref h_this_rows, .int x_this_rowMany, .ref h_this_sorts, .ref h_this_sizes, .ref h_this_number, .ref h_this_holds, .ref h_this_heldOne, .ref h_this_trace, .int x_this_traced, .int x_this_own, .int x_this_isParted]), (h_this_bestPlan, ia G 4 m_this_bestPlan), (h_this_pile, ia G 200 m_this_pile), (h_this_plan, ia G 4 m_this_plan), (h_this_s, ia G 313 m_this_s), (h_this_saved, ia G 325 m_this_saved)] := by
  refine mFv.of (by decide +kernel) (Nat.le_of_ble_eq_true rfl) ?_
  intro p e s m below meth c A C hr hlk h ls hl
  obtain ⟨hx, hb, hml, hown, hts⟩ := id C
  replace hl : lv_has ls 3 [(0, .ref h_this), (1, .int p0), (2, .int p1)] := hl
  unfold f_X9_triesAll at hf
  refine lv_aload_n hx hb dX9_triesAll_0 rfl (lv_at hl 0 rfl) ?_
  refine lv_iconst (v := (-1 : Int32)) hx hb dX9_triesAll_1 rfl ?_
  refine r_put (ws' := [(h_this, ob 9 [.ref h_this_s, .ref h_this_kept, .ref h_this_laid, .int x_this_isKept, .ref h_this_pile, .ref h_this_tape, .int x_this_taped, .ref h_this_letters, .int x_this_at, .int x_this_begun, .int x_this_token, .int x_this_value, .int x_this_opened, .int x_this_steps, .ref h_this_code0, .ref h_this_read, .ref h_this_saved, .ref h_this_plan, .ref h_this_bestPlan, .int (-1 : Int32), .int x_this_many, .int x_this_few, .int x_this_everHome, .ref h_this_offThen, .ref h_this_paidThen, .int x_this_firstFit, .ref h_this_rows, .int x_this_rowMany, .ref h_this_sorts, .ref h_this_sizes, .ref h_this_number, .ref h_this_holds, .ref h_this_heldOne, .ref h_this_trace, .int x_this_traced, .int x_this_own, .int x_this_isParted]), (h_this_bestPlan, ia G 4 f_this_bestPlan), (h_this_pile, ia G 200 f_this_pile), (h_this_plan, ia G 4 f_this_plan), (h_this_s, ia G 313 f_this_s), (h_this_saved, ia G 325 f_this_saved)]) C h fw_X9_262 0 rfl rfl rfl (Nat.le_of_ble_eq_true rfl) dX9_triesAll_2 rfl (fun H locs h => ?_)
  refine lv_aload_n hx hb dX9_triesAll_5 rfl (lv_at hl 0 rfl) ?_
  refine lv_iconst (v := (0 : Int32)) hx hb dX9_triesAll_6 rfl ?_
  refine r_put (ws' := [(h_this, ob 9 [.ref h_this_s, .ref h_this_kept, .ref h_this_laid, .int x_this_isKept, .ref h_this_pile, .ref h_this_tape, .int x_this_taped, .ref h_this_letters, .int x_this_at, .int x_this_begun, .int x_this_token, .int x_this_value, .int x_this_opened, .int x_this_steps, .ref h_this_code0, .ref h_this_read, .ref h_this_saved, .ref h_this_plan, .ref h_this_bestPlan, .int (-1 : Int32), .int (0 : Int32), .int x_this_few, .int x_this_everHome, .ref h_this_offThen, .ref h_this_paidThen, .int x_this_firstFit, .ref h_this_rows, .int x_this_rowMany, .ref h_this_sorts, .ref h_this_sizes, .ref h_this_number, .ref h_this_holds, .ref h_this_heldOne, .ref h_this_trace, .int x_this_traced, .int x_this_own, .int x_this_isParted]), (h_this_bestPlan, ia G 4 f_this_bestPlan), (h_this_pile, ia G 200 f_this_pile), (h_this_plan, ia G 4 f_this_plan), (h_this_s, ia G 313 f_this_s), (h_this_saved, ia G 325 f_this_saved)]) C h fw_X9_265 0 rfl rfl rfl (Nat.le_of_ble_eq_true rfl) dX9_triesAll_7 rfl (fun H locs h => ?_)
  refine lv_aload_n hx hb dX9_triesAll_10 rfl (lv_at hl 0 rfl) ?_
  refine lv_iconst (v := (5 : Int32)) hx hb dX9_triesAll_11 rfl ?_
  refine r_put (ws' := [(h_this, ob 9 [.ref h_this_s, .ref h_this_kept, .ref h_this_laid, .int x_this_isKept, .ref h_this_pile, .ref h_this_tape, .int x_this_taped, .ref h_this_letters, .int x_this_at, .int x_this_begun, .int x_this_token, .int x_this_value, .int x_this_opened, .int x_this_steps, .ref h_this_code0, .ref h_this_read, .ref h_this_saved, .ref h_this_plan, .ref h_this_bestPlan, .int (-1 : Int32), .int (0 : Int32), .int (5 : Int32), .int x_this_everHome, .ref h_this_offThen, .ref h_this_paidThen, .int x_this_firstFit, .ref h_this_rows, .int x_this_rowMany, .ref h_this_sorts, .ref h_this_sizes, .ref h_this_number, .ref h_this_holds, .ref h_this_heldOne, .ref h_this_trace, .int x_this_traced, .int x_this_own, .int x_this_isParted]), (h_this_bestPlan, ia G 4 f_this_bestPlan), (h_this_pile, ia G 200 f_this_pile), (h_this_plan, ia G 4 f_this_plan), (h_this_s, ia G 313 f_this_s), (h_this_saved, ia G 325 f_this_saved)]) C h fw_X9_268 0 rfl rfl rfl (Nat.le_of_ble_eq_true rfl) dX9_triesAll_12 rfl (fun H locs h => ?_)
  refine lv_aload_n hx hb dX9_triesAll_15 rfl (lv_at hl 0 rfl) ?_
  refine lv_iconst (v := (0 : Int32)) hx hb dX9_triesAll_16 rfl ?_
  refine r_put (ws' := [(h_this, ob 9 [.ref h_this_s, .ref h_this_kept, .ref h_this_laid, .int x_this_isKept, .ref h_this_pile, .ref h_this_tape, .int x_this_taped, .ref h_this_letters, .int x_this_at, .int x_this_begun, .int x_this_token, .int x_this_value, .int x_this_opened, .int x_this_steps, .ref h_this_code0, .ref h_this_read, .ref h_this_saved, .ref h_this_plan, .ref h_this_bestPlan, .int (-1 : Int32), .int (0 : Int32), .int (5 : Int32), .int (0 : Int32), .ref h_this_offThen, .ref h_this_paidThen, .int x_this_firstFit, .ref h_this_rows, .int x_this_rowMany, .ref h_this_sorts, .ref h_this_sizes, .ref h_this_number, .ref h_this_holds, .ref h_this_heldOne, .ref h_this_trace, .int x_this_traced, .int x_this_own, .int x_this_isParted]), (h_this_bestPlan, ia G 4 f_this_bestPlan), (h_this_pile, ia G 200 f_this_pile), (h_this_plan, ia G 4 f_this_plan), (h_this_s, ia G 313 f_this_s), (h_this_saved, ia G 325 f_this_saved)]) C h fw_X9_271 0 rfl rfl rfl (Nat.le_of_ble_eq_true rfl) dX9_triesAll_17 rfl (fun H locs h => ?_)
  refine lv_aload_n hx hb dX9_triesAll_20 rfl (lv_at hl 0 rfl) ?_
  refine lv_iconst (v := (0 : Int32)) hx hb dX9_triesAll_21 rfl ?_
  refine lv_aload_n hx hb dX9_triesAll_22 rfl (lv_at hl 0 rfl) ?_
  refine lv_iload_n hx hb dX9_triesAll_23 rfl (lv_at hl 1 rfl) ?_
  replace hf := bd1_inv hf
  obtain ⟨r1, hc2, hf⟩ := hf
  refine r_ciV0 C h (c_X9_daysOf hc2) mv_X9_288 rfl 0 rfl [0, 4] rfl rfl hl.1 rfl (Nat.le_of_ble_eq_true rfl) (rok (by decide)) dX9_triesAll_24 (fun H locs h => ?_)
  refine lv_iconst (v := (0 : Int32)) hx hb dX9_triesAll_27 rfl ?_
  refine lv_iconst (v := (0 : Int32)) hx hb dX9_triesAll_28 rfl ?_
  refine lv_iload_n hx hb dX9_triesAll_29 rfl (lv_at hl 2 rfl) ?_
  replace hf := bd9_inv hf
  obtain ⟨y3, y4, y5, y6, g7, g8, g9, g10, g11, hc12, hf⟩ := hf
  refine r_cvV (ws' := [(h_this, ob 9 [.ref h_this_s, .ref h_this_kept, .ref h_this_laid, .int x_this_isKept, .ref h_this_pile, .ref h_this_tape, .int x_this_taped, .ref h_this_letters, .int x_this_at, .int x_this_begun, .int x_this_token, .int x_this_value, .int x_this_opened, .int x_this_steps, .ref h_this_code0, .ref h_this_read, .ref h_this_saved, .ref h_this_plan, .ref h_this_bestPlan, .int y3, .int y4, .int y5, .int y6, .ref h_this_offThen, .ref h_this_paidThen, .int x_this_firstFit, .ref h_this_rows, .int x_this_rowMany, .ref h_this_sorts, .ref h_this_sizes, .ref h_this_number, .ref h_this_holds, .ref h_this_heldOne, .ref h_this_trace, .int x_this_traced, .int x_this_own, .int x_this_isParted]), (h_this_bestPlan, ia G 4 g7), (h_this_pile, ia G 200 g8), (h_this_plan, ia G 4 g9), (h_this_s, ia G 313 g10), (h_this_saved, ia G 325 g11)]) C h (C_X9_goesPlans 6 hc12) mv_X9_281 rfl 0 rfl [0, 1, 2, 3, 4, 5] rfl rfl [0, 1, 2, 3, 4, 5] [(h_this, ob 9 [.ref h_this_s, .ref h_this_kept, .ref h_this_laid, .int x_this_isKept, .ref h_this_pile, .ref h_this_tape, .int x_this_taped, .ref h_this_letters, .int x_this_at, .int x_this_begun, .int x_this_token, .int x_this_value, .int x_this_opened, .int x_this_steps, .ref h_this_code0, .ref h_this_read, .ref h_this_saved, .ref h_this_plan, .ref h_this_bestPlan, .int y3, .int y4, .int y5, .int y6, .ref h_this_offThen, .ref h_this_paidThen, .int x_this_firstFit, .ref h_this_rows, .int x_this_rowMany, .ref h_this_sorts, .ref h_this_sizes, .ref h_this_number, .ref h_this_holds, .ref h_this_heldOne, .ref h_this_trace, .int x_this_traced, .int x_this_own, .int x_this_isParted]), (h_this_bestPlan, ia G 4 g7), (h_this_pile, ia G 200 g8), (h_this_plan, ia G 4 g9), (h_this_s, ia G 313 g10), (h_this_saved, ia G 325 g11)] rfl rfl (by decide +kernel) rfl hl.1 rfl (Nat.le_of_ble_eq_true rfl) (rok (by decide)) dX9_triesAll_30 (fun H locs h => ?_)
  obtain ⟨rfl, rfl, rfl, rfl, rfl, rfl, rfl, rfl, rfl⟩ := sm9 hf
  exact r_vret C h hr hlk dX9_triesAll_33
set_option maxRecDepth 100000 in
set_option maxHeartbeats 4000000 in
theorem c_X9_best {l : Launch} {G : Gt} {h_this h_this_s h_this_kept h_this_laid h_this_pile h_this_tape h_this_letters h_this_code0 h_this_read h_this_saved h_this_plan h_this_bestPlan h_this_offThen h_this_paidThen h_this_rows h_this_sorts h_this_sizes h_this_number h_this_holds h_this_heldOne h_this_trace : Nat} {p0 : Int32} {x_this_isKept : Int32} {x_this_taped : Int32} {x_this_at : Int32} {x_this_begun : Int32} {x_this_token : Int32} {x_this_value : Int32} {x_this_opened : Int32} {x_this_steps : Int32} {x_this_most : Int32} {x_this_many : Int32} {x_this_few : Int32} {x_this_everHome : Int32} {x_this_firstFit : Int32} {x_this_rowMany : Int32} {x_this_traced : Int32} {x_this_own : Int32} {x_this_isParted : Int32} {f_this_bestPlan : Nat → Int32} {f_this_pile : Nat → Int32} {f_this_plan : Nat → Int32} {f_this_s : Nat → Int32} {f_this_saved : Nat → Int32} {r : Int32} {m_this_most : Int32} {m_this_many : Int32} {m_this_few : Int32} {m_this_everHome : Int32} {m_this_bestPlan : Nat → Int32} {m_this_pile : Nat → Int32} {m_this_plan : Nat → Int32} {m_this_s : Nat → Int32} {m_this_saved : Nat → Int32} (hf : f_X9_best p0 x_this_most x_this_many x_this_few x_this_everHome f_this_bestPlan f_this_pile f_this_plan f_this_s f_this_saved = some (r, m_this_most, m_this_many, m_this_few, m_this_everHome, m_this_bestPlan, m_this_pile, m_this_plan, m_this_s, m_this_saved)) : mFi l G yX9_best cX9_best 2 .int 44 [.ref h_this, .int p0] [(h_this, ob 9 [.ref h_this_s, .ref h_this_kept, .ref h_this_laid, .int x_this_isKept, .ref h_this_pile, .ref h_this_tape, .int x_this_taped, .ref h_this_letters, .int x_this_at, .int x_this_begun, .int x_this_token, .int x_this_value, .int x_this_opened, .int x_this_steps, .ref h_this_code0, .ref h_this_read, .ref h_this_saved, .ref h_this_plan, .ref h_this_bestPlan, .int x_this_most, .int x_this_many, .int x_this_few, .int x_this_everHome, .ref h_this_offThen, .ref h_this_paidThen, .int x_this_firstFit, .ref h_this_rows, .int x_this_rowMany, .ref h_this_sorts, .ref h_this_sizes, .ref h_this_number, .ref h_this_holds, .ref h_this_heldOne, .ref h_this_trace, .int x_this_traced, .int x_this_own, .int x_this_isParted]), (h_this_bestPlan, ia G 4 f_this_bestPlan), (h_this_pile, ia G 200 f_this_pile), (h_this_plan, ia G 4 f_this_plan), (h_this_s, ia G 313 f_this_s), (h_this_saved, ia G 325 f_this_saved)] r [(h_this, ob 9 [.ref h_this_s, .ref h_this_kept, .ref h_this_laid, .int x_this_isKept, .ref h_this_pile, .ref h_this_tape, .int x_this_taped, .ref h_this_letters, .int x_this_at, .int x_this_begun, .int x_this_token, .int x_this_value, .int x_this_opened, .int x_this_steps, .ref h_this_code0, .ref h_this_read, .ref h_this_saved, .ref h_this_plan, .ref h_this_bestPlan, .int m_this_most, .int m_this_many, .int m_this_few, .int m_this_everHome, .ref h_this_offThen, .ref h_this_paidThen, .int x_this_firstFit, .ref h_this_rows, .int x_this_rowMany, .ref h_this_sorts, .ref h_this_sizes, .ref h_this_number, .ref h_this_holds, .ref h_this_heldOne, .ref h_this_trace, .int x_this_traced, .int x_this_own, .int x_this_isParted]), (h_this_bestPlan, ia G 4 m_this_bestPlan), (h_this_pile, ia G 200 m_this_pile), (h_this_plan, ia G 4 m_this_plan), (h_this_s, ia G 313 m_this_s), (h_this_saved, ia G 325 m_this_saved)] := by
  refine mFi.of (by decide +kernel) (Nat.le_of_ble_eq_true rfl) ?_
  intro p e s m below meth c A C hr hlk h ls hl
  obtain ⟨hx, hb, hml, hown, hts⟩ := id C
  replace hl : lv_has ls 2 [(0, .ref h_this), (1, .int p0)] := hl
  unfold f_X9_best at hf
  refine lv_iload_n hx hb dX9_best_0 rfl (lv_at hl 1 rfl) ?_
  replace hf := bd1_inv hf
  obtain ⟨r1, hc2, hf⟩ := hf
  refine r_ciS0 C h (c_X9_isPlan hc2) ms_X9_291 rfl [] rfl rfl hl.1 rfl (Nat.le_of_ble_eq_true rfl) (rok (by decide)) dX9_best_1 (fun H locs h => ?_)
  refine lv_if_ne (tgt := 9) hx hb dX9_best_4 rfl (fun c3 => ?_) (fun c3 => ?_)
  · replace hf := ifn c3 hf
    refine lv_aload_n hx hb dX9_best_9 rfl (lv_at hl 0 rfl) ?_
    refine lv_iload_n hx hb dX9_best_10 rfl (lv_at hl 1 rfl) ?_
    refine lv_iconst (v := (0 : Int32)) hx hb dX9_best_11 rfl ?_
    replace hf := bd9_inv hf
    obtain ⟨y4, y5, y6, y7, g8, g9, g10, g11, g12, hc13, hf⟩ := hf
    refine r_cvV (ws' := [(h_this, ob 9 [.ref h_this_s, .ref h_this_kept, .ref h_this_laid, .int x_this_isKept, .ref h_this_pile, .ref h_this_tape, .int x_this_taped, .ref h_this_letters, .int x_this_at, .int x_this_begun, .int x_this_token, .int x_this_value, .int x_this_opened, .int x_this_steps, .ref h_this_code0, .ref h_this_read, .ref h_this_saved, .ref h_this_plan, .ref h_this_bestPlan, .int y4, .int y5, .int y6, .int y7, .ref h_this_offThen, .ref h_this_paidThen, .int x_this_firstFit, .ref h_this_rows, .int x_this_rowMany, .ref h_this_sorts, .ref h_this_sizes, .ref h_this_number, .ref h_this_holds, .ref h_this_heldOne, .ref h_this_trace, .int x_this_traced, .int x_this_own, .int x_this_isParted]), (h_this_bestPlan, ia G 4 g8), (h_this_pile, ia G 200 g9), (h_this_plan, ia G 4 g10), (h_this_s, ia G 313 g11), (h_this_saved, ia G 325 g12)]) C h (c_X9_triesAll hc13) mv_X9_294 rfl 0 rfl [0, 1, 2, 3, 4, 5] rfl rfl [0, 1, 2, 3, 4, 5] [(h_this, ob 9 [.ref h_this_s, .ref h_this_kept, .ref h_this_laid, .int x_this_isKept, .ref h_this_pile, .ref h_this_tape, .int x_this_taped, .ref h_this_letters, .int x_this_at, .int x_this_begun, .int x_this_token, .int x_this_value, .int x_this_opened, .int x_this_steps, .ref h_this_code0, .ref h_this_read, .ref h_this_saved, .ref h_this_plan, .ref h_this_bestPlan, .int y4, .int y5, .int y6, .int y7, .ref h_this_offThen, .ref h_this_paidThen, .int x_this_firstFit, .ref h_this_rows, .int x_this_rowMany, .ref h_this_sorts, .ref h_this_sizes, .ref h_this_number, .ref h_this_holds, .ref h_this_heldOne, .ref h_this_trace, .int x_this_traced, .int x_this_own, .int x_this_isParted]), (h_this_bestPlan, ia G 4 g8), (h_this_pile, ia G 200 g9), (h_this_plan, ia G 4 g10), (h_this_s, ia G 313 g11), (h_this_saved, ia G 325 g12)] rfl rfl (by decide +kernel) rfl hl.1 rfl (Nat.le_of_ble_eq_true rfl) (rok (by decide)) dX9_best_12 (fun H locs h => ?_)
    refine lv_aload_n hx hb dX9_best_15 rfl (lv_at hl 0 rfl) ?_
    refine r_get C h fk_X9_262 0 rfl rfl dX9_best_16 ?_
    obtain ⟨rfl, rfl, rfl, rfl, rfl, rfl, rfl, rfl, rfl, rfl⟩ := sm10 hf
    exact r_iret C h hr hlk rfl dX9_best_19
  · replace hf := ifp c3 hf
    refine lv_iconst (v := (-1 : Int32)) hx hb dX9_best_7 rfl ?_
    obtain ⟨rfl, rfl, rfl, rfl, rfl, rfl, rfl, rfl, rfl, rfl⟩ := sm10 hf
    exact r_iret C h hr hlk rfl dX9_best_8
set_option maxRecDepth 100000 in
set_option maxHeartbeats 4000000 in
theorem c_X9_ith {l : Launch} {G : Gt} {h_this h_this_s h_this_kept h_this_laid h_this_pile h_this_tape h_this_letters h_this_code0 h_this_read h_this_saved h_this_plan h_this_bestPlan h_this_offThen h_this_paidThen h_this_rows h_this_sorts h_this_sizes h_this_number h_this_holds h_this_heldOne h_this_trace : Nat} {p0 : Int32} {p1 : Int32} {x_this_isKept : Int32} {x_this_taped : Int32} {x_this_at : Int32} {x_this_begun : Int32} {x_this_token : Int32} {x_this_value : Int32} {x_this_opened : Int32} {x_this_steps : Int32} {x_this_most : Int32} {x_this_many : Int32} {x_this_few : Int32} {x_this_everHome : Int32} {x_this_firstFit : Int32} {x_this_rowMany : Int32} {x_this_traced : Int32} {x_this_own : Int32} {x_this_isParted : Int32} {f_this_bestPlan : Nat → Int32} {f_this_pile : Nat → Int32} {f_this_plan : Nat → Int32} {f_this_s : Nat → Int32} {f_this_saved : Nat → Int32} {r : Int32} {m_this_most : Int32} {m_this_many : Int32} {m_this_few : Int32} {m_this_everHome : Int32} {m_this_bestPlan : Nat → Int32} {m_this_pile : Nat → Int32} {m_this_plan : Nat → Int32} {m_this_s : Nat → Int32} {m_this_saved : Nat → Int32} (hf : f_X9_ith p0 p1 x_this_most x_this_many x_this_few x_this_everHome f_this_bestPlan f_this_pile f_this_plan f_this_s f_this_saved = some (r, m_this_most, m_this_many, m_this_few, m_this_everHome, m_this_bestPlan, m_this_pile, m_this_plan, m_this_s, m_this_saved)) : mFi l G yX9_ith cX9_ith 3 .int 44 [.ref h_this, .int p0, .int p1] [(h_this, ob 9 [.ref h_this_s, .ref h_this_kept, .ref h_this_laid, .int x_this_isKept, .ref h_this_pile, .ref h_this_tape, .int x_this_taped, .ref h_this_letters, .int x_this_at, .int x_this_begun, .int x_this_token, .int x_this_value, .int x_this_opened, .int x_this_steps, .ref h_this_code0, .ref h_this_read, .ref h_this_saved, .ref h_this_plan, .ref h_this_bestPlan, .int x_this_most, .int x_this_many, .int x_this_few, .int x_this_everHome, .ref h_this_offThen, .ref h_this_paidThen, .int x_this_firstFit, .ref h_this_rows, .int x_this_rowMany, .ref h_this_sorts, .ref h_this_sizes, .ref h_this_number, .ref h_this_holds, .ref h_this_heldOne, .ref h_this_trace, .int x_this_traced, .int x_this_own, .int x_this_isParted]), (h_this_bestPlan, ia G 4 f_this_bestPlan), (h_this_pile, ia G 200 f_this_pile), (h_this_plan, ia G 4 f_this_plan), (h_this_s, ia G 313 f_this_s), (h_this_saved, ia G 325 f_this_saved)] r [(h_this, ob 9 [.ref h_this_s, .ref h_this_kept, .ref h_this_laid, .int x_this_isKept, .ref h_this_pile, .ref h_this_tape, .int x_this_taped, .ref h_this_letters, .int x_this_at, .int x_this_begun, .int x_this_token, .int x_this_value, .int x_this_opened, .int x_this_steps, .ref h_this_code0, .ref h_this_read, .ref h_this_saved, .ref h_this_plan, .ref h_this_bestPlan, .int m_this_most, .int m_this_many, .int m_this_few, .int m_this_everHome, .ref h_this_offThen, .ref h_this_paidThen, .int x_this_firstFit, .ref h_this_rows, .int x_this_rowMany, .ref h_this_sorts, .ref h_this_sizes, .ref h_this_number, .ref h_this_holds, .ref h_this_heldOne, .ref h_this_trace, .int x_this_traced, .int x_this_own, .int x_this_isParted]), (h_this_bestPlan, ia G 4 m_this_bestPlan), (h_this_pile, ia G 200 m_this_pile), (h_this_plan, ia G 4 m_this_plan), (h_this_s, ia G 313 m_this_s), (h_this_saved, ia G 325 m_this_saved)] := by
  refine mFi.of (by decide +kernel) (Nat.le_of_ble_eq_true rfl) ?_
  intro p e s m below meth c A C hr hlk h ls hl
  obtain ⟨hx, hb, hml, hown, hts⟩ := id C
  replace hl : lv_has ls 3 [(0, .ref h_this), (1, .int p0), (2, .int p1)] := hl
  unfold f_X9_ith at hf
  refine lv_iload_n hx hb dX9_ith_0 rfl (lv_at hl 1 rfl) ?_
  replace hf := bd1_inv hf
  obtain ⟨r1, hc2, hf⟩ := hf
  refine r_ciS0 C h (c_X9_isPlan hc2) ms_X9_291 rfl [] rfl rfl hl.1 rfl (Nat.le_of_ble_eq_true rfl) (rok (by decide)) dX9_ith_1 (fun H locs h => ?_)
  refine lv_if_eq (tgt := 16) hx hb dX9_ith_4 rfl (fun c3 => ?_) (fun c3 => ?_)
  · replace hf := ifp c3 hf
    refine lv_iconst (v := (-1 : Int32)) hx hb dX9_ith_16 rfl ?_
    obtain ⟨rfl, rfl, rfl, rfl, rfl, rfl, rfl, rfl, rfl, rfl⟩ := sm10 hf
    exact r_iret C h hr hlk rfl dX9_ith_17
  · replace hf := ifn c3 hf
    refine lv_iload_n hx hb dX9_ith_7 rfl (lv_at hl 2 rfl) ?_
    refine lv_iconst (v := (0 : Int32)) hx hb dX9_ith_8 rfl ?_
    refine lv_iconst (v := (3 : Int32)) hx hb dX9_ith_9 rfl ?_
    replace hf := bd1_inv hf
    obtain ⟨r4, hc5, hf⟩ := hf
    refine r_ciS0 C h (c_X9_in1 hc5) ms_X9_71 rfl [] rfl rfl hl.1 rfl (Nat.le_of_ble_eq_true rfl) (rok (by decide)) dX9_ith_10 (fun H locs h => ?_)
    refine lv_if_ne (tgt := 18) hx hb dX9_ith_13 rfl (fun c6 => ?_) (fun c6 => ?_)
    · replace hf := ifn c6 hf
      refine lv_aload_n hx hb dX9_ith_18 rfl (lv_at hl 0 rfl) ?_
      refine lv_iload_n hx hb dX9_ith_19 rfl (lv_at hl 1 rfl) ?_
      refine lv_iconst (v := (0 : Int32)) hx hb dX9_ith_20 rfl ?_
      replace hf := bd9_inv hf
      obtain ⟨y7, y8, y9, y10, g11, g12, g13, g14, g15, hc16, hf⟩ := hf
      refine r_cvV (ws' := [(h_this, ob 9 [.ref h_this_s, .ref h_this_kept, .ref h_this_laid, .int x_this_isKept, .ref h_this_pile, .ref h_this_tape, .int x_this_taped, .ref h_this_letters, .int x_this_at, .int x_this_begun, .int x_this_token, .int x_this_value, .int x_this_opened, .int x_this_steps, .ref h_this_code0, .ref h_this_read, .ref h_this_saved, .ref h_this_plan, .ref h_this_bestPlan, .int y7, .int y8, .int y9, .int y10, .ref h_this_offThen, .ref h_this_paidThen, .int x_this_firstFit, .ref h_this_rows, .int x_this_rowMany, .ref h_this_sorts, .ref h_this_sizes, .ref h_this_number, .ref h_this_holds, .ref h_this_heldOne, .ref h_this_trace, .int x_this_traced, .int x_this_own, .int x_this_isParted]), (h_this_bestPlan, ia G 4 g11), (h_this_pile, ia G 200 g12), (h_this_plan, ia G 4 g13), (h_this_s, ia G 313 g14), (h_this_saved, ia G 325 g15)]) C h (c_X9_triesAll hc16) mv_X9_294 rfl 0 rfl [0, 1, 2, 3, 4, 5] rfl rfl [0, 1, 2, 3, 4, 5] [(h_this, ob 9 [.ref h_this_s, .ref h_this_kept, .ref h_this_laid, .int x_this_isKept, .ref h_this_pile, .ref h_this_tape, .int x_this_taped, .ref h_this_letters, .int x_this_at, .int x_this_begun, .int x_this_token, .int x_this_value, .int x_this_opened, .int x_this_steps, .ref h_this_code0, .ref h_this_read, .ref h_this_saved, .ref h_this_plan, .ref h_this_bestPlan, .int y7, .int y8, .int y9, .int y10, .ref h_this_offThen, .ref h_this_paidThen, .int x_this_firstFit, .ref h_this_rows, .int x_this_rowMany, .ref h_this_sorts, .ref h_this_sizes, .ref h_this_number, .ref h_this_holds, .ref h_this_heldOne, .ref h_this_trace, .int x_this_traced, .int x_this_own, .int x_this_isParted]), (h_this_bestPlan, ia G 4 g11), (h_this_pile, ia G 200 g12), (h_this_plan, ia G 4 g13), (h_this_s, ia G 313 g14), (h_this_saved, ia G 325 g15)] rfl rfl (by decide +kernel) rfl hl.1 rfl (Nat.le_of_ble_eq_true rfl) (rok (by decide)) dX9_ith_21 (fun H locs h => ?_)
      refine lv_iload_n hx hb dX9_ith_24 rfl (lv_at hl 2 rfl) ?_
      refine lv_aload_n hx hb dX9_ith_25 rfl (lv_at hl 0 rfl) ?_
      refine lv_iload_n hx hb dX9_ith_26 rfl (lv_at hl 1 rfl) ?_
      replace hf := bd1_inv hf
      obtain ⟨r17, hc18, hf⟩ := hf
      refine r_ciV0 C h (c_X9_daysOf hc18) mv_X9_288 rfl 0 rfl [0, 4] rfl rfl hl.1 rfl (Nat.le_of_ble_eq_true rfl) (rok (by decide)) dX9_ith_27 (fun H locs h => ?_)
      refine lv_icmp_ge (tgt := 42) hx hb dX9_ith_30 rfl (fun c19 => ?_) (fun c19 => ?_)
      · replace hf := ifp c19 hf
        refine lv_bipush (v := (-3 : Int32)) hx hb dX9_ith_42 rfl ?_
        obtain ⟨rfl, rfl, rfl, rfl, rfl, rfl, rfl, rfl, rfl, rfl⟩ := sm10 hf
        exact r_iret C h hr hlk rfl dX9_ith_44
      · replace hf := ifn c19 hf
        refine lv_aload_n hx hb dX9_ith_33 rfl (lv_at hl 0 rfl) ?_
        refine r_get C h fk_X9_41 0 rfl rfl dX9_ith_34 ?_
        refine lv_iload_n hx hb dX9_ith_37 rfl (lv_at hl 2 rfl) ?_
        replace hf := chkI_inv hf
        obtain ⟨hi20, hf⟩ := hf
        refine r_iald C h 1 rfl hi20 dX9_ith_38 ?_
        refine lv_goto (tgt := 44) hx hb dX9_ith_39 rfl ?_
        obtain ⟨rfl, rfl, rfl, rfl, rfl, rfl, rfl, rfl, rfl, rfl⟩ := sm10 hf
        exact r_iret C h hr hlk rfl dX9_ith_44
    · replace hf := ifp c6 hf
      refine lv_iconst (v := (-1 : Int32)) hx hb dX9_ith_16 rfl ?_
      obtain ⟨rfl, rfl, rfl, rfl, rfl, rfl, rfl, rfl, rfl, rfl⟩ := sm10 hf
      exact r_iret C h hr hlk rfl dX9_ith_17
