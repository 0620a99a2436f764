set_option maxRecDepth 100000 in
set_option maxHeartbeats 4000000 in
theorem c_X9_endsPlan {l : Launch} {G : Gt} {h_this h_this_s h_this_kept h_this_laid h_this_pile h_this_tape h_this_letters h_this_code0 h_this_read h_this_saved h_this_plan h_this_bestPlan h_this_offThen h_this_paidThen h_this_rows h_this_sorts h_this_sizes h_this_number h_this_holds h_this_heldOne h_this_trace : Nat} {p0 : Int32} {p1 : Int32} {p2 : Int32} {p3 : Int32} {x_this_isKept : Int32} {x_this_taped : Int32} {x_this_at : Int32} {x_this_begun : Int32} {x_this_token : Int32} {x_this_value : Int32} {x_this_opened : Int32} {x_this_steps : Int32} {x_this_most : Int32} {x_this_many : Int32} {x_this_few : Int32} {x_this_everHome : Int32} {x_this_firstFit : Int32} {x_this_rowMany : Int32} {x_this_traced : Int32} {x_this_own : Int32} {x_this_isParted : Int32} {f_this_bestPlan : Nat → Int32} {f_this_plan : Nat → Int32} {f_this_s : Nat → Int32} {m_this_most : Int32} {m_this_many : Int32} {m_this_few : Int32} {m_this_everHome : Int32} {m_this_bestPlan : Nat → Int32} (hf : f_X9_endsPlan p0 p1 p2 p3 x_this_most x_this_many x_this_few x_this_everHome f_this_bestPlan f_this_plan f_this_s = some (m_this_most, m_this_many, m_this_few, m_this_everHome, m_this_bestPlan)) : mFv l G yX9_endsPlan cX9_endsPlan 6 2 [.ref h_this, .int p0, .int p1, .int p2, .int p3] [(h_this, ob 9 [.ref h_this_s, .ref h_this_kept, .ref h_this_laid, .int x_this_isKept, .ref h_this_pile, .ref h_this_tape, .int x_this_taped, .ref h_this_letters, .int x_this_at, .int x_this_begun, .int x_this_token, .int x_this_value, .int x_this_opened, .int x_this_steps, .ref h_this_code0, .ref h_this_read, .ref h_this_saved, .ref h_this_plan, .ref h_this_bestPlan, .int x_this_most, .int x_this_many, .int x_this_few, .int x_this_everHome, .ref h_this_offThen, .ref h_this_paidThen, .int x_this_firstFit, .ref h_this_rows, .int x_this_rowMany, .ref h_this_sorts, .ref h_this_sizes, .ref h_this_number, .ref h_this_holds, .ref h_this_heldOne, .ref h_this_trace, .int x_this_traced, .int x_this_own, .int x_this_isParted]), (h_this_bestPlan, ia G 4 f_this_bestPlan), (h_this_plan, ia G 4 f_this_plan), (h_this_s, ia G 313 f_this_s)] [(h_this, ob 9 [.ref h_this_s, .ref h_this_kept, .ref h_this_laid, .int x_this_isKept, .ref h_this_pile, .ref h_this_tape, .int x_this_taped, .ref h_this_letters, .int x_this_at, .int x_this_begun, .int x_this_token, .int x_this_value, .int x_this_opened, .int x_this_steps, .ref h_this_code0, .ref h_this_read, .ref h_this_saved, .ref h_this_plan, .ref h_this_bestPlan, .int m_this_most, .int m_this_many, .int m_this_few, .int m_this_everHome, .ref h_this_offThen, .ref h_this_paidThen, .int x_this_firstFit, .ref h_this_rows, .int x_this_rowMany, .ref h_this_sorts, .ref h_this_sizes, .ref h_this_number, .ref h_this_holds, .ref h_this_heldOne, .ref h_this_trace, .int x_this_traced, .int x_this_own, .int x_this_isParted]), (h_this_bestPlan, ia G 4 m_this_bestPlan), (h_this_plan, ia G 4 f_this_plan), (h_this_s, ia G 313 f_this_s)] := by
  refine mFv.of (by decide +kernel) (Nat.le_of_ble_eq_true rfl) ?_
  intro p e s m below meth c A C hr hlk h ls hl
  obtain ⟨hx, hb, hml, hown, hts⟩ := id C
  replace hl : lv_has ls 6 [(0, .ref h_this), (1, .int p0), (2, .int p1), (3, .int p2), (4, .int p3)] := hl
  unfold f_X9_endsPlan at hf
  refine with_K G A 6 (fun K hK1 hK2 => ?_)
  have B99 : ∀ (v5 : Int32) (y_this_most : Int32) (y_this_many : Int32) (g_this_bestPlan : Nat → Int32), f_X9_endsPlan_b99 x_this_few x_this_everHome v5 y_this_most y_this_many g_this_bestPlan = some (m_this_most, m_this_many, m_this_few, m_this_everHome, m_this_bestPlan) → K 99 [.ref h_this] [(h_this, ob 9 [.ref h_this_s, .ref h_this_kept, .ref h_this_laid, .int x_this_isKept, .ref h_this_pile, .ref h_this_tape, .int x_this_taped, .ref h_this_letters, .int x_this_at, .int x_this_begun, .int x_this_token, .int x_this_value, .int x_this_opened, .int x_this_steps, .ref h_this_code0, .ref h_this_read, .ref h_this_saved, .ref h_this_plan, .ref h_this_bestPlan, .int y_this_most, .int y_this_many, .int x_this_few, .int x_this_everHome, .ref h_this_offThen, .ref h_this_paidThen, .int x_this_firstFit, .ref h_this_rows, .int x_this_rowMany, .ref h_this_sorts, .ref h_this_sizes, .ref h_this_number, .ref h_this_holds, .ref h_this_heldOne, .ref h_this_trace, .int x_this_traced, .int x_this_own, .int x_this_isParted]), (h_this_bestPlan, ia G 4 g_this_bestPlan), (h_this_plan, ia G 4 f_this_plan), (h_this_s, ia G 313 f_this_s)] [(0, .ref h_this), (5, .int v5)] := by
    intro v5 y_this_most y_this_many g_this_bestPlan hf
    unfold f_X9_endsPlan_b99 at hf
    refine hK1 _ _ _ _ (fun H locs ls h hl => ?_)
    refine lv_aload_n hx hb dX9_endsPlan_99 rfl (lv_at hl 0 rfl) ?_
    refine r_get C h fk_X9_268 0 rfl rfl dX9_endsPlan_100 ?_
    refine r_put (ws' := [(h_this, ob 9 [.ref h_this_s, .ref h_this_kept, .ref h_this_laid, .int x_this_isKept, .ref h_this_pile, .ref h_this_tape, .int x_this_taped, .ref h_this_letters, .int x_this_at, .int x_this_begun, .int x_this_token, .int x_this_value, .int x_this_opened, .int x_this_steps, .ref h_this_code0, .ref h_this_read, .ref h_this_saved, .ref h_this_plan, .ref h_this_bestPlan, .int y_this_most, .int y_this_many, .int x_this_few, .int x_this_everHome, .ref h_this_offThen, .ref h_this_paidThen, .int x_this_firstFit, .ref h_this_rows, .int x_this_rowMany, .ref h_this_sorts, .ref h_this_sizes, .ref h_this_number, .ref h_this_holds, .ref h_this_heldOne, .ref h_this_trace, .int x_this_traced, .int x_this_own, .int x_this_isParted]), (h_this_bestPlan, ia G 4 g_this_bestPlan), (h_this_plan, ia G 4 f_this_plan), (h_this_s, ia G 313 f_this_s)]) C h fw_X9_268 0 rfl rfl rfl (Nat.le_of_ble_eq_true rfl) dX9_endsPlan_103 rfl (fun H locs h => ?_)
    refine lv_aload_n hx hb dX9_endsPlan_106 rfl (lv_at hl 0 rfl) ?_
    refine lv_dup hx hb dX9_endsPlan_107 rfl ?_
    refine r_get C h fk_X9_271 0 rfl rfl dX9_endsPlan_108 ?_
    refine lv_iload hx hb dX9_endsPlan_111 (lv_at hl 1 rfl) ?_
    refine lv_ior hx hb dX9_endsPlan_113 ?_
    refine lv_topi (fun t7 et7 => ?_)
    replace hf := lt1_inv et7 hf
    refine r_put (ws' := [(h_this, ob 9 [.ref h_this_s, .ref h_this_kept, .ref h_this_laid, .int x_this_isKept, .ref h_this_pile, .ref h_this_tape, .int x_this_taped, .ref h_this_letters, .int x_this_at, .int x_this_begun, .int x_this_token, .int x_this_value, .int x_this_opened, .int x_this_steps, .ref h_this_code0, .ref h_this_read, .ref h_this_saved, .ref h_this_plan, .ref h_this_bestPlan, .int y_this_most, .int y_this_many, .int x_this_few, .int t7, .ref h_this_offThen, .ref h_this_paidThen, .int x_this_firstFit, .ref h_this_rows, .int x_this_rowMany, .ref h_this_sorts, .ref h_this_sizes, .ref h_this_number, .ref h_this_holds, .ref h_this_heldOne, .ref h_this_trace, .int x_this_traced, .int x_this_own, .int x_this_isParted]), (h_this_bestPlan, ia G 4 g_this_bestPlan), (h_this_plan, ia G 4 f_this_plan), (h_this_s, ia G 313 f_this_s)]) C h fw_X9_271 0 rfl rfl rfl (Nat.le_of_ble_eq_true rfl) dX9_endsPlan_114 rfl (fun H locs h => ?_)
    cases hf
    exact r_vret C h hr hlk dX9_endsPlan_117
  have B65 : ∀ (s1 : Int32) (s2 : Int32) (y_this_most : Int32) (y_this_many : Int32) (g_this_bestPlan : Nat → Int32), f_X9_endsPlan_b65 p2 p3 x_this_few x_this_everHome f_this_s s1 s2 y_this_most y_this_many g_this_bestPlan = some (m_this_most, m_this_many, m_this_few, m_this_everHome, m_this_bestPlan) → K 65 [.int s2, .int s1, .ref h_this] [(h_this, ob 9 [.ref h_this_s, .ref h_this_kept, .ref h_this_laid, .int x_this_isKept, .ref h_this_pile, .ref h_this_tape, .int x_this_taped, .ref h_this_letters, .int x_this_at, .int x_this_begun, .int x_this_token, .int x_this_value, .int x_this_opened, .int x_this_steps, .ref h_this_code0, .ref h_this_read, .ref h_this_saved, .ref h_this_plan, .ref h_this_bestPlan, .int y_this_most, .int y_this_many, .int x_this_few, .int x_this_everHome, .ref h_this_offThen, .ref h_this_paidThen, .int x_this_firstFit, .ref h_this_rows, .int x_this_rowMany, .ref h_this_sorts, .ref h_this_sizes, .ref h_this_number, .ref h_this_holds, .ref h_this_heldOne, .ref h_this_trace, .int x_this_traced, .int x_this_own, .int x_this_isParted]), (h_this_bestPlan, ia G 4 g_this_bestPlan), (h_this_plan, ia G 4 f_this_plan), (h_this_s, ia G 313 f_this_s)] [(0, .ref h_this), (3, .int p2), (4, .int p3)] := by
    intro s1 s2 y_this_most y_this_many g_this_bestPlan hf
    unfold f_X9_endsPlan_b65 at hf
    refine hK1 _ _ _ _ (fun H locs ls h hl => ?_)
    refine lv_iadd hx hb dX9_endsPlan_65 ?_
    refine lv_topi (fun t3 et3 => ?_)
    replace hf := lt1_inv et3 hf
    refine r_put (ws' := [(h_this, ob 9 [.ref h_this_s, .ref h_this_kept, .ref h_this_laid, .int x_this_isKept, .ref h_this_pile, .ref h_this_tape, .int x_this_taped, .ref h_this_letters, .int x_this_at, .int x_this_begun, .int x_this_token, .int x_this_value, .int x_this_opened, .int x_this_steps, .ref h_this_code0, .ref h_this_read, .ref h_this_saved, .ref h_this_plan, .ref h_this_bestPlan, .int y_this_most, .int t3, .int x_this_few, .int x_this_everHome, .ref h_this_offThen, .ref h_this_paidThen, .int x_this_firstFit, .ref h_this_rows, .int x_this_rowMany, .ref h_this_sorts, .ref h_this_sizes, .ref h_this_number, .ref h_this_holds, .ref h_this_heldOne, .ref h_this_trace, .int x_this_traced, .int x_this_own, .int x_this_isParted]), (h_this_bestPlan, ia G 4 g_this_bestPlan), (h_this_plan, ia G 4 f_this_plan), (h_this_s, ia G 313 f_this_s)]) C h fw_X9_265 0 rfl rfl rfl (Nat.le_of_ble_eq_true rfl) dX9_endsPlan_66 rfl (fun H locs h => ?_)
    refine lv_aload_n hx hb dX9_endsPlan_69 rfl (lv_at hl 0 rfl) ?_
    refine lv_iconst (v := (4 : Int32)) hx hb dX9_endsPlan_70 rfl ?_
    replace hf := bd1_inv hf
    obtain ⟨r4, hc5, hf⟩ := hf
    refine r_ciV0 C h (c_X9_those hc5) mv_X9_235 rfl 0 rfl [0, 3] rfl rfl hl.1 rfl (Nat.le_of_ble_eq_true rfl) (rok (by decide)) dX9_endsPlan_71 (fun H locs h => ?_)
    refine lv_istore (lv' := [(5, .int r4), (0, .ref h_this), (3, .int p2), (4, .int p3)]) hx hb dX9_endsPlan_74 hl (by decide) rfl (fun ls hl => ?_)
    refine lv_aload_n hx hb dX9_endsPlan_76 rfl (lv_at hl 1 rfl) ?_
    refine lv_iload hx hb dX9_endsPlan_77 (lv_at hl 3 rfl) ?_
    refine lv_iload hx hb dX9_endsPlan_79 (lv_at hl 0 rfl) ?_
    refine lv_iconst (v := (-1 : Int32)) hx hb dX9_endsPlan_81 rfl ?_
    refine lv_ixor hx hb dX9_endsPlan_82 ?_
    refine lv_iand hx hb dX9_endsPlan_83 ?_
    refine lv_if_ne (tgt := 99) hx hb dX9_endsPlan_84 rfl (fun c6 => ?_) (fun c6 => ?_)
    · replace hf := ifn c6 hf
      exact hK2 _ _ _ _ (B99 r4 y_this_most t3 g_this_bestPlan hf) _ _ _ h (lv_sub hl [1, 0] rfl)
    · replace hf := ifp c6 hf
      refine lv_iload_n hx hb dX9_endsPlan_87 rfl (lv_at hl 2 rfl) ?_
      refine lv_aload_n hx hb dX9_endsPlan_88 rfl (lv_at hl 1 rfl) ?_
      refine r_get C h fk_X9_268 0 rfl rfl dX9_endsPlan_89 ?_
      refine lv_icmp_ge (tgt := 99) hx hb dX9_endsPlan_92 rfl (fun c8 => ?_) (fun c8 => ?_)
      · replace hf := ifp c8 hf
        exact hK2 _ _ _ _ (B99 r4 y_this_most t3 g_this_bestPlan hf) _ _ _ h (lv_sub hl [1, 0] rfl)
      · replace hf := ifn c8 hf
        refine lv_iload_n hx hb dX9_endsPlan_95 rfl (lv_at hl 2 rfl) ?_
        refine lv_goto (tgt := 103) hx hb dX9_endsPlan_96 rfl ?_
        refine r_put (ws' := [(h_this, ob 9 [.ref h_this_s, .ref h_this_kept, .ref h_this_laid, .int x_this_isKept, .ref h_this_pile, .ref h_this_tape, .int x_this_taped, .ref h_this_letters, .int x_this_at, .int x_this_begun, .int x_this_token, .int x_this_value, .int x_this_opened, .int x_this_steps, .ref h_this_code0, .ref h_this_read, .ref h_this_saved, .ref h_this_plan, .ref h_this_bestPlan, .int y_this_most, .int t3, .int p2, .int x_this_everHome, .ref h_this_offThen, .ref h_this_paidThen, .int x_this_firstFit, .ref h_this_rows, .int x_this_rowMany, .ref h_this_sorts, .ref h_this_sizes, .ref h_this_number, .ref h_this_holds, .ref h_this_heldOne, .ref h_this_trace, .int x_this_traced, .int x_this_own, .int x_this_isParted]), (h_this_bestPlan, ia G 4 g_this_bestPlan), (h_this_plan, ia G 4 f_this_plan), (h_this_s, ia G 313 f_this_s)]) C h fw_X9_268 0 rfl rfl rfl (Nat.le_of_ble_eq_true rfl) dX9_endsPlan_103 rfl (fun H locs h => ?_)
        refine lv_aload_n hx hb dX9_endsPlan_106 rfl (lv_at hl 1 rfl) ?_
        refine lv_dup hx hb dX9_endsPlan_107 rfl ?_
        refine r_get C h fk_X9_271 0 rfl rfl dX9_endsPlan_108 ?_
        refine lv_iload hx hb dX9_endsPlan_111 (lv_at hl 0 rfl) ?_
        refine lv_ior hx hb dX9_endsPlan_113 ?_
        refine lv_topi (fun t9 et9 => ?_)
        replace hf := lt1_inv et9 hf
        refine r_put (ws' := [(h_this, ob 9 [.ref h_this_s, .ref h_this_kept, .ref h_this_laid, .int x_this_isKept, .ref h_this_pile, .ref h_this_tape, .int x_this_taped, .ref h_this_letters, .int x_this_at, .int x_this_begun, .int x_this_token, .int x_this_value, .int x_this_opened, .int x_this_steps, .ref h_this_code0, .ref h_this_read, .ref h_this_saved, .ref h_this_plan, .ref h_this_bestPlan, .int y_this_most, .int t3, .int p2, .int t9, .ref h_this_offThen, .ref h_this_paidThen, .int x_this_firstFit, .ref h_this_rows, .int x_this_rowMany, .ref h_this_sorts, .ref h_this_sizes, .ref h_this_number, .ref h_this_holds, .ref h_this_heldOne, .ref h_this_trace, .int x_this_traced, .int x_this_own, .int x_this_isParted]), (h_this_bestPlan, ia G 4 g_this_bestPlan), (h_this_plan, ia G 4 f_this_plan), (h_this_s, ia G 313 f_this_s)]) C h fw_X9_271 0 rfl rfl rfl (Nat.le_of_ble_eq_true rfl) dX9_endsPlan_114 rfl (fun H locs h => ?_)
        cases hf
        exact r_vret C h hr hlk dX9_endsPlan_117
  have B47 : ∀ (y_this_most : Int32) (y_this_many : Int32) (g_this_bestPlan : Nat → Int32), f_X9_endsPlan_b47 p1 p2 p3 x_this_few x_this_everHome f_this_s y_this_most y_this_many g_this_bestPlan = some (m_this_most, m_this_many, m_this_few, m_this_everHome, m_this_bestPlan) → K 47 ([] : List Value) [(h_this, ob 9 [.ref h_this_s, .ref h_this_kept, .ref h_this_laid, .int x_this_isKept, .ref h_this_pile, .ref h_this_tape, .int x_this_taped, .ref h_this_letters, .int x_this_at, .int x_this_begun, .int x_this_token, .int x_this_value, .int x_this_opened, .int x_this_steps, .ref h_this_code0, .ref h_this_read, .ref h_this_saved, .ref h_this_plan, .ref h_this_bestPlan, .int y_this_most, .int y_this_many, .int x_this_few, .int x_this_everHome, .ref h_this_offThen, .ref h_this_paidThen, .int x_this_firstFit, .ref h_this_rows, .int x_this_rowMany, .ref h_this_sorts, .ref h_this_sizes, .ref h_this_number, .ref h_this_holds, .ref h_this_heldOne, .ref h_this_trace, .int x_this_traced, .int x_this_own, .int x_this_isParted]), (h_this_bestPlan, ia G 4 g_this_bestPlan), (h_this_plan, ia G 4 f_this_plan), (h_this_s, ia G 313 f_this_s)] [(0, .ref h_this), (2, .int p1), (3, .int p2), (4, .int p3)] := by
    intro y_this_most y_this_many g_this_bestPlan hf
    unfold f_X9_endsPlan_b47 at hf
    refine hK1 _ _ _ _ (fun H locs ls h hl => ?_)
    refine lv_aload_n hx hb dX9_endsPlan_47 rfl (lv_at hl 0 rfl) ?_
    refine lv_dup hx hb dX9_endsPlan_48 rfl ?_
    refine r_get C h fk_X9_265 0 rfl rfl dX9_endsPlan_49 ?_
    refine lv_iload_n hx hb dX9_endsPlan_52 rfl (lv_at hl 1 rfl) ?_
    refine lv_aload_n hx hb dX9_endsPlan_53 rfl (lv_at hl 0 rfl) ?_
    refine r_get C h fk_X9_262 0 rfl rfl dX9_endsPlan_54 ?_
    refine lv_icmp_ne (tgt := 64) hx hb dX9_endsPlan_57 rfl (fun c2 => ?_) (fun c2 => ?_)
    · replace hf := ifn c2 hf
      refine lv_iconst (v := (0 : Int32)) hx hb dX9_endsPlan_64 rfl ?_
      exact hK2 _ _ _ _ (B65 y_this_many (0 : Int32) y_this_most y_this_many g_this_bestPlan hf) _ _ _ h (lv_sub hl [0, 2, 3] rfl)
    · replace hf := ifp c2 hf
      refine lv_iconst (v := (1 : Int32)) hx hb dX9_endsPlan_60 rfl ?_
      refine lv_goto (tgt := 65) hx hb dX9_endsPlan_61 rfl ?_
      exact hK2 _ _ _ _ (B65 y_this_many (1 : Int32) y_this_most y_this_many g_this_bestPlan hf) _ _ _ h (lv_sub hl [0, 2, 3] rfl)
  have L21 : ∀ (n : Nat) (v5 : Int32) (y_this_most : Int32) (y_this_many : Int32) (g_this_bestPlan : Nat → Int32), f_X9_endsPlan_L21 p0 p1 p2 p3 x_this_few x_this_everHome f_this_plan f_this_s n v5 y_this_most y_this_many g_this_bestPlan = some (m_this_most, m_this_many, m_this_few, m_this_everHome, m_this_bestPlan) → K 21 ([] : List Value) [(h_this, ob 9 [.ref h_this_s, .ref h_this_kept, .ref h_this_laid, .int x_this_isKept, .ref h_this_pile, .ref h_this_tape, .int x_this_taped, .ref h_this_letters, .int x_this_at, .int x_this_begun, .int x_this_token, .int x_this_value, .int x_this_opened, .int x_this_steps, .ref h_this_code0, .ref h_this_read, .ref h_this_saved, .ref h_this_plan, .ref h_this_bestPlan, .int y_this_most, .int y_this_many, .int x_this_few, .int x_this_everHome, .ref h_this_offThen, .ref h_this_paidThen, .int x_this_firstFit, .ref h_this_rows, .int x_this_rowMany, .ref h_this_sorts, .ref h_this_sizes, .ref h_this_number, .ref h_this_holds, .ref h_this_heldOne, .ref h_this_trace, .int x_this_traced, .int x_this_own, .int x_this_isParted]), (h_this_bestPlan, ia G 4 g_this_bestPlan), (h_this_plan, ia G 4 f_this_plan), (h_this_s, ia G 313 f_this_s)] [(0, .ref h_this), (1, .int p0), (2, .int p1), (3, .int p2), (4, .int p3), (5, .int v5)] := by
    intro n
    induction n with
    | zero =>
      intro v5 y_this_most y_this_many g_this_bestPlan hf
      replace hf : (none : Option _) = some _ := hf
      cases hf
    | succ n ih =>
      intro v5 y_this_most y_this_many g_this_bestPlan hf
      rw [f_X9_endsPlan_L21] at hf
      refine hK1 _ _ _ _ (fun H locs ls h hl => ?_)
      refine lv_iload hx hb dX9_endsPlan_21 (lv_at hl 5 rfl) ?_
      refine lv_iload_n hx hb dX9_endsPlan_23 rfl (lv_at hl 1 rfl) ?_
      refine lv_icmp_ge (tgt := 47) hx hb dX9_endsPlan_24 rfl (fun c10 => ?_) (fun c10 => ?_)
      · replace hf := ifp c10 hf
        exact hK2 _ _ _ _ (B47 y_this_most y_this_many g_this_bestPlan hf) _ _ _ h (lv_sub hl [0, 2, 3, 4] rfl)
      · replace hf := ifn c10 hf
        refine lv_aload_n hx hb dX9_endsPlan_27 rfl (lv_at hl 0 rfl) ?_
        refine r_get C h fk_X9_41 0 rfl rfl dX9_endsPlan_28 ?_
        refine lv_iload hx hb dX9_endsPlan_31 (lv_at hl 5 rfl) ?_
        refine lv_aload_n hx hb dX9_endsPlan_33 rfl (lv_at hl 0 rfl) ?_
        refine r_get C h fk_X9_38 0 rfl rfl dX9_endsPlan_34 ?_
        refine lv_iload hx hb dX9_endsPlan_37 (lv_at hl 5 rfl) ?_
        replace hf := chkI_inv hf
        obtain ⟨hi11, hf⟩ := hf
        refine r_iald C h 2 rfl hi11 dX9_endsPlan_39 ?_
        refine lv_topi (fun t12 et12 => ?_)
        replace hf := lt1_inv et12 hf
        replace hf := chkI_inv hf
        obtain ⟨hi13, hf⟩ := hf
        refine r_iast (ws' := [(h_this, ob 9 [.ref h_this_s, .ref h_this_kept, .ref h_this_laid, .int x_this_isKept, .ref h_this_pile, .ref h_this_tape, .int x_this_taped, .ref h_this_letters, .int x_this_at, .int x_this_begun, .int x_this_token, .int x_this_value, .int x_this_opened, .int x_this_steps, .ref h_this_code0, .ref h_this_read, .ref h_this_saved, .ref h_this_plan, .ref h_this_bestPlan, .int y_this_most, .int y_this_many, .int x_this_few, .int x_this_everHome, .ref h_this_offThen, .ref h_this_paidThen, .int x_this_firstFit, .ref h_this_rows, .int x_this_rowMany, .ref h_this_sorts, .ref h_this_sizes, .ref h_this_number, .ref h_this_holds, .ref h_this_heldOne, .ref h_this_trace, .int x_this_traced, .int x_this_own, .int x_this_isParted]), (h_this_bestPlan, ia G 4 (upd g_this_bestPlan v5.toNatClampNeg t12)), (h_this_plan, ia G 4 f_this_plan), (h_this_s, ia G 313 f_this_s)]) C h 1 rfl hi13 dX9_endsPlan_40 rfl (fun H locs h => ?_)
        obtain ⟨t14, et14⟩ : ∃ y : Int32, y = v5 + (1 : Int32) := ⟨_, rfl⟩
        replace hf := lt1_inv et14 hf
        refine lv_iinc (v := t14) (lv' := [(5, .int t14), (0, .ref h_this), (1, .int p0), (2, .int p1), (3, .int p2), (4, .int p3)]) hx hb dX9_endsPlan_41 hl (k := 5) rfl (by rw [et14]; rfl) (by decide) rfl (fun ls hl => ?_)
        refine lv_goto (tgt := 21) hx hb dX9_endsPlan_44 rfl ?_
        exact hK2 _ _ _ _ (ih t14 y_this_most y_this_many (upd g_this_bestPlan v5.toNatClampNeg t12) hf) _ _ _ h (lv_sub hl [1, 2, 3, 4, 5, 0] rfl)
  refine lv_iload_n hx hb dX9_endsPlan_0 rfl (lv_at hl 2 rfl) ?_
  refine lv_aload_n hx hb dX9_endsPlan_1 rfl (lv_at hl 0 rfl) ?_
  refine r_get C h fk_X9_262 0 rfl rfl dX9_endsPlan_2 ?_
  refine lv_icmp_le (tgt := 47) hx hb dX9_endsPlan_5 rfl (fun c1 => ?_) (fun c1 => ?_)
  · replace hf := ifp c1 hf
    exact hK2 _ _ _ _ (B47 x_this_most x_this_many f_this_bestPlan hf) _ _ _ h (lv_sub hl [0, 2, 3, 4] rfl)
  · replace hf := ifn c1 hf
    refine lv_aload_n hx hb dX9_endsPlan_8 rfl (lv_at hl 0 rfl) ?_
    refine lv_iconst (v := (0 : Int32)) hx hb dX9_endsPlan_9 rfl ?_
    refine r_put (ws' := [(h_this, ob 9 [.ref h_this_s, .ref h_this_kept, .ref h_this_laid, .int x_this_isKept, .ref h_this_pile, .ref h_this_tape, .int x_this_taped, .ref h_this_letters, .int x_this_at, .int x_this_begun, .int x_this_token, .int x_this_value, .int x_this_opened, .int x_this_steps, .ref h_this_code0, .ref h_this_read, .ref h_this_saved, .ref h_this_plan, .ref h_this_bestPlan, .int x_this_most, .int (0 : Int32), .int x_this_few, .int x_this_everHome, .ref h_this_offThen, .ref h_this_paidThen, .int x_this_firstFit, .ref h_this_rows, .int x_this_rowMany, .ref h_this_sorts, .ref h_this_sizes, .ref h_this_number, .ref h_this_holds, .ref h_this_heldOne, .ref h_this_trace, .int x_this_traced, .int x_this_own, .int x_this_isParted]), (h_this_bestPlan, ia G 4 f_this_bestPlan), (h_this_plan, ia G 4 f_this_plan), (h_this_s, ia G 313 f_this_s)]) C h fw_X9_265 0 rfl rfl rfl (Nat.le_of_ble_eq_true rfl) dX9_endsPlan_10 rfl (fun H locs h => ?_)
    refine lv_aload_n hx hb dX9_endsPlan_13 rfl (lv_at hl 0 rfl) ?_
    refine lv_iload_n hx hb dX9_endsPlan_14 rfl (lv_at hl 2 rfl) ?_
    refine r_put (ws' := [(h_this, ob 9 [.ref h_this_s, .ref h_this_kept, .ref h_this_laid, .int x_this_isKept, .ref h_this_pile, .ref h_this_tape, .int x_this_taped, .ref h_this_letters, .int x_this_at, .int x_this_begun, .int x_this_token, .int x_this_value, .int x_this_opened, .int x_this_steps, .ref h_this_code0, .ref h_this_read, .ref h_this_saved, .ref h_this_plan, .ref h_this_bestPlan, .int p1, .int (0 : Int32), .int x_this_few, .int x_this_everHome, .ref h_this_offThen, .ref h_this_paidThen, .int x_this_firstFit, .ref h_this_rows, .int x_this_rowMany, .ref h_this_sorts, .ref h_this_sizes, .ref h_this_number, .ref h_this_holds, .ref h_this_heldOne, .ref h_this_trace, .int x_this_traced, .int x_this_own, .int x_this_isParted]), (h_this_bestPlan, ia G 4 f_this_bestPlan), (h_this_plan, ia G 4 f_this_plan), (h_this_s, ia G 313 f_this_s)]) C h fw_X9_262 0 rfl rfl rfl (Nat.le_of_ble_eq_true rfl) dX9_endsPlan_15 rfl (fun H locs h => ?_)
    refine lv_iconst (v := (0 : Int32)) hx hb dX9_endsPlan_18 rfl ?_
    refine lv_istore (lv' := [(5, .int (0 : Int32)), (0, .ref h_this), (1, .int p0), (2, .int p1), (3, .int p2), (4, .int p3)]) hx hb dX9_endsPlan_19 hl (by decide) rfl (fun ls hl => ?_)
    exact hK2 _ _ _ _ (L21 1000 (0 : Int32) p1 (0 : Int32) f_this_bestPlan hf) _ _ _ h (lv_sub hl [1, 2, 3, 4, 5, 0] rfl)
