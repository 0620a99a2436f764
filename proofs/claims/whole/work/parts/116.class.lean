set_option maxRecDepth 100000 in
set_option maxHeartbeats 4000000 in
theorem c_X8_hasCell {l : Launch} {G : Gt} {h_this h_this_rock h_this_kept h_this_trial h_this_planner h_this_reader h_this_draft h_this_host h_this_thing h_this_tape h_this_rows : Nat} {p0 : Int32} {p1 : Int32} {x_this_tapeCount : Int32} {x_this_rowCount : Int32} {x_this_isKept : Int32} {r : Int32} (hf : f_X8_hasCell p0 p1 x_this_rowCount = some r) : mFi l G yX8_hasCell cX8_hasCell 3 .boolean 1 [.ref h_this, .int p0, .int p1] [(h_this, ob 8 [.ref h_this_rock, .ref h_this_kept, .ref h_this_trial, .ref h_this_planner, .ref h_this_reader, .ref h_this_draft, .ref h_this_host, .ref h_this_thing, .ref h_this_tape, .ref h_this_rows, .int x_this_tapeCount, .int x_this_rowCount, .int x_this_isKept])] r [(h_this, ob 8 [.ref h_this_rock, .ref h_this_kept, .ref h_this_trial, .ref h_this_planner, .ref h_this_reader, .ref h_this_draft, .ref h_this_host, .ref h_this_thing, .ref h_this_tape, .ref h_this_rows, .int x_this_tapeCount, .int x_this_rowCount, .int x_this_isKept])] := by
  refine mFi.of (by decide +kernel) (Nat.le_of_ble_eq_true rfl) ?_
  intro p e s m below meth c A C hr hlk h ls hl
  obtain ⟨hx, hb, hml, hown, hts⟩ := id C
  replace hl : lv_has ls 3 [(0, .ref h_this), (1, .int p0), (2, .int p1)] := hl
  unfold f_X8_hasCell at hf
  refine lv_iload_n hx hb dX8_hasCell_0 rfl (lv_at hl 1 rfl) ?_
  refine lv_iconst (v := (0 : Int32)) hx hb dX8_hasCell_1 rfl ?_
  refine lv_aload_n hx hb dX8_hasCell_2 rfl (lv_at hl 0 rfl) ?_
  refine r_get C h fk_X8_72 0 rfl rfl dX8_hasCell_3 ?_
  refine lv_iconst (v := (1 : Int32)) hx hb dX8_hasCell_6 rfl ?_
  refine lv_isub hx hb dX8_hasCell_7 ?_
  replace hf := bd1_inv hf
  obtain ⟨r1, hc2, hf⟩ := hf
  refine r_ciS0 C h (c_X8_within hc2) ms_X8_79 rfl [] rfl rfl hl.1 rfl (Nat.le_of_ble_eq_true rfl) (rok (by decide)) dX8_hasCell_8 (fun H locs h => ?_)
  refine lv_if_eq (tgt := 27) hx hb dX8_hasCell_11 rfl (fun c3 => ?_) (fun c3 => ?_)
  · replace hf := ifp c3 hf
    refine lv_iconst (v := (0 : Int32)) hx hb dX8_hasCell_27 rfl ?_
    cases hf
    exact r_iret C h hr hlk rfl dX8_hasCell_28
  · replace hf := ifn c3 hf
    refine lv_iload_n hx hb dX8_hasCell_14 rfl (lv_at hl 2 rfl) ?_
    refine lv_iconst (v := (0 : Int32)) hx hb dX8_hasCell_15 rfl ?_
    refine lv_iconst (v := (2 : Int32)) hx hb dX8_hasCell_16 rfl ?_
    replace hf := bd1_inv hf
    obtain ⟨r4, hc5, hf⟩ := hf
    refine r_ciS0 C h (c_X8_within hc5) ms_X8_79 rfl [] rfl rfl hl.1 rfl (Nat.le_of_ble_eq_true rfl) (rok (by decide)) dX8_hasCell_17 (fun H locs h => ?_)
    refine lv_if_eq (tgt := 27) hx hb dX8_hasCell_20 rfl (fun c6 => ?_) (fun c6 => ?_)
    · replace hf := ifp c6 hf
      refine lv_iconst (v := (0 : Int32)) hx hb dX8_hasCell_27 rfl ?_
      cases hf
      exact r_iret C h hr hlk rfl dX8_hasCell_28
    · replace hf := ifn c6 hf
      refine lv_iconst (v := (1 : Int32)) hx hb dX8_hasCell_23 rfl ?_
      refine lv_goto (tgt := 28) hx hb dX8_hasCell_24 rfl ?_
      cases hf
      exact r_iret C h hr hlk rfl dX8_hasCell_28
set_option maxRecDepth 100000 in
set_option maxHeartbeats 4000000 in
theorem c_X8_row {l : Launch} {G : Gt} {h_this h_this_rock h_this_kept h_this_trial h_this_planner h_this_reader h_this_draft h_this_host h_this_thing h_this_tape h_this_rows : Nat} {p0 : Int32} {p1 : Int32} {x_this_tapeCount : Int32} {x_this_rowCount : Int32} {x_this_isKept : Int32} {f_this_rows : Nat → Int32} {r : Int32} (hf : f_X8_row p0 p1 x_this_rowCount f_this_rows = some r) : mFi l G yX8_row cX8_row 3 .int 2 [.ref h_this, .int p0, .int p1] [(h_this, ob 8 [.ref h_this_rock, .ref h_this_kept, .ref h_this_trial, .ref h_this_planner, .ref h_this_reader, .ref h_this_draft, .ref h_this_host, .ref h_this_thing, .ref h_this_tape, .ref h_this_rows, .int x_this_tapeCount, .int x_this_rowCount, .int x_this_isKept]), (h_this_rows, ia G 12 f_this_rows)] r [(h_this, ob 8 [.ref h_this_rock, .ref h_this_kept, .ref h_this_trial, .ref h_this_planner, .ref h_this_reader, .ref h_this_draft, .ref h_this_host, .ref h_this_thing, .ref h_this_tape, .ref h_this_rows, .int x_this_tapeCount, .int x_this_rowCount, .int x_this_isKept]), (h_this_rows, ia G 12 f_this_rows)] := by
  refine mFi.of (by decide +kernel) (Nat.le_of_ble_eq_true rfl) ?_
  intro p e s m below meth c A C hr hlk h ls hl
  obtain ⟨hx, hb, hml, hown, hts⟩ := id C
  replace hl : lv_has ls 3 [(0, .ref h_this), (1, .int p0), (2, .int p1)] := hl
  unfold f_X8_row at hf
  refine lv_aload_n hx hb dX8_row_0 rfl (lv_at hl 0 rfl) ?_
  refine lv_iload_n hx hb dX8_row_1 rfl (lv_at hl 1 rfl) ?_
  refine lv_iload_n hx hb dX8_row_2 rfl (lv_at hl 2 rfl) ?_
  replace hf := bd1_inv hf
  obtain ⟨r1, hc2, hf⟩ := hf
  refine r_ciV0 C h (c_X8_hasCell hc2) mv_X8_290 rfl 0 rfl [0] rfl rfl hl.1 rfl (Nat.le_of_ble_eq_true rfl) (rok (by decide)) dX8_row_3 (fun H locs h => ?_)
  refine lv_if_eq (tgt := 22) hx hb dX8_row_6 rfl (fun c3 => ?_) (fun c3 => ?_)
  · replace hf := ifp c3 hf
    refine lv_bipush (v := (-9 : Int32)) hx hb dX8_row_22 rfl ?_
    cases hf
    exact r_iret C h hr hlk rfl dX8_row_24
  · replace hf := ifn c3 hf
    refine lv_aload_n hx hb dX8_row_9 rfl (lv_at hl 0 rfl) ?_
    refine r_get C h fk_X8_65 0 rfl rfl dX8_row_10 ?_
    refine lv_iconst (v := (3 : Int32)) hx hb dX8_row_13 rfl ?_
    refine lv_iload_n hx hb dX8_row_14 rfl (lv_at hl 1 rfl) ?_
    refine lv_imul hx hb dX8_row_15 ?_
    refine lv_iload_n hx hb dX8_row_16 rfl (lv_at hl 2 rfl) ?_
    refine lv_iadd hx hb dX8_row_17 ?_
    replace hf := chkI_inv hf
    obtain ⟨hi4, hf⟩ := hf
    refine r_iald C h 1 rfl hi4 dX8_row_18 ?_
    refine lv_goto (tgt := 24) hx hb dX8_row_19 rfl ?_
    cases hf
    exact r_iret C h hr hlk rfl dX8_row_24
set_option maxRecDepth 100000 in
set_option maxHeartbeats 4000000 in
theorem c_X8_alterRow {l : Launch} {G : Gt} {h_this h_this_rock h_this_kept h_this_trial h_this_planner h_this_reader h_this_draft h_this_host h_this_thing h_this_tape h_this_rows : Nat} {p0 : Int32} {p1 : Int32} {p2 : Int32} {x_this_tapeCount : Int32} {x_this_rowCount : Int32} {x_this_isKept : Int32} {f_this_rows : Nat → Int32} {r : Int32} {m_this_rows : Nat → Int32} (hf : f_X8_alterRow p0 p1 p2 x_this_rowCount f_this_rows = some (r, m_this_rows)) : mFi l G yX8_alterRow cX8_alterRow 4 .int 2 [.ref h_this, .int p0, .int p1, .int p2] [(h_this, ob 8 [.ref h_this_rock, .ref h_this_kept, .ref h_this_trial, .ref h_this_planner, .ref h_this_reader, .ref h_this_draft, .ref h_this_host, .ref h_this_thing, .ref h_this_tape, .ref h_this_rows, .int x_this_tapeCount, .int x_this_rowCount, .int x_this_isKept]), (h_this_rows, ia G 12 f_this_rows)] r [(h_this, ob 8 [.ref h_this_rock, .ref h_this_kept, .ref h_this_trial, .ref h_this_planner, .ref h_this_reader, .ref h_this_draft, .ref h_this_host, .ref h_this_thing, .ref h_this_tape, .ref h_this_rows, .int x_this_tapeCount, .int x_this_rowCount, .int x_this_isKept]), (h_this_rows, ia G 12 m_this_rows)] := by
  refine mFi.of (by decide +kernel) (Nat.le_of_ble_eq_true rfl) ?_
  intro p e s m below meth c A C hr hlk h ls hl
  obtain ⟨hx, hb, hml, hown, hts⟩ := id C
  replace hl : lv_has ls 4 [(0, .ref h_this), (1, .int p0), (2, .int p1), (3, .int p2)] := hl
  unfold f_X8_alterRow at hf
  refine lv_aload_n hx hb dX8_alterRow_0 rfl (lv_at hl 0 rfl) ?_
  refine lv_iload_n hx hb dX8_alterRow_1 rfl (lv_at hl 1 rfl) ?_
  refine lv_iload_n hx hb dX8_alterRow_2 rfl (lv_at hl 2 rfl) ?_
  replace hf := bd1_inv hf
  obtain ⟨r1, hc2, hf⟩ := hf
  refine r_ciV0 C h (c_X8_hasCell hc2) mv_X8_290 rfl 0 rfl [0] rfl rfl hl.1 rfl (Nat.le_of_ble_eq_true rfl) (rok (by decide)) dX8_alterRow_3 (fun H locs h => ?_)
  refine lv_if_eq (tgt := 25) hx hb dX8_alterRow_6 rfl (fun c3 => ?_) (fun c3 => ?_)
  · replace hf := ifp c3 hf
    refine lv_bipush (v := (-9 : Int32)) hx hb dX8_alterRow_25 rfl ?_
    cases hf
    exact r_iret C h hr hlk rfl dX8_alterRow_27
  · replace hf := ifn c3 hf
    refine lv_aload_n hx hb dX8_alterRow_9 rfl (lv_at hl 0 rfl) ?_
    refine r_get C h fk_X8_65 0 rfl rfl dX8_alterRow_10 ?_
    refine lv_iconst (v := (3 : Int32)) hx hb dX8_alterRow_13 rfl ?_
    refine lv_iload_n hx hb dX8_alterRow_14 rfl (lv_at hl 1 rfl) ?_
    refine lv_imul hx hb dX8_alterRow_15 ?_
    refine lv_iload_n hx hb dX8_alterRow_16 rfl (lv_at hl 2 rfl) ?_
    refine lv_iadd hx hb dX8_alterRow_17 ?_
    refine lv_iload_n hx hb dX8_alterRow_18 rfl (lv_at hl 3 rfl) ?_
    replace hf := bd2_inv hf
    obtain ⟨r4, g5, hc6, hf⟩ := hf
    refine r_ciS (ws' := [(h_this, ob 8 [.ref h_this_rock, .ref h_this_kept, .ref h_this_trial, .ref h_this_planner, .ref h_this_reader, .ref h_this_draft, .ref h_this_host, .ref h_this_thing, .ref h_this_tape, .ref h_this_rows, .int x_this_tapeCount, .int x_this_rowCount, .int x_this_isKept]), (h_this_rows, ia G 12 g5)]) C h (c_X8_put hc6) ms_X8_130 rfl [1] rfl rfl [1] [(h_this_rows, ia G 12 g5)] rfl rfl (by decide +kernel) rfl hl.1 rfl (Nat.le_of_ble_eq_true rfl) (rok (by decide)) dX8_alterRow_19 (fun H locs h => ?_)
    refine lv_goto (tgt := 27) hx hb dX8_alterRow_22 rfl ?_
    cases hf
    exact r_iret C h hr hlk rfl dX8_alterRow_27
set_option maxRecDepth 100000 in
set_option maxHeartbeats 4000000 in
theorem c_X3_hasAct {l : Launch} {G : Gt} {h_this h_this_kinds h_this_trims h_this_lanes h_this_lights h_this_currents h_this_buoys h_this_now h_this_rules h_this_reports : Nat} {p0 : Int32} {x_this_count : Int32} {x_this_end : Int32} {x_this_z : Int32} {r : Int32} (hf : f_X3_hasAct p0 x_this_count = some r) : mFi l G yX3_hasAct cX3_hasAct 2 .boolean 0 [.ref h_this, .int p0] [(h_this, ob 3 [.ref h_this_kinds, .ref h_this_trims, .ref h_this_lanes, .ref h_this_lights, .ref h_this_currents, .ref h_this_buoys, .ref h_this_now, .ref h_this_rules, .ref h_this_reports, .int x_this_count, .int x_this_end, .int x_this_z])] r [(h_this, ob 3 [.ref h_this_kinds, .ref h_this_trims, .ref h_this_lanes, .ref h_this_lights, .ref h_this_currents, .ref h_this_buoys, .ref h_this_now, .ref h_this_rules, .ref h_this_reports, .int x_this_count, .int x_this_end, .int x_this_z])] := by
  refine mFi.of (by decide +kernel) (Nat.le_of_ble_eq_true rfl) ?_
  intro p e s m below meth c A C hr hlk h ls hl
  obtain ⟨hx, hb, hml, hown, hts⟩ := id C
  replace hl : lv_has ls 2 [(0, .ref h_this), (1, .int p0)] := hl
  unfold f_X3_hasAct at hf
  refine lv_iload_n hx hb dX3_hasAct_0 rfl (lv_at hl 1 rfl) ?_
  refine lv_if_lt (tgt := 16) hx hb dX3_hasAct_1 rfl (fun c1 => ?_) (fun c1 => ?_)
  · replace hf := ifp c1 hf
    refine lv_iconst (v := (0 : Int32)) hx hb dX3_hasAct_16 rfl ?_
    cases hf
    exact r_iret C h hr hlk rfl dX3_hasAct_17
  · replace hf := ifn c1 hf
    refine lv_iload_n hx hb dX3_hasAct_4 rfl (lv_at hl 1 rfl) ?_
    refine lv_aload_n hx hb dX3_hasAct_5 rfl (lv_at hl 0 rfl) ?_
    refine r_get C h fk_X3_51 0 rfl rfl dX3_hasAct_6 ?_
    refine lv_icmp_gt (tgt := 16) hx hb dX3_hasAct_9 rfl (fun c2 => ?_) (fun c2 => ?_)
    · replace hf := ifp c2 hf
      refine lv_iconst (v := (0 : Int32)) hx hb dX3_hasAct_16 rfl ?_
      cases hf
      exact r_iret C h hr hlk rfl dX3_hasAct_17
    · replace hf := ifn c2 hf
      refine lv_iconst (v := (1 : Int32)) hx hb dX3_hasAct_12 rfl ?_
      refine lv_goto (tgt := 17) hx hb dX3_hasAct_13 rfl ?_
      cases hf
      exact r_iret C h hr hlk rfl dX3_hasAct_17
set_option maxRecDepth 100000 in
set_option maxHeartbeats 4000000 in
theorem c_X8_judge {l : Launch} {G : Gt} {h_this h_this_rock h_this_kept h_this_trial h_this_planner h_this_reader h_this_draft h_this_host h_this_thing h_this_tape h_this_rows h_this_rock_kinds h_this_rock_trims h_this_rock_lanes h_this_rock_lights h_this_rock_currents h_this_rock_buoys h_this_rock_now h_this_rock_rules h_this_rock_reports h_this_rock_now_off h_this_rock_rules_kinds h_this_rock_rules_deeds h_this_rock_rules_begins h_this_rock_rules_steps h_this_rock_rules_lefts h_this_rock_rules_rights h_this_rock_rules_facts h_this_trial_off : Nat} {x_this_tapeCount : Int32} {x_this_rowCount : Int32} {x_this_isKept : Int32} {x_this_rock_count : Int32} {x_this_rock_end : Int32} {x_this_rock_z : Int32} {f_this_rock_buoys : Nat → Int32} {f_this_rock_currents : Nat → Int32} {f_this_rock_kinds : Nat → Int32} {f_this_rock_lanes : Nat → Int32} {f_this_rock_lights : Nat → Int32} {x_this_rock_now_watch : Int32} {x_this_rock_now_score : Int32} {x_this_rock_now_home : Int32} {f_this_rock_now_off : Nat → Int32} {x_this_rock_rules_count : Int32} {x_this_rock_rules_size : Int32} {f_this_rock_rules_begins : Nat → Int32} {f_this_rock_rules_deeds : Nat → Int32} {f_this_rock_rules_facts : Nat → Int32} {f_this_rock_rules_kinds : Nat → Int32} {f_this_rock_rules_lefts : Nat → Int32} {f_this_rock_rules_rights : Nat → Int32} {f_this_rock_rules_steps : Nat → Int32} {f_this_rock_trims : Nat → Int32} {f_this_rows : Nat → Int32} {x_this_trial_watch : Int32} {x_this_trial_score : Int32} {x_this_trial_home : Int32} {f_this_trial_off : Nat → Int32} {r : Int32} {m_this_rock_rules_facts : Nat → Int32} {m_this_trial_watch : Int32} {m_this_trial_score : Int32} {m_this_trial_home : Int32} {m_this_trial_off : Nat → Int32} (hf : f_X8_judge x_this_rowCount x_this_rock_count x_this_rock_end f_this_rock_buoys f_this_rock_currents f_this_rock_kinds f_this_rock_lanes f_this_rock_lights x_this_rock_now_watch x_this_rock_now_score x_this_rock_now_home f_this_rock_now_off x_this_rock_rules_count f_this_rock_rules_begins f_this_rock_rules_deeds f_this_rock_rules_facts f_this_rock_rules_kinds f_this_rock_rules_lefts f_this_rock_rules_rights f_this_rock_rules_steps f_this_rock_trims f_this_rows f_this_trial_off = some (r, m_this_rock_rules_facts, m_this_trial_watch, m_this_trial_score, m_this_trial_home, m_this_trial_off)) : mFi l G yX8_judge cX8_judge 4 .int 5 [.ref h_this] [(h_this, ob 8 [.ref h_this_rock, .ref h_this_kept, .ref h_this_trial, .ref h_this_planner, .ref h_this_reader, .ref h_this_draft, .ref h_this_host, .ref h_this_thing, .ref h_this_tape, .ref h_this_rows, .int x_this_tapeCount, .int x_this_rowCount, .int x_this_isKept]), (h_this_rock, ob 3 [.ref h_this_rock_kinds, .ref h_this_rock_trims, .ref h_this_rock_lanes, .ref h_this_rock_lights, .ref h_this_rock_currents, .ref h_this_rock_buoys, .ref h_this_rock_now, .ref h_this_rock_rules, .ref h_this_rock_reports, .int x_this_rock_count, .int x_this_rock_end, .int x_this_rock_z]), (h_this_rock_buoys, ia G 6 f_this_rock_buoys), (h_this_rock_currents, ia G 6 f_this_rock_currents), (h_this_rock_kinds, ia G 6 f_this_rock_kinds), (h_this_rock_lanes, ia G 6 f_this_rock_lanes), (h_this_rock_lights, ia G 16 f_this_rock_lights), (h_this_rock_now, ob 6 [.ref h_this_rock_now_off, .int x_this_rock_now_watch, .int x_this_rock_now_score, .int x_this_rock_now_home]), (h_this_rock_now_off, ia G 6 f_this_rock_now_off), (h_this_rock_rules, ob 5 [.ref h_this_rock_rules_kinds, .ref h_this_rock_rules_deeds, .ref h_this_rock_rules_begins, .ref h_this_rock_rules_steps, .ref h_this_rock_rules_lefts, .ref h_this_rock_rules_rights, .ref h_this_rock_rules_facts, .int x_this_rock_rules_count, .int x_this_rock_rules_size]), (h_this_rock_rules_begins, ia G 9 f_this_rock_rules_begins), (h_this_rock_rules_deeds, ia G 8 f_this_rock_rules_deeds), (h_this_rock_rules_facts, ia G 5 f_this_rock_rules_facts), (h_this_rock_rules_kinds, ia G 8 f_this_rock_rules_kinds), (h_this_rock_rules_lefts, ia G 200 f_this_rock_rules_lefts), (h_this_rock_rules_rights, ia G 200 f_this_rock_rules_rights), (h_this_rock_rules_steps, ia G 200 f_this_rock_rules_steps), (h_this_rock_trims, ia G 6 f_this_rock_trims), (h_this_rows, ia G 12 f_this_rows), (h_this_trial, ob 6 [.ref h_this_trial_off, .int x_this_trial_watch, .int x_this_trial_score, .int x_this_trial_home]), (h_this_trial_off, ia G 6 f_this_trial_off)] r [(h_this, ob 8 [.ref h_this_rock, .ref h_this_kept, .ref h_this_trial, .ref h_this_planner, .ref h_this_reader, .ref h_this_draft, .ref h_this_host, .ref h_this_thing, .ref h_this_tape, .ref h_this_rows, .int x_this_tapeCount, .int x_this_rowCount, .int x_this_isKept]), (h_this_rock, ob 3 [.ref h_this_rock_kinds, .ref h_this_rock_trims, .ref h_this_rock_lanes, .ref h_this_rock_lights, .ref h_this_rock_currents, .ref h_this_rock_buoys, .ref h_this_rock_now, .ref h_this_rock_rules, .ref h_this_rock_reports, .int x_this_rock_count, .int x_this_rock_end, .int x_this_rock_z]), (h_this_rock_buoys, ia G 6 f_this_rock_buoys), (h_this_rock_currents, ia G 6 f_this_rock_currents), (h_this_rock_kinds, ia G 6 f_this_rock_kinds), (h_this_rock_lanes, ia G 6 f_this_rock_lanes), (h_this_rock_lights, ia G 16 f_this_rock_lights), (h_this_rock_now, ob 6 [.ref h_this_rock_now_off, .int x_this_rock_now_watch, .int x_this_rock_now_score, .int x_this_rock_now_home]), (h_this_rock_now_off, ia G 6 f_this_rock_now_off), (h_this_rock_rules, ob 5 [.ref h_this_rock_rules_kinds, .ref h_this_rock_rules_deeds, .ref h_this_rock_rules_begins, .ref h_this_rock_rules_steps, .ref h_this_rock_rules_lefts, .ref h_this_rock_rules_rights, .ref h_this_rock_rules_facts, .int x_this_rock_rules_count, .int x_this_rock_rules_size]), (h_this_rock_rules_begins, ia G 9 f_this_rock_rules_begins), (h_this_rock_rules_deeds, ia G 8 f_this_rock_rules_deeds), (h_this_rock_rules_facts, ia G 5 m_this_rock_rules_facts), (h_this_rock_rules_kinds, ia G 8 f_this_rock_rules_kinds), (h_this_rock_rules_lefts, ia G 200 f_this_rock_rules_lefts), (h_this_rock_rules_rights, ia G 200 f_this_rock_rules_rights), (h_this_rock_rules_steps, ia G 200 f_this_rock_rules_steps), (h_this_rock_trims, ia G 6 f_this_rock_trims), (h_this_rows, ia G 12 f_this_rows), (h_this_trial, ob 6 [.ref h_this_trial_off, .int m_this_trial_watch, .int m_this_trial_score, .int m_this_trial_home]), (h_this_trial_off, ia G 6 m_this_trial_off)] := by
  refine mFi.of (by decide +kernel) (Nat.le_of_ble_eq_true rfl) ?_
  intro p e s m below meth c A C hr hlk h ls hl
  obtain ⟨hx, hb, hml, hown, hts⟩ := id C
  replace hl : lv_has ls 4 [(0, .ref h_this)] := hl
  unfold f_X8_judge at hf
  refine with_K G A 4 (fun K hK1 hK2 => ?_)
  have L16 : ∀ (n : Nat) (v1 : Int32) (g_this_rock_rules_facts : Nat → Int32) (y_this_trial_watch : Int32) (y_this_trial_score : Int32) (y_this_trial_home : Int32) (g_this_trial_off : Nat → Int32), f_X8_judge_L16 x_this_rowCount x_this_rock_count x_this_rock_end f_this_rock_buoys f_this_rock_currents f_this_rock_kinds f_this_rock_lanes f_this_rock_lights x_this_rock_rules_count f_this_rock_rules_begins f_this_rock_rules_deeds f_this_rock_rules_kinds f_this_rock_rules_lefts f_this_rock_rules_rights f_this_rock_rules_steps f_this_rock_trims f_this_rows n v1 g_this_rock_rules_facts y_this_trial_watch y_this_trial_score y_this_trial_home g_this_trial_off = some (r, m_this_rock_rules_facts, m_this_trial_watch, m_this_trial_score, m_this_trial_home, m_this_trial_off) → K 16 ([] : List Value) [(h_this, ob 8 [.ref h_this_rock, .ref h_this_kept, .ref h_this_trial, .ref h_this_planner, .ref h_this_reader, .ref h_this_draft, .ref h_this_host, .ref h_this_thing, .ref h_this_tape, .ref h_this_rows, .int x_this_tapeCount, .int x_this_rowCount, .int x_this_isKept]), (h_this_rock, ob 3 [.ref h_this_rock_kinds, .ref h_this_rock_trims, .ref h_this_rock_lanes, .ref h_this_rock_lights, .ref h_this_rock_currents, .ref h_this_rock_buoys, .ref h_this_rock_now, .ref h_this_rock_rules, .ref h_this_rock_reports, .int x_this_rock_count, .int x_this_rock_end, .int x_this_rock_z]), (h_this_rock_buoys, ia G 6 f_this_rock_buoys), (h_this_rock_currents, ia G 6 f_this_rock_currents), (h_this_rock_kinds, ia G 6 f_this_rock_kinds), (h_this_rock_lanes, ia G 6 f_this_rock_lanes), (h_this_rock_lights, ia G 16 f_this_rock_lights), (h_this_rock_now, ob 6 [.ref h_this_rock_now_off, .int x_this_rock_now_watch, .int x_this_rock_now_score, .int x_this_rock_now_home]), (h_this_rock_now_off, ia G 6 f_this_rock_now_off), (h_this_rock_rules, ob 5 [.ref h_this_rock_rules_kinds, .ref h_this_rock_rules_deeds, .ref h_this_rock_rules_begins, .ref h_this_rock_rules_steps, .ref h_this_rock_rules_lefts, .ref h_this_rock_rules_rights, .ref h_this_rock_rules_facts, .int x_this_rock_rules_count, .int x_this_rock_rules_size]), (h_this_rock_rules_begins, ia G 9 f_this_rock_rules_begins), (h_this_rock_rules_deeds, ia G 8 f_this_rock_rules_deeds), (h_this_rock_rules_facts, ia G 5 g_this_rock_rules_facts), (h_this_rock_rules_kinds, ia G 8 f_this_rock_rules_kinds), (h_this_rock_rules_lefts, ia G 200 f_this_rock_rules_lefts), (h_this_rock_rules_rights, ia G 200 f_this_rock_rules_rights), (h_this_rock_rules_steps, ia G 200 f_this_rock_rules_steps), (h_this_rock_trims, ia G 6 f_this_rock_trims), (h_this_rows, ia G 12 f_this_rows), (h_this_trial, ob 6 [.ref h_this_trial_off, .int y_this_trial_watch, .int y_this_trial_score, .int y_this_trial_home]), (h_this_trial_off, ia G 6 g_this_trial_off)] [(0, .ref h_this), (1, .int v1)] := by
    intro n
    induction n with
    | zero =>
      intro v1 g_this_rock_rules_facts y_this_trial_watch y_this_trial_score y_this_trial_home g_this_trial_off hf
      replace hf : (none : Option _) = some _ := hf
      cases hf
    | succ n ih =>
      intro v1 g_this_rock_rules_facts y_this_trial_watch y_this_trial_score y_this_trial_home g_this_trial_off hf
      rw [f_X8_judge_L16] at hf
      refine hK1 _ _ _ _ (fun H locs ls h hl => ?_)
      refine lv_iload_n hx hb dX8_judge_16 rfl (lv_at hl 1 rfl) ?_
      refine lv_aload_n hx hb dX8_judge_17 rfl (lv_at hl 0 rfl) ?_
      refine r_get C h fk_X8_72 0 rfl rfl dX8_judge_18 ?_
      refine lv_icmp_ge (tgt := 119) hx hb dX8_judge_21 rfl (fun c6 => ?_) (fun c6 => ?_)
      · replace hf := ifp c6 hf
        refine lv_iconst (v := (0 : Int32)) hx hb dX8_judge_119 rfl ?_
        obtain ⟨rfl, rfl, rfl, rfl, rfl, rfl⟩ := sm6 hf
        exact r_iret C h hr hlk rfl dX8_judge_120
      · replace hf := ifn c6 hf
        refine lv_aload_n hx hb dX8_judge_24 rfl (lv_at hl 0 rfl) ?_
        refine r_get C h fk_X8_65 0 rfl rfl dX8_judge_25 ?_
        refine lv_iconst (v := (3 : Int32)) hx hb dX8_judge_28 rfl ?_
        refine lv_iload_n hx hb dX8_judge_29 rfl (lv_at hl 1 rfl) ?_
        refine lv_imul hx hb dX8_judge_30 ?_
        replace hf := chkI_inv hf
        obtain ⟨hi7, hf⟩ := hf
        refine r_iald C h 18 rfl hi7 dX8_judge_31 ?_
        refine lv_topi (fun t8 et8 => ?_)
        replace hf := lt1_inv et8 hf
        refine lv_istore_n (lv' := [(2, .int t8), (0, .ref h_this), (1, .int v1)]) hx hb dX8_judge_32 rfl hl (by decide) rfl (fun ls hl => ?_)
        refine lv_aload_n hx hb dX8_judge_33 rfl (lv_at hl 1 rfl) ?_
        refine r_get C h fk_X8_10 0 rfl rfl dX8_judge_34 ?_
        refine lv_iload_n hx hb dX8_judge_37 rfl (lv_at hl 0 rfl) ?_
        replace hf := bd1_inv hf
        obtain ⟨r9, hc10, hf⟩ := hf
        refine r_ciV0 C h (c_X3_hasAct hc10) mv_X8_294 rfl 1 rfl [1] rfl rfl hl.1 rfl (Nat.le_of_ble_eq_true rfl) (rok (by decide)) dX8_judge_38 (fun H locs h => ?_)
        refine lv_if_eq (tgt := 58) hx hb dX8_judge_41 rfl (fun c11 => ?_) (fun c11 => ?_)
        · replace hf := ifp c11 hf
          refine lv_iload_n hx hb dX8_judge_58 rfl (lv_at hl 2 rfl) ?_
          refine lv_iconst (v := (1 : Int32)) hx hb dX8_judge_59 rfl ?_
          refine lv_iadd hx hb dX8_judge_60 ?_
          obtain ⟨rfl, rfl, rfl, rfl, rfl, rfl⟩ := sm6 hf
          exact r_iret C h hr hlk rfl dX8_judge_61
        · replace hf := ifn c11 hf
          refine lv_aload_n hx hb dX8_judge_44 rfl (lv_at hl 1 rfl) ?_
          refine r_get C h fk_X8_10 0 rfl rfl dX8_judge_45 ?_
          refine lv_aload_n hx hb dX8_judge_48 rfl (lv_at hl 1 rfl) ?_
          refine r_get C h fk_X8_22 0 rfl rfl dX8_judge_49 ?_
          replace hf := bd1_inv hf
          obtain ⟨r12, hc13, hf⟩ := hf
          refine r_ciV0 C h (c_X3_isOver hc13) mv_X8_159 rfl 1 rfl [19, 1] rfl rfl hl.1 rfl (Nat.le_of_ble_eq_true rfl) (rok (by decide)) dX8_judge_52 (fun H locs h => ?_)
          refine lv_if_eq (tgt := 62) hx hb dX8_judge_55 rfl (fun c14 => ?_) (fun c14 => ?_)
          · replace hf := ifp c14 hf
            refine lv_aload_n hx hb dX8_judge_62 rfl (lv_at hl 1 rfl) ?_
            refine r_get C h fk_X8_10 0 rfl rfl dX8_judge_63 ?_
            refine lv_aload_n hx hb dX8_judge_66 rfl (lv_at hl 1 rfl) ?_
            refine r_get C h fk_X8_22 0 rfl rfl dX8_judge_67 ?_
            refine lv_iload_n hx hb dX8_judge_70 rfl (lv_at hl 0 rfl) ?_
            replace hf := bd6_inv hf
            obtain ⟨r15, y16, y17, y18, g19, g20, hc21, hf⟩ := hf
            refine r_ciV (ws' := [(h_this, ob 8 [.ref h_this_rock, .ref h_this_kept, .ref h_this_trial, .ref h_this_planner, .ref h_this_reader, .ref h_this_draft, .ref h_this_host, .ref h_this_thing, .ref h_this_tape, .ref h_this_rows, .int x_this_tapeCount, .int x_this_rowCount, .int x_this_isKept]), (h_this_rock, ob 3 [.ref h_this_rock_kinds, .ref h_this_rock_trims, .ref h_this_rock_lanes, .ref h_this_rock_lights, .ref h_this_rock_currents, .ref h_this_rock_buoys, .ref h_this_rock_now, .ref h_this_rock_rules, .ref h_this_rock_reports, .int x_this_rock_count, .int x_this_rock_end, .int x_this_rock_z]), (h_this_rock_buoys, ia G 6 f_this_rock_buoys), (h_this_rock_currents, ia G 6 f_this_rock_currents), (h_this_rock_kinds, ia G 6 f_this_rock_kinds), (h_this_rock_lanes, ia G 6 f_this_rock_lanes), (h_this_rock_lights, ia G 16 f_this_rock_lights), (h_this_rock_now, ob 6 [.ref h_this_rock_now_off, .int x_this_rock_now_watch, .int x_this_rock_now_score, .int x_this_rock_now_home]), (h_this_rock_now_off, ia G 6 f_this_rock_now_off), (h_this_rock_rules, ob 5 [.ref h_this_rock_rules_kinds, .ref h_this_rock_rules_deeds, .ref h_this_rock_rules_begins, .ref h_this_rock_rules_steps, .ref h_this_rock_rules_lefts, .ref h_this_rock_rules_rights, .ref h_this_rock_rules_facts, .int x_this_rock_rules_count, .int x_this_rock_rules_size]), (h_this_rock_rules_begins, ia G 9 f_this_rock_rules_begins), (h_this_rock_rules_deeds, ia G 8 f_this_rock_rules_deeds), (h_this_rock_rules_facts, ia G 5 g20), (h_this_rock_rules_kinds, ia G 8 f_this_rock_rules_kinds), (h_this_rock_rules_lefts, ia G 200 f_this_rock_rules_lefts), (h_this_rock_rules_rights, ia G 200 f_this_rock_rules_rights), (h_this_rock_rules_steps, ia G 200 f_this_rock_rules_steps), (h_this_rock_trims, ia G 6 f_this_rock_trims), (h_this_rows, ia G 12 f_this_rows), (h_this_trial, ob 6 [.ref h_this_trial_off, .int y16, .int y17, .int y18]), (h_this_trial_off, ia G 6 g19)]) C h (c_X3_pass hc21) mv_X8_287 rfl 1 rfl [19, 20, 1, 2, 3, 4, 5, 6, 9, 10, 11, 12, 13, 14, 15, 16, 17] rfl rfl [12, 19, 20] [(h_this_rock_rules_facts, ia G 5 g20), (h_this_trial, ob 6 [.ref h_this_trial_off, .int y16, .int y17, .int y18]), (h_this_trial_off, ia G 6 g19)] rfl rfl (by decide +kernel) rfl hl.1 rfl (Nat.le_of_ble_eq_true rfl) (rok (by decide)) dX8_judge_71 (fun H locs h => ?_)
            refine lv_istore_n (lv' := [(3, .int r15), (2, .int t8), (0, .ref h_this), (1, .int v1)]) hx hb dX8_judge_74 rfl hl (by decide) rfl (fun ls hl => ?_)
            refine lv_iload_n hx hb dX8_judge_75 rfl (lv_at hl 0 rfl) ?_
            refine lv_aload_n hx hb dX8_judge_76 rfl (lv_at hl 2 rfl) ?_
            refine r_get C h fk_X8_65 0 rfl rfl dX8_judge_77 ?_
            refine lv_iconst (v := (3 : Int32)) hx hb dX8_judge_80 rfl ?_
            refine lv_iload_n hx hb dX8_judge_81 rfl (lv_at hl 3 rfl) ?_
            refine lv_imul hx hb dX8_judge_82 ?_
            refine lv_iconst (v := (1 : Int32)) hx hb dX8_judge_83 rfl ?_
            refine lv_iadd hx hb dX8_judge_84 ?_
            replace hf := chkI_inv hf
            obtain ⟨hi22, hf⟩ := hf
            refine r_iald C h 18 rfl hi22 dX8_judge_85 ?_
            refine lv_icmp_ne (tgt := 109) hx hb dX8_judge_86 rfl (fun c23 => ?_) (fun c23 => ?_)
            · replace hf := ifn c23 hf
              refine lv_iload_n hx hb dX8_judge_109 rfl (lv_at hl 3 rfl) ?_
              refine lv_iconst (v := (1 : Int32)) hx hb dX8_judge_110 rfl ?_
              refine lv_iadd hx hb dX8_judge_111 ?_
              obtain ⟨rfl, rfl, rfl, rfl, rfl, rfl⟩ := sm6 hf
              exact r_iret C h hr hlk rfl dX8_judge_112
            · replace hf := ifp c23 hf
              refine lv_aload_n hx hb dX8_judge_89 rfl (lv_at hl 2 rfl) ?_
              refine r_get C h fk_X8_22 0 rfl rfl dX8_judge_90 ?_
              refine r_get C h fk_X8_156 19 rfl rfl dX8_judge_93 ?_
              refine lv_aload_n hx hb dX8_judge_96 rfl (lv_at hl 2 rfl) ?_
              refine r_get C h fk_X8_65 0 rfl rfl dX8_judge_97 ?_
              refine lv_iconst (v := (3 : Int32)) hx hb dX8_judge_100 rfl ?_
              refine lv_iload_n hx hb dX8_judge_101 rfl (lv_at hl 3 rfl) ?_
              refine lv_imul hx hb dX8_judge_102 ?_
              refine lv_iconst (v := (2 : Int32)) hx hb dX8_judge_103 rfl ?_
              refine lv_iadd hx hb dX8_judge_104 ?_
              replace hf := chkI_inv hf
              obtain ⟨hi24, hf⟩ := hf
              refine r_iald C h 18 rfl hi24 dX8_judge_105 ?_
              refine lv_icmp_eq (tgt := 113) hx hb dX8_judge_106 rfl (fun c25 => ?_) (fun c25 => ?_)
              · replace hf := ifp c25 hf
                obtain ⟨t26, et26⟩ : ∃ y : Int32, y = v1 + (1 : Int32) := ⟨_, rfl⟩
                replace hf := lt1_inv et26 hf
                refine lv_iinc (v := t26) (lv' := [(1, .int t26), (3, .int r15), (2, .int t8), (0, .ref h_this)]) hx hb dX8_judge_113 hl (k := 3) rfl (by rw [et26]; rfl) (by decide) rfl (fun ls hl => ?_)
                refine lv_goto (tgt := 16) hx hb dX8_judge_116 rfl ?_
                exact hK2 _ _ _ _ (ih t26 g20 y16 y17 y18 g19 hf) _ _ _ h (lv_sub hl [3, 0] rfl)
              · replace hf := ifn c25 hf
                refine lv_iload_n hx hb dX8_judge_109 rfl (lv_at hl 3 rfl) ?_
                refine lv_iconst (v := (1 : Int32)) hx hb dX8_judge_110 rfl ?_
                refine lv_iadd hx hb dX8_judge_111 ?_
                obtain ⟨rfl, rfl, rfl, rfl, rfl, rfl⟩ := sm6 hf
                exact r_iret C h hr hlk rfl dX8_judge_112
          · replace hf := ifn c14 hf
            refine lv_iload_n hx hb dX8_judge_58 rfl (lv_at hl 2 rfl) ?_
            refine lv_iconst (v := (1 : Int32)) hx hb dX8_judge_59 rfl ?_
            refine lv_iadd hx hb dX8_judge_60 ?_
            obtain ⟨rfl, rfl, rfl, rfl, rfl, rfl⟩ := sm6 hf
            exact r_iret C h hr hlk rfl dX8_judge_61
  refine lv_aload_n hx hb dX8_judge_0 rfl (lv_at hl 0 rfl) ?_
  refine r_get C h fk_X8_22 0 rfl rfl dX8_judge_1 ?_
  refine lv_aload_n hx hb dX8_judge_4 rfl (lv_at hl 0 rfl) ?_
  refine r_get C h fk_X8_10 0 rfl rfl dX8_judge_5 ?_
  refine r_get C h fk_X8_94 1 rfl rfl dX8_judge_8 ?_
  replace hf := bd4_inv hf
  obtain ⟨y1, y2, y3, g4, hc5, hf⟩ := hf
  refine r_cvV (ws' := [(h_this, ob 8 [.ref h_this_rock, .ref h_this_kept, .ref h_this_trial, .ref h_this_planner, .ref h_this_reader, .ref h_this_draft, .ref h_this_host, .ref h_this_thing, .ref h_this_tape, .ref h_this_rows, .int x_this_tapeCount, .int x_this_rowCount, .int x_this_isKept]), (h_this_rock, ob 3 [.ref h_this_rock_kinds, .ref h_this_rock_trims, .ref h_this_rock_lanes, .ref h_this_rock_lights, .ref h_this_rock_currents, .ref h_this_rock_buoys, .ref h_this_rock_now, .ref h_this_rock_rules, .ref h_this_rock_reports, .int x_this_rock_count, .int x_this_rock_end, .int x_this_rock_z]), (h_this_rock_buoys, ia G 6 f_this_rock_buoys), (h_this_rock_currents, ia G 6 f_this_rock_currents), (h_this_rock_kinds, ia G 6 f_this_rock_kinds), (h_this_rock_lanes, ia G 6 f_this_rock_lanes), (h_this_rock_lights, ia G 16 f_this_rock_lights), (h_this_rock_now, ob 6 [.ref h_this_rock_now_off, .int x_this_rock_now_watch, .int x_this_rock_now_score, .int x_this_rock_now_home]), (h_this_rock_now_off, ia G 6 f_this_rock_now_off), (h_this_rock_rules, ob 5 [.ref h_this_rock_rules_kinds, .ref h_this_rock_rules_deeds, .ref h_this_rock_rules_begins, .ref h_this_rock_rules_steps, .ref h_this_rock_rules_lefts, .ref h_this_rock_rules_rights, .ref h_this_rock_rules_facts, .int x_this_rock_rules_count, .int x_this_rock_rules_size]), (h_this_rock_rules_begins, ia G 9 f_this_rock_rules_begins), (h_this_rock_rules_deeds, ia G 8 f_this_rock_rules_deeds), (h_this_rock_rules_facts, ia G 5 f_this_rock_rules_facts), (h_this_rock_rules_kinds, ia G 8 f_this_rock_rules_kinds), (h_this_rock_rules_lefts, ia G 200 f_this_rock_rules_lefts), (h_this_rock_rules_rights, ia G 200 f_this_rock_rules_rights), (h_this_rock_rules_steps, ia G 200 f_this_rock_rules_steps), (h_this_rock_trims, ia G 6 f_this_rock_trims), (h_this_rows, ia G 12 f_this_rows), (h_this_trial, ob 6 [.ref h_this_trial_off, .int y1, .int y2, .int y3]), (h_this_trial_off, ia G 6 g4)]) C h (c_X6_become hc5) mv_X8_189 rfl 19 rfl [7, 8, 19, 20] rfl rfl [19, 20] [(h_this_trial, ob 6 [.ref h_this_trial_off, .int y1, .int y2, .int y3]), (h_this_trial_off, ia G 6 g4)] rfl rfl (by decide +kernel) rfl hl.1 rfl (Nat.le_of_ble_eq_true rfl) (rok (by decide)) dX8_judge_11 (fun H locs h => ?_)
  refine lv_iconst (v := (0 : Int32)) hx hb dX8_judge_14 rfl ?_
  refine lv_istore_n (lv' := [(1, .int (0 : Int32)), (0, .ref h_this)]) hx hb dX8_judge_15 rfl hl (by decide) rfl (fun ls hl => ?_)
  exact hK2 _ _ _ _ (L16 1000 (0 : Int32) f_this_rock_rules_facts y1 y2 y3 g4 hf) _ _ _ h (lv_sub hl [1, 0] rfl)
set_option maxRecDepth 100000 in
set_option maxHeartbeats 4000000 in
theorem c_X0_hasSheet {l : Launch} {G : Gt} {p0 : Int32} {r : Int32} (hf : f_X0_hasSheet p0 = some r) : mFi l G yX0_hasSheet cX0_hasSheet 1 .boolean 0 [.int p0] ([] : va_W) r ([] : va_W) := by
  refine mFi.of (by decide +kernel) (Nat.le_of_ble_eq_true rfl) ?_
  intro p e s m below meth c A C hr hlk h ls hl
  obtain ⟨hx, hb, hml, hown, hts⟩ := id C
  replace hl : lv_has ls 1 [(0, .int p0)] := hl
  unfold f_X0_hasSheet at hf
  refine lv_iload_n hx hb dX0_hasSheet_0 rfl (lv_at hl 0 rfl) ?_
  refine lv_if_lt (tgt := 13) hx hb dX0_hasSheet_1 rfl (fun c1 => ?_) (fun c1 => ?_)
  · replace hf := ifp c1 hf
    refine lv_iconst (v := (0 : Int32)) hx hb dX0_hasSheet_13 rfl ?_
    cases hf
    exact r_iret C h hr hlk rfl dX0_hasSheet_14
  · replace hf := ifn c1 hf
    refine lv_iload_n hx hb dX0_hasSheet_4 rfl (lv_at hl 0 rfl) ?_
    refine lv_iconst (v := (4 : Int32)) hx hb dX0_hasSheet_5 rfl ?_
    refine lv_icmp_ge (tgt := 13) hx hb dX0_hasSheet_6 rfl (fun c2 => ?_) (fun c2 => ?_)
    · replace hf := ifp c2 hf
      refine lv_iconst (v := (0 : Int32)) hx hb dX0_hasSheet_13 rfl ?_
      cases hf
      exact r_iret C h hr hlk rfl dX0_hasSheet_14
    · replace hf := ifn c2 hf
      refine lv_iconst (v := (1 : Int32)) hx hb dX0_hasSheet_9 rfl ?_
      refine lv_goto (tgt := 14) hx hb dX0_hasSheet_10 rfl ?_
      cases hf
      exact r_iret C h hr hlk rfl dX0_hasSheet_14
set_option maxRecDepth 100000 in
set_option maxHeartbeats 4000000 in
theorem c_J7_rangeCheck_23922 {l : Launch} {G : Gt} {p0 : Int32} {p1 : Int32} {p2 : Int32} (hf : f_J7_rangeCheck_23922 p0 p1 p2 = some ()) : mFv l G yJ7_rangeCheck_23922 cJ7_rangeCheck_23922 3 0 [.int p0, .int p1, .int p2] ([] : va_W) ([] : va_W) := by
  refine mFv.of (by decide +kernel) (Nat.le_of_ble_eq_true rfl) ?_
  intro p e s m below meth c A C hr hlk h ls hl
  obtain ⟨hx, hb, hml, hown, hts⟩ := id C
  replace hl : lv_has ls 3 [(0, .int p0), (1, .int p1), (2, .int p2)] := hl
  unfold f_J7_rangeCheck_23922 at hf
  refine lv_iload_n hx hb dJ7_rangeCheck_23922_0 rfl (lv_at hl 1 rfl) ?_
  refine lv_iload_n hx hb dJ7_rangeCheck_23922_1 rfl (lv_at hl 2 rfl) ?_
  refine lv_icmp_le (tgt := 46) hx hb dJ7_rangeCheck_23922_2 rfl (fun c1 => ?_) (fun c1 => ?_)
  · replace hf := ifp c1 hf
    refine lv_iload_n hx hb dJ7_rangeCheck_23922_46 rfl (lv_at hl 1 rfl) ?_
    refine lv_if_ge (tgt := 59) hx hb dJ7_rangeCheck_23922_47 rfl (fun c2 => ?_) (fun c2 => ?_)
    · replace hf := ifp c2 hf
      refine lv_iload_n hx hb dJ7_rangeCheck_23922_59 rfl (lv_at hl 2 rfl) ?_
      refine lv_iload_n hx hb dJ7_rangeCheck_23922_60 rfl (lv_at hl 0 rfl) ?_
      refine lv_icmp_le (tgt := 73) hx hb dJ7_rangeCheck_23922_61 rfl (fun c3 => ?_) (fun c3 => ?_)
      · replace hf := ifp c3 hf
        cases hf
        exact r_vret C h hr hlk dJ7_rangeCheck_23922_73
      · replace hf := ifn c3 hf
        cases hf
    · replace hf := ifn c2 hf
      cases hf
  · replace hf := ifn c1 hf
    cases hf
set_option maxRecDepth 100000 in
set_option maxHeartbeats 4000000 in
theorem c_J7_fill_fda19 {l : Launch} {G : Gt} {h_a0 : Nat} {p1 : Int32} {p2 : Int32} {p3 : Int32} {n_a0 : Nat} {f_a0 : Nat → Int32} {m_a0 : Nat → Int32} (hf : f_J7_fill_fda19 p1 p2 p3 n_a0 f_a0 = some m_a0) : mFv l G yJ7_fill_fda19 cJ7_fill_fda19 5 1 [.ref h_a0, .int p1, .int p2, .int p3] [(h_a0, ia G n_a0 f_a0)] [(h_a0, ia G n_a0 m_a0)] := by
  refine mFv.of (by decide +kernel) (Nat.le_of_ble_eq_true rfl) ?_
  intro p e s m below meth c A C hr hlk h ls hl
  obtain ⟨hx, hb, hml, hown, hts⟩ := id C
  replace hl : lv_has ls 5 [(0, .ref h_a0), (1, .int p1), (2, .int p2), (3, .int p3)] := hl
  unfold f_J7_fill_fda19 at hf
  refine with_K G A 5 (fun K hK1 hK2 => ?_)
  have L10 : ∀ (n : Nat) (v4 : Int32) (g_a0 : Nat → Int32), f_J7_fill_fda19_L10 p2 p3 n_a0 n v4 g_a0 = some m_a0 → K 10 ([] : List Value) [(h_a0, ia G n_a0 g_a0)] [(0, .ref h_a0), (2, .int p2), (3, .int p3), (4, .int v4)] := by
    intro n
    induction n with
    | zero =>
      intro v4 g_a0 hf
      replace hf : (none : Option _) = some _ := hf
      cases hf
    | succ n ih =>
      intro v4 g_a0 hf
      rw [f_J7_fill_fda19_L10] at hf
      refine hK1 _ _ _ _ (fun H locs ls h hl => ?_)
      refine lv_iload hx hb dJ7_fill_fda19_10 (lv_at hl 3 rfl) ?_
      refine lv_iload_n hx hb dJ7_fill_fda19_12 rfl (lv_at hl 1 rfl) ?_
      refine lv_icmp_ge (tgt := 27) hx hb dJ7_fill_fda19_13 rfl (fun c3 => ?_) (fun c3 => ?_)
      · replace hf := ifp c3 hf
        cases hf
        exact r_vret C h hr hlk dJ7_fill_fda19_27
      · replace hf := ifn c3 hf
        refine lv_aload_n hx hb dJ7_fill_fda19_16 rfl (lv_at hl 0 rfl) ?_
        refine lv_iload hx hb dJ7_fill_fda19_17 (lv_at hl 3 rfl) ?_
        refine lv_iload_n hx hb dJ7_fill_fda19_19 rfl (lv_at hl 2 rfl) ?_
        replace hf := chkI_inv hf
        obtain ⟨hi4, hf⟩ := hf
        refine r_iast (ws' := [(h_a0, ia G n_a0 (upd g_a0 v4.toNatClampNeg p3))]) C h 0 rfl hi4 dJ7_fill_fda19_20 rfl (fun H locs h => ?_)
        obtain ⟨t5, et5⟩ : ∃ y : Int32, y = v4 + (1 : Int32) := ⟨_, rfl⟩
        replace hf := lt1_inv et5 hf
        refine lv_iinc (v := t5) (lv' := [(4, .int t5), (0, .ref h_a0), (2, .int p2), (3, .int p3)]) hx hb dJ7_fill_fda19_21 hl (k := 3) rfl (by rw [et5]; rfl) (by decide) rfl (fun ls hl => ?_)
        refine lv_goto (tgt := 10) hx hb dJ7_fill_fda19_24 rfl ?_
        exact hK2 _ _ _ _ (ih t5 (upd g_a0 v4.toNatClampNeg p3) hf) _ _ _ h (lv_sub hl [1, 2, 3, 0] rfl)
  refine lv_aload_n hx hb dJ7_fill_fda19_0 rfl (lv_at hl 0 rfl) ?_
  refine r_alen C h 0 rfl dJ7_fill_fda19_1 ?_
  refine lv_iload_n hx hb dJ7_fill_fda19_2 rfl (lv_at hl 1 rfl) ?_
  refine lv_iload_n hx hb dJ7_fill_fda19_3 rfl (lv_at hl 2 rfl) ?_
  replace hf := bd1_inv hf
  obtain ⟨u2, hc1, hf⟩ := hf
  refine r_cvS0 C h (c_J7_rangeCheck_23922 hc1) ms_J7_13 rfl [] rfl rfl hl.1 rfl (Nat.le_of_ble_eq_true rfl) (rok (by decide)) dJ7_fill_fda19_4 (fun H locs h => ?_)
  refine lv_iload_n hx hb dJ7_fill_fda19_7 rfl (lv_at hl 1 rfl) ?_
  refine lv_istore (lv' := [(4, .int p1), (0, .ref h_a0), (1, .int p1), (2, .int p2), (3, .int p3)]) hx hb dJ7_fill_fda19_8 hl (by decide) rfl (fun ls hl => ?_)
  exact hK2 _ _ _ _ (L10 1000 p1 f_a0 hf) _ _ _ h (lv_sub hl [1, 3, 4, 0] rfl)
set_option maxRecDepth 100000 in
set_option maxHeartbeats 4000000 in
theorem c_X0_lay {l : Launch} {G : Gt} {h_this h_this_sorts h_this_sizes h_this_items h_this_holds h_this_shelfShips h_this_shelfSorts h_this_shelfSizes : Nat} {p0 : Int32} {p1 : Int32} {p2 : Int32} {f_this_items : Nat → Int32} {f_this_sizes : Nat → Int32} {f_this_sorts : Nat → Int32} {m_this_items : Nat → Int32} {m_this_sizes : Nat → Int32} {m_this_sorts : Nat → Int32} (hf : f_X0_lay p0 p1 p2 f_this_items f_this_sizes f_this_sorts = some (m_this_items, m_this_sizes, m_this_sorts)) : mFv l G yX0_lay cX0_lay 4 2 [.ref h_this, .int p0, .int p1, .int p2] [(h_this, ob 0 [.ref h_this_sorts, .ref h_this_sizes, .ref h_this_items, .ref h_this_holds, .ref h_this_shelfShips, .ref h_this_shelfSorts, .ref h_this_shelfSizes]), (h_this_items, ia G 160 f_this_items), (h_this_sizes, ia G 4 f_this_sizes), (h_this_sorts, ia G 4 f_this_sorts)] [(h_this, ob 0 [.ref h_this_sorts, .ref h_this_sizes, .ref h_this_items, .ref h_this_holds, .ref h_this_shelfShips, .ref h_this_shelfSorts, .ref h_this_shelfSizes]), (h_this_items, ia G 160 m_this_items), (h_this_sizes, ia G 4 m_this_sizes), (h_this_sorts, ia G 4 m_this_sorts)] := by
  refine mFv.of (by decide +kernel) (Nat.le_of_ble_eq_true rfl) ?_
  intro p e s m below meth c A C hr hlk h ls hl
  obtain ⟨hx, hb, hml, hown, hts⟩ := id C
  replace hl : lv_has ls 4 [(0, .ref h_this), (1, .int p0), (2, .int p1), (3, .int p2)] := hl
  unfold f_X0_lay at hf
  refine with_K G A 4 (fun K hK1 hK2 => ?_)
  have B22 : ∀ (s1 : Int32) (s2 : Int32) (g_this_sorts : Nat → Int32), f_X0_lay_b22 p0 f_this_items f_this_sizes s1 s2 g_this_sorts = some (m_this_items, m_this_sizes, m_this_sorts) → K 22 [.int s2, .int s1, .ref h_this_sizes] [(h_this, ob 0 [.ref h_this_sorts, .ref h_this_sizes, .ref h_this_items, .ref h_this_holds, .ref h_this_shelfShips, .ref h_this_shelfSorts, .ref h_this_shelfSizes]), (h_this_items, ia G 160 f_this_items), (h_this_sizes, ia G 4 f_this_sizes), (h_this_sorts, ia G 4 g_this_sorts)] [(0, .ref h_this), (1, .int p0)] := by
    intro s1 s2 g_this_sorts hf
    unfold f_X0_lay_b22 at hf
    refine hK1 _ _ _ _ (fun H locs ls h hl => ?_)
    replace hf := chkI_inv hf
    obtain ⟨hi3, hf⟩ := hf
    refine r_iast (ws' := [(h_this, ob 0 [.ref h_this_sorts, .ref h_this_sizes, .ref h_this_items, .ref h_this_holds, .ref h_this_shelfShips, .ref h_this_shelfSorts, .ref h_this_shelfSizes]), (h_this_items, ia G 160 f_this_items), (h_this_sizes, ia G 4 (upd f_this_sizes s1.toNatClampNeg s2)), (h_this_sorts, ia G 4 g_this_sorts)]) C h 2 rfl hi3 dX0_lay_22 rfl (fun H locs h => ?_)
    refine lv_aload_n hx hb dX0_lay_23 rfl (lv_at hl 0 rfl) ?_
    refine r_get C h fk_X0_18 0 rfl rfl dX0_lay_24 ?_
    refine lv_iload_n hx hb dX0_lay_27 rfl (lv_at hl 1 rfl) ?_
    refine lv_bipush (v := (40 : Int32)) hx hb dX0_lay_28 rfl ?_
    refine lv_imul hx hb dX0_lay_30 ?_
    refine lv_iload_n hx hb dX0_lay_31 rfl (lv_at hl 1 rfl) ?_
    refine lv_iconst (v := (1 : Int32)) hx hb dX0_lay_32 rfl ?_
    refine lv_iadd hx hb dX0_lay_33 ?_
    refine lv_bipush (v := (40 : Int32)) hx hb dX0_lay_34 rfl ?_
    refine lv_imul hx hb dX0_lay_36 ?_
    refine lv_iconst (v := (0 : Int32)) hx hb dX0_lay_37 rfl ?_
    replace hf := bd1_inv hf
    obtain ⟨g4, hc5, hf⟩ := hf
    refine r_cvS (ws' := [(h_this, ob 0 [.ref h_this_sorts, .ref h_this_sizes, .ref h_this_items, .ref h_this_holds, .ref h_this_shelfShips, .ref h_this_shelfSorts, .ref h_this_shelfSizes]), (h_this_items, ia G 160 g4), (h_this_sizes, ia G 4 (upd f_this_sizes s1.toNatClampNeg s2)), (h_this_sorts, ia G 4 g_this_sorts)]) C h (c_J7_fill_fda19 hc5) ms_X0_43 rfl [1] rfl rfl [1] [(h_this_items, ia G 160 g4)] rfl rfl (by decide +kernel) rfl hl.1 rfl (Nat.le_of_ble_eq_true rfl) (rok (by decide)) dX0_lay_38 (fun H locs h => ?_)
    cases hf
    exact r_vret C h hr hlk dX0_lay_41
  refine lv_aload_n hx hb dX0_lay_0 rfl (lv_at hl 0 rfl) ?_
  refine r_get C h fk_X0_9 0 rfl rfl dX0_lay_1 ?_
  refine lv_iload_n hx hb dX0_lay_4 rfl (lv_at hl 1 rfl) ?_
  refine lv_iload_n hx hb dX0_lay_5 rfl (lv_at hl 2 rfl) ?_
  replace hf := chkI_inv hf
  obtain ⟨hi1, hf⟩ := hf
  refine r_iast (ws' := [(h_this, ob 0 [.ref h_this_sorts, .ref h_this_sizes, .ref h_this_items, .ref h_this_holds, .ref h_this_shelfShips, .ref h_this_shelfSorts, .ref h_this_shelfSizes]), (h_this_items, ia G 160 f_this_items), (h_this_sizes, ia G 4 f_this_sizes), (h_this_sorts, ia G 4 (upd f_this_sorts p0.toNatClampNeg p1))]) C h 3 rfl hi1 dX0_lay_6 rfl (fun H locs h => ?_)
  refine lv_aload_n hx hb dX0_lay_7 rfl (lv_at hl 0 rfl) ?_
  refine r_get C h fk_X0_15 0 rfl rfl dX0_lay_8 ?_
  refine lv_iload_n hx hb dX0_lay_11 rfl (lv_at hl 1 rfl) ?_
  refine lv_iload_n hx hb dX0_lay_12 rfl (lv_at hl 2 rfl) ?_
  refine lv_iconst (v := (-1 : Int32)) hx hb dX0_lay_13 rfl ?_
  refine lv_icmp_ne (tgt := 21) hx hb dX0_lay_14 rfl (fun c2 => ?_) (fun c2 => ?_)
  · replace hf := ifn c2 hf
    refine lv_iload_n hx hb dX0_lay_21 rfl (lv_at hl 3 rfl) ?_
    exact hK2 _ _ _ _ (B22 p0 p2 (upd f_this_sorts p0.toNatClampNeg p1) hf) _ _ _ h (lv_sub hl [0, 1] rfl)
  · replace hf := ifp c2 hf
    refine lv_iconst (v := (0 : Int32)) hx hb dX0_lay_17 rfl ?_
    refine lv_goto (tgt := 22) hx hb dX0_lay_18 rfl ?_
    exact hK2 _ _ _ _ (B22 p0 (0 : Int32) (upd f_this_sorts p0.toNatClampNeg p1) hf) _ _ _ h (lv_sub hl [0, 1] rfl)
set_option maxRecDepth 100000 in
set_option maxHeartbeats 4000000 in
theorem c_X8_sheet {l : Launch} {G : Gt} {h_this h_this_rock h_this_kept h_this_trial h_this_planner h_this_reader h_this_draft h_this_host h_this_thing h_this_tape h_this_rows h_this_host_sorts h_this_host_sizes h_this_host_items h_this_host_holds h_this_host_shelfShips h_this_host_shelfSorts h_this_host_shelfSizes : Nat} {p0 : Int32} {p1 : Int32} {p2 : Int32} {x_this_tapeCount : Int32} {x_this_rowCount : Int32} {x_this_isKept : Int32} {f_this_host_items : Nat → Int32} {f_this_host_sizes : Nat → Int32} {f_this_host_sorts : Nat → Int32} {r : Int32} {m_this_host_items : Nat → Int32} {m_this_host_sizes : Nat → Int32} {m_this_host_sorts : Nat → Int32} (hf : f_X8_sheet p0 p1 p2 f_this_host_items f_this_host_sizes f_this_host_sorts = some (r, m_this_host_items, m_this_host_sizes, m_this_host_sorts)) : mFi l G yX8_sheet cX8_sheet 4 .int 3 [.ref h_this, .int p0, .int p1, .int p2] [(h_this, ob 8 [.ref h_this_rock, .ref h_this_kept, .ref h_this_trial, .ref h_this_planner, .ref h_this_reader, .ref h_this_draft, .ref h_this_host, .ref h_this_thing, .ref h_this_tape, .ref h_this_rows, .int x_this_tapeCount, .int x_this_rowCount, .int x_this_isKept]), (h_this_host, ob 0 [.ref h_this_host_sorts, .ref h_this_host_sizes, .ref h_this_host_items, .ref h_this_host_holds, .ref h_this_host_shelfShips, .ref h_this_host_shelfSorts, .ref h_this_host_shelfSizes]), (h_this_host_items, ia G 160 f_this_host_items), (h_this_host_sizes, ia G 4 f_this_host_sizes), (h_this_host_sorts, ia G 4 f_this_host_sorts)] r [(h_this, ob 8 [.ref h_this_rock, .ref h_this_kept, .ref h_this_trial, .ref h_this_planner, .ref h_this_reader, .ref h_this_draft, .ref h_this_host, .ref h_this_thing, .ref h_this_tape, .ref h_this_rows, .int x_this_tapeCount, .int x_this_rowCount, .int x_this_isKept]), (h_this_host, ob 0 [.ref h_this_host_sorts, .ref h_this_host_sizes, .ref h_this_host_items, .ref h_this_host_holds, .ref h_this_host_shelfShips, .ref h_this_host_shelfSorts, .ref h_this_host_shelfSizes]), (h_this_host_items, ia G 160 m_this_host_items), (h_this_host_sizes, ia G 4 m_this_host_sizes), (h_this_host_sorts, ia G 4 m_this_host_sorts)] := by
  refine mFi.of (by decide +kernel) (Nat.le_of_ble_eq_true rfl) ?_
  intro p e s m below meth c A C hr hlk h ls hl
  obtain ⟨hx, hb, hml, hown, hts⟩ := id C
  replace hl : lv_has ls 4 [(0, .ref h_this), (1, .int p0), (2, .int p1), (3, .int p2)] := hl
  unfold f_X8_sheet at hf
  refine with_K G A 4 (fun K hK1 hK2 => ?_)
  have B31 : f_X8_sheet_b31 p0 p1 p2 f_this_host_items f_this_host_sizes f_this_host_sorts = some (r, m_this_host_items, m_this_host_sizes, m_this_host_sorts) → K 31 ([] : List Value) [(h_this, ob 8 [.ref h_this_rock, .ref h_this_kept, .ref h_this_trial, .ref h_this_planner, .ref h_this_reader, .ref h_this_draft, .ref h_this_host, .ref h_this_thing, .ref h_this_tape, .ref h_this_rows, .int x_this_tapeCount, .int x_this_rowCount, .int x_this_isKept]), (h_this_host, ob 0 [.ref h_this_host_sorts, .ref h_this_host_sizes, .ref h_this_host_items, .ref h_this_host_holds, .ref h_this_host_shelfShips, .ref h_this_host_shelfSorts, .ref h_this_host_shelfSizes]), (h_this_host_items, ia G 160 f_this_host_items), (h_this_host_sizes, ia G 4 f_this_host_sizes), (h_this_host_sorts, ia G 4 f_this_host_sorts)] [(0, .ref h_this), (1, .int p0), (2, .int p1), (3, .int p2)] := by
    intro hf
    unfold f_X8_sheet_b31 at hf
    refine hK1 _ _ _ _ (fun H locs ls h hl => ?_)
    refine lv_iload_n hx hb dX8_sheet_31 rfl (lv_at hl 2 rfl) ?_
    refine lv_iconst (v := (-1 : Int32)) hx hb dX8_sheet_32 rfl ?_
    refine lv_icmp_eq (tgt := 43) hx hb dX8_sheet_33 rfl (fun c8 => ?_) (fun c8 => ?_)
    · replace hf := ifp c8 hf
      refine lv_aload_n hx hb dX8_sheet_43 rfl (lv_at hl 0 rfl) ?_
      refine r_get C h fk_X8_50 0 rfl rfl dX8_sheet_44 ?_
      refine lv_iload_n hx hb dX8_sheet_47 rfl (lv_at hl 1 rfl) ?_
      refine lv_iload_n hx hb dX8_sheet_48 rfl (lv_at hl 2 rfl) ?_
      refine lv_iload_n hx hb dX8_sheet_49 rfl (lv_at hl 3 rfl) ?_
      replace hf := bd3_inv hf
      obtain ⟨g9, g10, g11, hc12, hf⟩ := hf
      refine r_cvV (ws' := [(h_this, ob 8 [.ref h_this_rock, .ref h_this_kept, .ref h_this_trial, .ref h_this_planner, .ref h_this_reader, .ref h_this_draft, .ref h_this_host, .ref h_this_thing, .ref h_this_tape, .ref h_this_rows, .int x_this_tapeCount, .int x_this_rowCount, .int x_this_isKept]), (h_this_host, ob 0 [.ref h_this_host_sorts, .ref h_this_host_sizes, .ref h_this_host_items, .ref h_this_host_holds, .ref h_this_host_shelfShips, .ref h_this_host_shelfSorts, .ref h_this_host_shelfSizes]), (h_this_host_items, ia G 160 g9), (h_this_host_sizes, ia G 4 g10), (h_this_host_sorts, ia G 4 g11)]) C h (c_X0_lay hc12) mv_X8_300 rfl 1 rfl [1, 2, 3, 4] rfl rfl [2, 3, 4] [(h_this_host_items, ia G 160 g9), (h_this_host_sizes, ia G 4 g10), (h_this_host_sorts, ia G 4 g11)] rfl rfl (by decide +kernel) rfl hl.1 rfl (Nat.le_of_ble_eq_true rfl) (rok (by decide)) dX8_sheet_50 (fun H locs h => ?_)
      refine lv_iconst (v := (1 : Int32)) hx hb dX8_sheet_53 rfl ?_
      cases hf
      exact r_iret C h hr hlk rfl dX8_sheet_54
    · replace hf := ifn c8 hf
      refine lv_iload_n hx hb dX8_sheet_36 rfl (lv_at hl 3 rfl) ?_
      refine lv_if_ge (tgt := 43) hx hb dX8_sheet_37 rfl (fun c13 => ?_) (fun c13 => ?_)
      · replace hf := ifp c13 hf
        refine lv_aload_n hx hb dX8_sheet_43 rfl (lv_at hl 0 rfl) ?_
        refine r_get C h fk_X8_50 0 rfl rfl dX8_sheet_44 ?_
        refine lv_iload_n hx hb dX8_sheet_47 rfl (lv_at hl 1 rfl) ?_
        refine lv_iload_n hx hb dX8_sheet_48 rfl (lv_at hl 2 rfl) ?_
        refine lv_iload_n hx hb dX8_sheet_49 rfl (lv_at hl 3 rfl) ?_
        replace hf := bd3_inv hf
        obtain ⟨g14, g15, g16, hc17, hf⟩ := hf
        refine r_cvV (ws' := [(h_this, ob 8 [.ref h_this_rock, .ref h_this_kept, .ref h_this_trial, .ref h_this_planner, .ref h_this_reader, .ref h_this_draft, .ref h_this_host, .ref h_this_thing, .ref h_this_tape, .ref h_this_rows, .int x_this_tapeCount, .int x_this_rowCount, .int x_this_isKept]), (h_this_host, ob 0 [.ref h_this_host_sorts, .ref h_this_host_sizes, .ref h_this_host_items, .ref h_this_host_holds, .ref h_this_host_shelfShips, .ref h_this_host_shelfSorts, .ref h_this_host_shelfSizes]), (h_this_host_items, ia G 160 g14), (h_this_host_sizes, ia G 4 g15), (h_this_host_sorts, ia G 4 g16)]) C h (c_X0_lay hc17) mv_X8_300 rfl 1 rfl [1, 2, 3, 4] rfl rfl [2, 3, 4] [(h_this_host_items, ia G 160 g14), (h_this_host_sizes, ia G 4 g15), (h_this_host_sorts, ia G 4 g16)] rfl rfl (by decide +kernel) rfl hl.1 rfl (Nat.le_of_ble_eq_true rfl) (rok (by decide)) dX8_sheet_50 (fun H locs h => ?_)
        refine lv_iconst (v := (1 : Int32)) hx hb dX8_sheet_53 rfl ?_
        cases hf
        exact r_iret C h hr hlk rfl dX8_sheet_54
      · replace hf := ifn c13 hf
        refine lv_bipush (v := (-14 : Int32)) hx hb dX8_sheet_40 rfl ?_
        cases hf
        exact r_iret C h hr hlk rfl dX8_sheet_42
  refine lv_iload_n hx hb dX8_sheet_0 rfl (lv_at hl 1 rfl) ?_
  replace hf := bd1_inv hf
  obtain ⟨r1, hc2, hf⟩ := hf
  refine r_ciS0 C h (c_X0_hasSheet hc2) ms_X8_297 rfl [] rfl rfl hl.1 rfl (Nat.le_of_ble_eq_true rfl) (rok (by decide)) dX8_sheet_1 (fun H locs h => ?_)
  refine lv_if_eq (tgt := 16) hx hb dX8_sheet_4 rfl (fun c3 => ?_) (fun c3 => ?_)
  · replace hf := ifp c3 hf
    refine lv_iconst (v := (-1 : Int32)) hx hb dX8_sheet_16 rfl ?_
    cases hf
    exact r_iret C h hr hlk rfl dX8_sheet_17
  · replace hf := ifn c3 hf
    refine lv_iload_n hx hb dX8_sheet_7 rfl (lv_at hl 2 rfl) ?_
    refine lv_iconst (v := (-1 : Int32)) hx hb dX8_sheet_8 rfl ?_
    refine lv_iconst (v := (4 : Int32)) hx hb dX8_sheet_9 rfl ?_
    replace hf := bd1_inv hf
    obtain ⟨r4, hc5, hf⟩ := hf
    refine r_ciS0 C h (c_X8_within hc5) ms_X8_79 rfl [] rfl rfl hl.1 rfl (Nat.le_of_ble_eq_true rfl) (rok (by decide)) dX8_sheet_10 (fun H locs h => ?_)
    refine lv_if_ne (tgt := 18) hx hb dX8_sheet_13 rfl (fun c6 => ?_) (fun c6 => ?_)
    · replace hf := ifn c6 hf
      refine lv_iload_n hx hb dX8_sheet_18 rfl (lv_at hl 2 rfl) ?_
      refine lv_iconst (v := (-1 : Int32)) hx hb dX8_sheet_19 rfl ?_
      refine lv_icmp_eq (tgt := 31) hx hb dX8_sheet_20 rfl (fun c7 => ?_) (fun c7 => ?_)
      · replace hf := ifp c7 hf
        exact hK2 _ _ _ _ (B31 hf) _ _ _ h (lv_sub hl [0, 1, 2, 3] rfl)
      · replace hf := ifn c7 hf
        refine lv_iload_n hx hb dX8_sheet_23 rfl (lv_at hl 3 rfl) ?_
        refine lv_bipush (v := (40 : Int32)) hx hb dX8_sheet_24 rfl ?_
        refine lv_icmp_le (tgt := 31) hx hb dX8_sheet_26 rfl (fun c18 => ?_) (fun c18 => ?_)
        · replace hf := ifp c18 hf
          exact hK2 _ _ _ _ (B31 hf) _ _ _ h (lv_sub hl [0, 1, 2, 3] rfl)
        · replace hf := ifn c18 hf
          refine lv_iconst (v := (-1 : Int32)) hx hb dX8_sheet_29 rfl ?_
          cases hf
          exact r_iret C h hr hlk rfl dX8_sheet_30
    · replace hf := ifp c6 hf
      refine lv_iconst (v := (-1 : Int32)) hx hb dX8_sheet_16 rfl ?_
      cases hf
      exact r_iret C h hr hlk rfl dX8_sheet_17
