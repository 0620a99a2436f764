set_option maxRecDepth 100000 in
set_option maxHeartbeats 4000000 in
theorem c_X8_trace {l : Launch} {G : Gt} {h_this h_this_rock h_this_kept h_this_trial h_this_planner h_this_reader h_this_draft h_this_host h_this_thing h_this_tape h_this_rows h_this_thing_bodies : Nat} {p0 : Int32} {x_this_tapeCount : Int32} {x_this_rowCount : Int32} {x_this_isKept : Int32} {x_this_thing_traceCount : Int32} {x_this_thing_parted : Int32} {x_this_thing_kind : Int32} {x_this_thing_n : Int32} {x_this_thing_a : Int32} {f_this_thing_bodies : Nat → Int32} {r : Int32} (hf : f_X8_trace p0 x_this_thing_traceCount f_this_thing_bodies = some r) : mFi l G yX8_trace cX8_trace 2 .int 1 [.ref h_this, .int p0] [(h_this, ob 8 [.ref h_this_rock, .ref h_this_kept, .ref h_this_trial, .ref h_this_planner, .ref h_this_reader, .ref h_this_draft, .ref h_this_host, .ref h_this_thing, .ref h_this_tape, .ref h_this_rows, .int x_this_tapeCount, .int x_this_rowCount, .int x_this_isKept]), (h_this_thing, ob 7 [.ref h_this_thing_bodies, .int x_this_thing_traceCount, .int x_this_thing_parted, .int x_this_thing_kind, .int x_this_thing_n, .int x_this_thing_a]), (h_this_thing_bodies, ia G 30 f_this_thing_bodies)] r [(h_this, ob 8 [.ref h_this_rock, .ref h_this_kept, .ref h_this_trial, .ref h_this_planner, .ref h_this_reader, .ref h_this_draft, .ref h_this_host, .ref h_this_thing, .ref h_this_tape, .ref h_this_rows, .int x_this_tapeCount, .int x_this_rowCount, .int x_this_isKept]), (h_this_thing, ob 7 [.ref h_this_thing_bodies, .int x_this_thing_traceCount, .int x_this_thing_parted, .int x_this_thing_kind, .int x_this_thing_n, .int x_this_thing_a]), (h_this_thing_bodies, ia G 30 f_this_thing_bodies)] := by
  refine mFi.of (by decide +kernel) (Nat.le_of_ble_eq_true rfl) ?_
  intro p e s m below meth c A C hr hlk h ls hl
  obtain ⟨hx, hb, hml, hown, hts⟩ := id C
  replace hl : lv_has ls 2 [(0, .ref h_this), (1, .int p0)] := hl
  unfold f_X8_trace at hf
  refine lv_iload_n hx hb dX8_trace_0 rfl (lv_at hl 1 rfl) ?_
  refine lv_iconst (v := (0 : Int32)) hx hb dX8_trace_1 rfl ?_
  refine lv_aload_n hx hb dX8_trace_2 rfl (lv_at hl 0 rfl) ?_
  refine r_get C h fk_X8_57 0 rfl rfl dX8_trace_3 ?_
  refine r_get C h fk_X8_366 1 rfl rfl dX8_trace_6 ?_
  refine lv_iconst (v := (1 : Int32)) hx hb dX8_trace_9 rfl ?_
  refine lv_isub hx hb dX8_trace_10 ?_
  replace hf := bd1_inv hf
  obtain ⟨r1, hc2, hf⟩ := hf
  refine r_ciS0 C h (c_X8_within hc2) ms_X8_79 rfl [] rfl rfl hl.1 rfl (Nat.le_of_ble_eq_true rfl) (rok (by decide)) dX8_trace_11 (fun H locs h => ?_)
  refine lv_if_eq (tgt := 29) hx hb dX8_trace_14 rfl (fun c3 => ?_) (fun c3 => ?_)
  · replace hf := ifp c3 hf
    refine lv_bipush (v := (-3 : Int32)) hx hb dX8_trace_29 rfl ?_
    cases hf
    exact r_iret C h hr hlk rfl dX8_trace_31
  · replace hf := ifn c3 hf
    refine lv_aload_n hx hb dX8_trace_17 rfl (lv_at hl 0 rfl) ?_
    refine r_get C h fk_X8_57 0 rfl rfl dX8_trace_18 ?_
    refine r_get C h fk_X8_369 1 rfl rfl dX8_trace_21 ?_
    refine lv_iload_n hx hb dX8_trace_24 rfl (lv_at hl 1 rfl) ?_
    replace hf := chkI_inv hf
    obtain ⟨hi4, hf⟩ := hf
    refine r_iald C h 2 rfl hi4 dX8_trace_25 ?_
    refine lv_goto (tgt := 31) hx hb dX8_trace_26 rfl ?_
    cases hf
    exact r_iret C h hr hlk rfl dX8_trace_31
set_option maxRecDepth 100000 in
set_option maxHeartbeats 4000000 in
theorem c_X8_many {l : Launch} {G : Gt} {h_this h_this_rock h_this_kept h_this_trial h_this_planner h_this_reader h_this_draft h_this_host h_this_thing h_this_tape h_this_rows h_this_rock_kinds h_this_rock_trims h_this_rock_lanes h_this_rock_lights h_this_rock_currents h_this_rock_buoys h_this_rock_now h_this_rock_rules h_this_rock_reports h_this_rock_now_off h_this_rock_reports_behinds h_this_rock_reports_askeds h_this_rock_reports_leasts h_this_rock_reports_mosts h_this_rock_rules_kinds h_this_rock_rules_deeds h_this_rock_rules_begins h_this_rock_rules_steps h_this_rock_rules_lefts h_this_rock_rules_rights h_this_rock_rules_facts h_this_thing_bodies : Nat} {p0 : Int32} {x_this_tapeCount : Int32} {x_this_rowCount : Int32} {x_this_isKept : Int32} {x_this_rock_count : Int32} {x_this_rock_end : Int32} {x_this_rock_z : Int32} {x_this_rock_now_watch : Int32} {x_this_rock_now_score : Int32} {x_this_rock_now_home : Int32} {x_this_rock_reports_count : Int32} {x_this_rock_rules_count : Int32} {x_this_rock_rules_size : Int32} {x_this_thing_traceCount : Int32} {x_this_thing_parted : Int32} {x_this_thing_kind : Int32} {x_this_thing_n : Int32} {x_this_thing_a : Int32} {r : Int32} (hf : f_X8_many p0 x_this_tapeCount x_this_rowCount x_this_rock_count x_this_rock_now_home x_this_rock_reports_count x_this_rock_rules_count x_this_thing_traceCount = some r) : mFi l G yX8_many cX8_many 2 .int 1 [.ref h_this, .int p0] [(h_this, ob 8 [.ref h_this_rock, .ref h_this_kept, .ref h_this_trial, .ref h_this_planner, .ref h_this_reader, .ref h_this_draft, .ref h_this_host, .ref h_this_thing, .ref h_this_tape, .ref h_this_rows, .int x_this_tapeCount, .int x_this_rowCount, .int x_this_isKept]), (h_this_rock, ob 3 [.ref h_this_rock_kinds, .ref h_this_rock_trims, .ref h_this_rock_lanes, .ref h_this_rock_lights, .ref h_this_rock_currents, .ref h_this_rock_buoys, .ref h_this_rock_now, .ref h_this_rock_rules, .ref h_this_rock_reports, .int x_this_rock_count, .int x_this_rock_end, .int x_this_rock_z]), (h_this_rock_now, ob 6 [.ref h_this_rock_now_off, .int x_this_rock_now_watch, .int x_this_rock_now_score, .int x_this_rock_now_home]), (h_this_rock_reports, ob 2 [.ref h_this_rock_reports_behinds, .ref h_this_rock_reports_askeds, .ref h_this_rock_reports_leasts, .ref h_this_rock_reports_mosts, .int x_this_rock_reports_count]), (h_this_rock_rules, ob 5 [.ref h_this_rock_rules_kinds, .ref h_this_rock_rules_deeds, .ref h_this_rock_rules_begins, .ref h_this_rock_rules_steps, .ref h_this_rock_rules_lefts, .ref h_this_rock_rules_rights, .ref h_this_rock_rules_facts, .int x_this_rock_rules_count, .int x_this_rock_rules_size]), (h_this_thing, ob 7 [.ref h_this_thing_bodies, .int x_this_thing_traceCount, .int x_this_thing_parted, .int x_this_thing_kind, .int x_this_thing_n, .int x_this_thing_a])] r [(h_this, ob 8 [.ref h_this_rock, .ref h_this_kept, .ref h_this_trial, .ref h_this_planner, .ref h_this_reader, .ref h_this_draft, .ref h_this_host, .ref h_this_thing, .ref h_this_tape, .ref h_this_rows, .int x_this_tapeCount, .int x_this_rowCount, .int x_this_isKept]), (h_this_rock, ob 3 [.ref h_this_rock_kinds, .ref h_this_rock_trims, .ref h_this_rock_lanes, .ref h_this_rock_lights, .ref h_this_rock_currents, .ref h_this_rock_buoys, .ref h_this_rock_now, .ref h_this_rock_rules, .ref h_this_rock_reports, .int x_this_rock_count, .int x_this_rock_end, .int x_this_rock_z]), (h_this_rock_now, ob 6 [.ref h_this_rock_now_off, .int x_this_rock_now_watch, .int x_this_rock_now_score, .int x_this_rock_now_home]), (h_this_rock_reports, ob 2 [.ref h_this_rock_reports_behinds, .ref h_this_rock_reports_askeds, .ref h_this_rock_reports_leasts, .ref h_this_rock_reports_mosts, .int x_this_rock_reports_count]), (h_this_rock_rules, ob 5 [.ref h_this_rock_rules_kinds, .ref h_this_rock_rules_deeds, .ref h_this_rock_rules_begins, .ref h_this_rock_rules_steps, .ref h_this_rock_rules_lefts, .ref h_this_rock_rules_rights, .ref h_this_rock_rules_facts, .int x_this_rock_rules_count, .int x_this_rock_rules_size]), (h_this_thing, ob 7 [.ref h_this_thing_bodies, .int x_this_thing_traceCount, .int x_this_thing_parted, .int x_this_thing_kind, .int x_this_thing_n, .int x_this_thing_a])] := by
  refine mFi.of (by decide +kernel) (Nat.le_of_ble_eq_true rfl) ?_
  intro p e s m below meth c A C hr hlk h ls hl
  obtain ⟨hx, hb, hml, hown, hts⟩ := id C
  replace hl : lv_has ls 2 [(0, .ref h_this), (1, .int p0)] := hl
  unfold f_X8_many at hf
  refine lv_iload_n hx hb dX8_many_0 rfl (lv_at hl 1 rfl) ?_
  by_cases c1 : p0 = (0 : Int32)
  · replace hf := ifp c1 hf
    refine r_tab (tgt := 44) C dX8_many_1 (0 : Int32) c1 (by decide) rfl rfl ?_
    refine lv_aload_n hx hb dX8_many_44 rfl (lv_at hl 0 rfl) ?_
    refine r_get C h fk_X8_10 0 rfl rfl dX8_many_45 ?_
    refine r_get C h fk_X8_83 1 rfl rfl dX8_many_48 ?_
    cases hf
    exact r_iret C h hr hlk rfl dX8_many_51
  · replace hf := ifn c1 hf
    by_cases c2 : p0 = (1 : Int32)
    · replace hf := ifp c2 hf
      refine r_tab (tgt := 52) C dX8_many_1 (1 : Int32) c2 (by decide) rfl rfl ?_
      refine lv_aload_n hx hb dX8_many_52 rfl (lv_at hl 0 rfl) ?_
      refine r_get C h fk_X8_10 0 rfl rfl dX8_many_53 ?_
      refine r_get C h fk_X8_175 1 rfl rfl dX8_many_56 ?_
      refine r_get C h fk_X8_182 4 rfl rfl dX8_many_59 ?_
      cases hf
      exact r_iret C h hr hlk rfl dX8_many_62
    · replace hf := ifn c2 hf
      by_cases c3 : p0 = (2 : Int32)
      · replace hf := ifp c3 hf
        refine r_tab (tgt := 63) C dX8_many_1 (2 : Int32) c3 (by decide) rfl rfl ?_
        refine lv_aload_n hx hb dX8_many_63 rfl (lv_at hl 0 rfl) ?_
        refine r_get C h fk_X8_10 0 rfl rfl dX8_many_64 ?_
        refine r_get C h fk_X8_94 1 rfl rfl dX8_many_67 ?_
        refine r_get C h fk_X8_156 2 rfl rfl dX8_many_70 ?_
        replace hf := bd1_inv hf
        obtain ⟨r8, hc9, hf⟩ := hf
        refine r_ciS0 C h (c_J6_bitCount_0f7a4 hc9) ms_X8_273 rfl [] rfl rfl hl.1 rfl (Nat.le_of_ble_eq_true rfl) (rok (by decide)) dX8_many_73 (fun H locs h => ?_)
        cases hf
        exact r_iret C h hr hlk rfl dX8_many_76
      · replace hf := ifn c3 hf
        by_cases c4 : p0 = (3 : Int32)
        · replace hf := ifp c4 hf
          refine r_tab (tgt := 77) C dX8_many_1 (3 : Int32) c4 (by decide) rfl rfl ?_
          refine lv_aload_n hx hb dX8_many_77 rfl (lv_at hl 0 rfl) ?_
          refine r_get C h fk_X8_10 0 rfl rfl dX8_many_78 ?_
          refine r_get C h fk_X8_244 1 rfl rfl dX8_many_81 ?_
          refine r_get C h fk_X8_248 3 rfl rfl dX8_many_84 ?_
          cases hf
          exact r_iret C h hr hlk rfl dX8_many_87
        · replace hf := ifn c4 hf
          by_cases c5 : p0 = (4 : Int32)
          · replace hf := ifp c5 hf
            refine r_tab (tgt := 88) C dX8_many_1 (4 : Int32) c5 (by decide) rfl rfl ?_
            refine lv_aload_n hx hb dX8_many_88 rfl (lv_at hl 0 rfl) ?_
            refine r_get C h fk_X8_72 0 rfl rfl dX8_many_89 ?_
            cases hf
            exact r_iret C h hr hlk rfl dX8_many_92
          · replace hf := ifn c5 hf
            by_cases c6 : p0 = (5 : Int32)
            · replace hf := ifp c6 hf
              refine r_tab (tgt := 93) C dX8_many_1 (5 : Int32) c6 (by decide) rfl rfl ?_
              refine lv_aload_n hx hb dX8_many_93 rfl (lv_at hl 0 rfl) ?_
              refine r_get C h fk_X8_68 0 rfl rfl dX8_many_94 ?_
              cases hf
              exact r_iret C h hr hlk rfl dX8_many_97
            · replace hf := ifn c6 hf
              by_cases c7 : p0 = (6 : Int32)
              · replace hf := ifp c7 hf
                refine r_tab (tgt := 98) C dX8_many_1 (6 : Int32) c7 (by decide) rfl rfl ?_
                refine lv_aload_n hx hb dX8_many_98 rfl (lv_at hl 0 rfl) ?_
                refine r_get C h fk_X8_57 0 rfl rfl dX8_many_99 ?_
                refine r_get C h fk_X8_366 5 rfl rfl dX8_many_102 ?_
                cases hf
                exact r_iret C h hr hlk rfl dX8_many_105
              · replace hf := ifn c7 hf
                refine r_tabD (tgt := 106) C dX8_many_1 [(0 : Int32), (1 : Int32), (2 : Int32), (3 : Int32), (4 : Int32), (5 : Int32), (6 : Int32)] (by decide) (nel_c c1 (nel_c c2 (nel_c c3 (nel_c c4 (nel_c c5 (nel_c c6 (nel_c c7 nel_0))))))) rfl ?_
                refine lv_iconst (v := (-1 : Int32)) hx hb dX8_many_106 rfl ?_
                cases hf
                exact r_iret C h hr hlk rfl dX8_many_107
set_option maxRecDepth 100000 in
set_option maxHeartbeats 4000000 in
theorem c_X2_become {l : Launch} {G : Gt} {h_a0 h_a0_behinds h_a0_askeds h_a0_leasts h_a0_mosts h_this h_this_behinds h_this_askeds h_this_leasts h_this_mosts : Nat} {x_a0_count : Int32} {f_a0_askeds : Nat → Int32} {f_a0_behinds : Nat → Int32} {f_a0_leasts : Nat → Int32} {f_a0_mosts : Nat → Int32} {x_this_count : Int32} {f_this_askeds : Nat → Int32} {f_this_behinds : Nat → Int32} {f_this_leasts : Nat → Int32} {f_this_mosts : Nat → Int32} {m_this_count : Int32} {m_this_askeds : Nat → Int32} {m_this_behinds : Nat → Int32} {m_this_leasts : Nat → Int32} {m_this_mosts : Nat → Int32} (hf : f_X2_become x_a0_count f_a0_askeds f_a0_behinds f_a0_leasts f_a0_mosts f_this_askeds f_this_behinds f_this_leasts f_this_mosts = some (m_this_count, m_this_askeds, m_this_behinds, m_this_leasts, m_this_mosts)) : mFv l G yX2_become cX2_become 2 1 [.ref h_this, .ref h_a0] [(h_a0, ob 2 [.ref h_a0_behinds, .ref h_a0_askeds, .ref h_a0_leasts, .ref h_a0_mosts, .int x_a0_count]), (h_a0_askeds, ia G 6 f_a0_askeds), (h_a0_behinds, ia G 6 f_a0_behinds), (h_a0_leasts, ia G 6 f_a0_leasts), (h_a0_mosts, ia G 6 f_a0_mosts), (h_this, ob 2 [.ref h_this_behinds, .ref h_this_askeds, .ref h_this_leasts, .ref h_this_mosts, .int x_this_count]), (h_this_askeds, ia G 6 f_this_askeds), (h_this_behinds, ia G 6 f_this_behinds), (h_this_leasts, ia G 6 f_this_leasts), (h_this_mosts, ia G 6 f_this_mosts)] [(h_a0, ob 2 [.ref h_a0_behinds, .ref h_a0_askeds, .ref h_a0_leasts, .ref h_a0_mosts, .int x_a0_count]), (h_a0_askeds, ia G 6 f_a0_askeds), (h_a0_behinds, ia G 6 f_a0_behinds), (h_a0_leasts, ia G 6 f_a0_leasts), (h_a0_mosts, ia G 6 f_a0_mosts), (h_this, ob 2 [.ref h_this_behinds, .ref h_this_askeds, .ref h_this_leasts, .ref h_this_mosts, .int m_this_count]), (h_this_askeds, ia G 6 m_this_askeds), (h_this_behinds, ia G 6 m_this_behinds), (h_this_leasts, ia G 6 m_this_leasts), (h_this_mosts, ia G 6 m_this_mosts)] := by
  refine mFv.of (by decide +kernel) (Nat.le_of_ble_eq_true rfl) ?_
  intro p e s m below meth c A C hr hlk h ls hl
  obtain ⟨hx, hb, hml, hown, hts⟩ := id C
  replace hl : lv_has ls 2 [(0, .ref h_this), (1, .ref h_a0)] := hl
  unfold f_X2_become at hf
  refine lv_aload_n hx hb dX2_become_0 rfl (lv_at hl 1 rfl) ?_
  refine r_get C h fk_X2_9 0 rfl rfl dX2_become_1 ?_
  refine lv_iconst (v := (0 : Int32)) hx hb dX2_become_4 rfl ?_
  refine lv_aload_n hx hb dX2_become_5 rfl (lv_at hl 0 rfl) ?_
  refine r_get C h fk_X2_9 5 rfl rfl dX2_become_6 ?_
  refine lv_iconst (v := (0 : Int32)) hx hb dX2_become_9 rfl ?_
  refine lv_bipush (v := (6 : Int32)) hx hb dX2_become_10 rfl ?_
  replace hf := chkC_inv hf
  obtain ⟨ha1, hf⟩ := hf
  refine r_copy (ws' := [(h_a0, ob 2 [.ref h_a0_behinds, .ref h_a0_askeds, .ref h_a0_leasts, .ref h_a0_mosts, .int x_a0_count]), (h_a0_askeds, ia G 6 f_a0_askeds), (h_a0_behinds, ia G 6 f_a0_behinds), (h_a0_leasts, ia G 6 f_a0_leasts), (h_a0_mosts, ia G 6 f_a0_mosts), (h_this, ob 2 [.ref h_this_behinds, .ref h_this_askeds, .ref h_this_leasts, .ref h_this_mosts, .int x_this_count]), (h_this_askeds, ia G 6 f_this_askeds), (h_this_behinds, ia G 6 (va_cpy f_a0_behinds f_this_behinds (0 : Int32).toNatClampNeg (0 : Int32).toNatClampNeg (6 : Int32).toNatClampNeg)), (h_this_leasts, ia G 6 f_this_leasts), (h_this_mosts, ia G 6 f_this_mosts)]) C h ac_X2_28 2 7 rfl rfl ha1 hl.1 (Nat.le_of_ble_eq_true rfl) (Nat.le_of_ble_eq_true rfl) dX2_become_12 rfl (fun H locs h => ?_)
  refine lv_aload_n hx hb dX2_become_15 rfl (lv_at hl 1 rfl) ?_
  refine r_get C h fk_X2_15 0 rfl rfl dX2_become_16 ?_
  refine lv_iconst (v := (0 : Int32)) hx hb dX2_become_19 rfl ?_
  refine lv_aload_n hx hb dX2_become_20 rfl (lv_at hl 0 rfl) ?_
  refine r_get C h fk_X2_15 5 rfl rfl dX2_become_21 ?_
  refine lv_iconst (v := (0 : Int32)) hx hb dX2_become_24 rfl ?_
  refine lv_bipush (v := (6 : Int32)) hx hb dX2_become_25 rfl ?_
  replace hf := chkC_inv hf
  obtain ⟨ha2, hf⟩ := hf
  refine r_copy (ws' := [(h_a0, ob 2 [.ref h_a0_behinds, .ref h_a0_askeds, .ref h_a0_leasts, .ref h_a0_mosts, .int x_a0_count]), (h_a0_askeds, ia G 6 f_a0_askeds), (h_a0_behinds, ia G 6 f_a0_behinds), (h_a0_leasts, ia G 6 f_a0_leasts), (h_a0_mosts, ia G 6 f_a0_mosts), (h_this, ob 2 [.ref h_this_behinds, .ref h_this_askeds, .ref h_this_leasts, .ref h_this_mosts, .int x_this_count]), (h_this_askeds, ia G 6 (va_cpy f_a0_askeds f_this_askeds (0 : Int32).toNatClampNeg (0 : Int32).toNatClampNeg (6 : Int32).toNatClampNeg)), (h_this_behinds, ia G 6 (va_cpy f_a0_behinds f_this_behinds (0 : Int32).toNatClampNeg (0 : Int32).toNatClampNeg (6 : Int32).toNatClampNeg)), (h_this_leasts, ia G 6 f_this_leasts), (h_this_mosts, ia G 6 f_this_mosts)]) C h ac_X2_28 1 6 rfl rfl ha2 hl.1 (Nat.le_of_ble_eq_true rfl) (Nat.le_of_ble_eq_true rfl) dX2_become_27 rfl (fun H locs h => ?_)
  refine lv_aload_n hx hb dX2_become_30 rfl (lv_at hl 1 rfl) ?_
  refine r_get C h fk_X2_18 0 rfl rfl dX2_become_31 ?_
  refine lv_iconst (v := (0 : Int32)) hx hb dX2_become_34 rfl ?_
  refine lv_aload_n hx hb dX2_become_35 rfl (lv_at hl 0 rfl) ?_
  refine r_get C h fk_X2_18 5 rfl rfl dX2_become_36 ?_
  refine lv_iconst (v := (0 : Int32)) hx hb dX2_become_39 rfl ?_
  refine lv_bipush (v := (6 : Int32)) hx hb dX2_become_40 rfl ?_
  replace hf := chkC_inv hf
  obtain ⟨ha3, hf⟩ := hf
  refine r_copy (ws' := [(h_a0, ob 2 [.ref h_a0_behinds, .ref h_a0_askeds, .ref h_a0_leasts, .ref h_a0_mosts, .int x_a0_count]), (h_a0_askeds, ia G 6 f_a0_askeds), (h_a0_behinds, ia G 6 f_a0_behinds), (h_a0_leasts, ia G 6 f_a0_leasts), (h_a0_mosts, ia G 6 f_a0_mosts), (h_this, ob 2 [.ref h_this_behinds, .ref h_this_askeds, .ref h_this_leasts, .ref h_this_mosts, .int x_this_count]), (h_this_askeds, ia G 6 (va_cpy f_a0_askeds f_this_askeds (0 : Int32).toNatClampNeg (0 : Int32).toNatClampNeg (6 : Int32).toNatClampNeg)), (h_this_behinds, ia G 6 (va_cpy f_a0_behinds f_this_behinds (0 : Int32).toNatClampNeg (0 : Int32).toNatClampNeg (6 : Int32).toNatClampNeg)), (h_this_leasts, ia G 6 (va_cpy f_a0_leasts f_this_leasts (0 : Int32).toNatClampNeg (0 : Int32).toNatClampNeg (6 : Int32).toNatClampNeg)), (h_this_mosts, ia G 6 f_this_mosts)]) C h ac_X2_28 3 8 rfl rfl ha3 hl.1 (Nat.le_of_ble_eq_true rfl) (Nat.le_of_ble_eq_true rfl) dX2_become_42 rfl (fun H locs h => ?_)
  refine lv_aload_n hx hb dX2_become_45 rfl (lv_at hl 1 rfl) ?_
  refine r_get C h fk_X2_21 0 rfl rfl dX2_become_46 ?_
  refine lv_iconst (v := (0 : Int32)) hx hb dX2_become_49 rfl ?_
  refine lv_aload_n hx hb dX2_become_50 rfl (lv_at hl 0 rfl) ?_
  refine r_get C h fk_X2_21 5 rfl rfl dX2_become_51 ?_
  refine lv_iconst (v := (0 : Int32)) hx hb dX2_become_54 rfl ?_
  refine lv_bipush (v := (6 : Int32)) hx hb dX2_become_55 rfl ?_
  replace hf := chkC_inv hf
  obtain ⟨ha4, hf⟩ := hf
  refine r_copy (ws' := [(h_a0, ob 2 [.ref h_a0_behinds, .ref h_a0_askeds, .ref h_a0_leasts, .ref h_a0_mosts, .int x_a0_count]), (h_a0_askeds, ia G 6 f_a0_askeds), (h_a0_behinds, ia G 6 f_a0_behinds), (h_a0_leasts, ia G 6 f_a0_leasts), (h_a0_mosts, ia G 6 f_a0_mosts), (h_this, ob 2 [.ref h_this_behinds, .ref h_this_askeds, .ref h_this_leasts, .ref h_this_mosts, .int x_this_count]), (h_this_askeds, ia G 6 (va_cpy f_a0_askeds f_this_askeds (0 : Int32).toNatClampNeg (0 : Int32).toNatClampNeg (6 : Int32).toNatClampNeg)), (h_this_behinds, ia G 6 (va_cpy f_a0_behinds f_this_behinds (0 : Int32).toNatClampNeg (0 : Int32).toNatClampNeg (6 : Int32).toNatClampNeg)), (h_this_leasts, ia G 6 (va_cpy f_a0_leasts f_this_leasts (0 : Int32).toNatClampNeg (0 : Int32).toNatClampNeg (6 : Int32).toNatClampNeg)), (h_this_mosts, ia G 6 (va_cpy f_a0_mosts f_this_mosts (0 : Int32).toNatClampNeg (0 : Int32).toNatClampNeg (6 : Int32).toNatClampNeg))]) C h ac_X2_28 4 9 rfl rfl ha4 hl.1 (Nat.le_of_ble_eq_true rfl) (Nat.le_of_ble_eq_true rfl) dX2_become_57 rfl (fun H locs h => ?_)
  refine lv_aload_n hx hb dX2_become_60 rfl (lv_at hl 0 rfl) ?_
  refine lv_aload_n hx hb dX2_become_61 rfl (lv_at hl 1 rfl) ?_
  refine r_get C h fk_X2_24 0 rfl rfl dX2_become_62 ?_
  refine r_put (ws' := [(h_a0, ob 2 [.ref h_a0_behinds, .ref h_a0_askeds, .ref h_a0_leasts, .ref h_a0_mosts, .int x_a0_count]), (h_a0_askeds, ia G 6 f_a0_askeds), (h_a0_behinds, ia G 6 f_a0_behinds), (h_a0_leasts, ia G 6 f_a0_leasts), (h_a0_mosts, ia G 6 f_a0_mosts), (h_this, ob 2 [.ref h_this_behinds, .ref h_this_askeds, .ref h_this_leasts, .ref h_this_mosts, .int x_a0_count]), (h_this_askeds, ia G 6 (va_cpy f_a0_askeds f_this_askeds (0 : Int32).toNatClampNeg (0 : Int32).toNatClampNeg (6 : Int32).toNatClampNeg)), (h_this_behinds, ia G 6 (va_cpy f_a0_behinds f_this_behinds (0 : Int32).toNatClampNeg (0 : Int32).toNatClampNeg (6 : Int32).toNatClampNeg)), (h_this_leasts, ia G 6 (va_cpy f_a0_leasts f_this_leasts (0 : Int32).toNatClampNeg (0 : Int32).toNatClampNeg (6 : Int32).toNatClampNeg)), (h_this_mosts, ia G 6 (va_cpy f_a0_mosts f_this_mosts (0 : Int32).toNatClampNeg (0 : Int32).toNatClampNeg (6 : Int32).toNatClampNeg))]) C h fw_X2_24 5 rfl rfl rfl (Nat.le_of_ble_eq_true rfl) dX2_become_65 rfl (fun H locs h => ?_)
  cases hf
  exact r_vret C h hr hlk dX2_become_68
