set_option maxRecDepth 100000 in
set_option maxHeartbeats 4000000 in
theorem c_X8_report {l : Launch} {G : Gt} {h_this h_this_rock h_this_kept h_this_trial h_this_planner h_this_reader h_this_draft h_this_host h_this_thing h_this_tape h_this_rows h_this_rock_kinds h_this_rock_trims h_this_rock_lanes h_this_rock_lights h_this_rock_currents h_this_rock_buoys h_this_rock_now h_this_rock_rules h_this_rock_reports h_this_rock_reports_behinds h_this_rock_reports_askeds h_this_rock_reports_leasts h_this_rock_reports_mosts : Nat} {p0 : Int32} {p1 : Int32} {p2 : Int32} {p3 : Int32} {x_this_tapeCount : Int32} {x_this_rowCount : Int32} {x_this_isKept : Int32} {x_this_rock_count : Int32} {x_this_rock_end : Int32} {x_this_rock_z : Int32} {x_this_rock_reports_count : Int32} {f_this_rock_reports_askeds : Nat → Int32} {f_this_rock_reports_behinds : Nat → Int32} {f_this_rock_reports_leasts : Nat → Int32} {f_this_rock_reports_mosts : Nat → Int32} {r : Int32} {m_this_rock_reports_count : Int32} {m_this_rock_reports_askeds : Nat → Int32} {m_this_rock_reports_behinds : Nat → Int32} {m_this_rock_reports_leasts : Nat → Int32} {m_this_rock_reports_mosts : Nat → Int32} (hf : f_X8_report p0 p1 p2 p3 x_this_rock_reports_count f_this_rock_reports_askeds f_this_rock_reports_behinds f_this_rock_reports_leasts f_this_rock_reports_mosts = some (r, m_this_rock_reports_count, m_this_rock_reports_askeds, m_this_rock_reports_behinds, m_this_rock_reports_leasts, m_this_rock_reports_mosts)) : mFi l G yX8_report cX8_report 6 .int 1 [.ref h_this, .int p0, .int p1, .int p2, .int p3] [(h_this, ob 8 [.ref h_this_rock, .ref h_this_kept, .ref h_this_trial, .ref h_this_planner, .ref h_this_reader, .ref h_this_draft, .ref h_this_host, .ref h_this_thing, .ref h_this_tape, .ref h_this_rows, .int x_this_tapeCount, .int x_this_rowCount, .int x_this_isKept]), (h_this_rock, ob 3 [.ref h_this_rock_kinds, .ref h_this_rock_trims, .ref h_this_rock_lanes, .ref h_this_rock_lights, .ref h_this_rock_currents, .ref h_this_rock_buoys, .ref h_this_rock_now, .ref h_this_rock_rules, .ref h_this_rock_reports, .int x_this_rock_count, .int x_this_rock_end, .int x_this_rock_z]), (h_this_rock_reports, ob 2 [.ref h_this_rock_reports_behinds, .ref h_this_rock_reports_askeds, .ref h_this_rock_reports_leasts, .ref h_this_rock_reports_mosts, .int x_this_rock_reports_count]), (h_this_rock_reports_askeds, ia G 6 f_this_rock_reports_askeds), (h_this_rock_reports_behinds, ia G 6 f_this_rock_reports_behinds), (h_this_rock_reports_leasts, ia G 6 f_this_rock_reports_leasts), (h_this_rock_reports_mosts, ia G 6 f_this_rock_reports_mosts)] r [(h_this, ob 8 [.ref h_this_rock, .ref h_this_kept, .ref h_this_trial, .ref h_this_planner, .ref h_this_reader, .ref h_this_draft, .ref h_this_host, .ref h_this_thing, .ref h_this_tape, .ref h_this_rows, .int x_this_tapeCount, .int x_this_rowCount, .int x_this_isKept]), (h_this_rock, ob 3 [.ref h_this_rock_kinds, .ref h_this_rock_trims, .ref h_this_rock_lanes, .ref h_this_rock_lights, .ref h_this_rock_currents, .ref h_this_rock_buoys, .ref h_this_rock_now, .ref h_this_rock_rules, .ref h_this_rock_reports, .int x_this_rock_count, .int x_this_rock_end, .int x_this_rock_z]), (h_this_rock_reports, ob 2 [.ref h_this_rock_reports_behinds, .ref h_this_rock_reports_askeds, .ref h_this_rock_reports_leasts, .ref h_this_rock_reports_mosts, .int m_this_rock_reports_count]), (h_this_rock_reports_askeds, ia G 6 m_this_rock_reports_askeds), (h_this_rock_reports_behinds, ia G 6 m_this_rock_reports_behinds), (h_this_rock_reports_leasts, ia G 6 m_this_rock_reports_leasts), (h_this_rock_reports_mosts, ia G 6 m_this_rock_reports_mosts)] := by
  refine mFi.of (by decide +kernel) (Nat.le_of_ble_eq_true rfl) ?_
  intro p e s m below meth c A C hr hlk h ls hl
  obtain ⟨hx, hb, hml, hown, hts⟩ := id C
  replace hl : lv_has ls 6 [(0, .ref h_this), (1, .int p0), (2, .int p1), (3, .int p2), (4, .int p3)] := hl
  unfold f_X8_report at hf
  refine with_K G A 6 (fun K hK1 hK2 => ?_)
  have B32 : ∀ (s0 : Int32), f_X8_report_b32 p0 p1 p2 p3 x_this_rock_reports_count f_this_rock_reports_askeds f_this_rock_reports_behinds f_this_rock_reports_leasts f_this_rock_reports_mosts s0 = some (r, m_this_rock_reports_count, m_this_rock_reports_askeds, m_this_rock_reports_behinds, m_this_rock_reports_leasts, m_this_rock_reports_mosts) → K 32 [.int s0] [(h_this, ob 8 [.ref h_this_rock, .ref h_this_kept, .ref h_this_trial, .ref h_this_planner, .ref h_this_reader, .ref h_this_draft, .ref h_this_host, .ref h_this_thing, .ref h_this_tape, .ref h_this_rows, .int x_this_tapeCount, .int x_this_rowCount, .int x_this_isKept]), (h_this_rock, ob 3 [.ref h_this_rock_kinds, .ref h_this_rock_trims, .ref h_this_rock_lanes, .ref h_this_rock_lights, .ref h_this_rock_currents, .ref h_this_rock_buoys, .ref h_this_rock_now, .ref h_this_rock_rules, .ref h_this_rock_reports, .int x_this_rock_count, .int x_this_rock_end, .int x_this_rock_z]), (h_this_rock_reports, ob 2 [.ref h_this_rock_reports_behinds, .ref h_this_rock_reports_askeds, .ref h_this_rock_reports_leasts, .ref h_this_rock_reports_mosts, .int x_this_rock_reports_count]), (h_this_rock_reports_askeds, ia G 6 f_this_rock_reports_askeds), (h_this_rock_reports_behinds, ia G 6 f_this_rock_reports_behinds), (h_this_rock_reports_leasts, ia G 6 f_this_rock_reports_leasts), (h_this_rock_reports_mosts, ia G 6 f_this_rock_reports_mosts)] [(0, .ref h_this), (1, .int p0), (2, .int p1), (3, .int p2), (4, .int p3)] := by
    intro s0 hf
    unfold f_X8_report_b32 at hf
    refine hK1 _ _ _ _ (fun H locs ls h hl => ?_)
    refine lv_istore (lv' := [(5, .int s0), (0, .ref h_this), (1, .int p0), (2, .int p1), (3, .int p2), (4, .int p3)]) hx hb dX8_report_32 hl (by decide) rfl (fun ls hl => ?_)
    refine lv_iload_n hx hb dX8_report_34 rfl (lv_at hl 4 rfl) ?_
    refine lv_iconst (v := (0 : Int32)) hx hb dX8_report_35 rfl ?_
    refine lv_iload hx hb dX8_report_36 (lv_at hl 0 rfl) ?_
    replace hf := bd1_inv hf
    obtain ⟨r8, hc9, hf⟩ := hf
    refine r_ciS0 C h (c_X8_within hc9) ms_X8_79 rfl [] rfl rfl hl.1 rfl (Nat.le_of_ble_eq_true rfl) (rok (by decide)) dX8_report_38 (fun H locs h => ?_)
    refine lv_if_eq (tgt := 55) hx hb dX8_report_41 rfl (fun c10 => ?_) (fun c10 => ?_)
    · replace hf := ifp c10 hf
      refine lv_iconst (v := (-1 : Int32)) hx hb dX8_report_55 rfl ?_
      obtain ⟨rfl, rfl, rfl, rfl, rfl, rfl⟩ := sm6 hf
      exact r_iret C h hr hlk rfl dX8_report_56
    · replace hf := ifn c10 hf
      refine lv_iload hx hb dX8_report_44 (lv_at hl 5 rfl) ?_
      refine lv_iload_n hx hb dX8_report_46 rfl (lv_at hl 4 rfl) ?_
      refine lv_iload hx hb dX8_report_47 (lv_at hl 0 rfl) ?_
      replace hf := bd1_inv hf
      obtain ⟨r11, hc12, hf⟩ := hf
      refine r_ciS0 C h (c_X8_within hc12) ms_X8_79 rfl [] rfl rfl hl.1 rfl (Nat.le_of_ble_eq_true rfl) (rok (by decide)) dX8_report_49 (fun H locs h => ?_)
      refine lv_if_ne (tgt := 57) hx hb dX8_report_52 rfl (fun c13 => ?_) (fun c13 => ?_)
      · replace hf := ifn c13 hf
        refine lv_aload_n hx hb dX8_report_57 rfl (lv_at hl 1 rfl) ?_
        refine r_get C h fk_X8_10 0 rfl rfl dX8_report_58 ?_
        refine r_get C h fk_X8_244 1 rfl rfl dX8_report_61 ?_
        refine r_get C h fk_X8_248 2 rfl rfl dX8_report_64 ?_
        refine lv_bipush (v := (6 : Int32)) hx hb dX8_report_67 rfl ?_
        refine lv_icmp_lt (tgt := 75) hx hb dX8_report_69 rfl (fun c14 => ?_) (fun c14 => ?_)
        · replace hf := ifp c14 hf
          refine lv_aload_n hx hb dX8_report_75 rfl (lv_at hl 1 rfl) ?_
          refine r_get C h fk_X8_10 0 rfl rfl dX8_report_76 ?_
          refine r_get C h fk_X8_244 1 rfl rfl dX8_report_79 ?_
          refine lv_iload_n hx hb dX8_report_82 rfl (lv_at hl 2 rfl) ?_
          refine lv_iload_n hx hb dX8_report_83 rfl (lv_at hl 3 rfl) ?_
          refine lv_iload_n hx hb dX8_report_84 rfl (lv_at hl 4 rfl) ?_
          refine lv_iload hx hb dX8_report_85 (lv_at hl 5 rfl) ?_
          replace hf := bd6_inv hf
          obtain ⟨r15, y16, g17, g18, g19, g20, hc21, hf⟩ := hf
          refine r_ciV (ws' := [(h_this, ob 8 [.ref h_this_rock, .ref h_this_kept, .ref h_this_trial, .ref h_this_planner, .ref h_this_reader, .ref h_this_draft, .ref h_this_host, .ref h_this_thing, .ref h_this_tape, .ref h_this_rows, .int x_this_tapeCount, .int x_this_rowCount, .int x_this_isKept]), (h_this_rock, ob 3 [.ref h_this_rock_kinds, .ref h_this_rock_trims, .ref h_this_rock_lanes, .ref h_this_rock_lights, .ref h_this_rock_currents, .ref h_this_rock_buoys, .ref h_this_rock_now, .ref h_this_rock_rules, .ref h_this_rock_reports, .int x_this_rock_count, .int x_this_rock_end, .int x_this_rock_z]), (h_this_rock_reports, ob 2 [.ref h_this_rock_reports_behinds, .ref h_this_rock_reports_askeds, .ref h_this_rock_reports_leasts, .ref h_this_rock_reports_mosts, .int y16]), (h_this_rock_reports_askeds, ia G 6 g17), (h_this_rock_reports_behinds, ia G 6 g18), (h_this_rock_reports_leasts, ia G 6 g19), (h_this_rock_reports_mosts, ia G 6 g20)]) C h (c_X2_file hc21) mv_X8_251 rfl 2 rfl [2, 3, 4, 5, 6] rfl rfl [2, 3, 4, 5, 6] [(h_this_rock_reports, ob 2 [.ref h_this_rock_reports_behinds, .ref h_this_rock_reports_askeds, .ref h_this_rock_reports_leasts, .ref h_this_rock_reports_mosts, .int y16]), (h_this_rock_reports_askeds, ia G 6 g17), (h_this_rock_reports_behinds, ia G 6 g18), (h_this_rock_reports_leasts, ia G 6 g19), (h_this_rock_reports_mosts, ia G 6 g20)] rfl rfl (by decide +kernel) rfl hl.1 rfl (Nat.le_of_ble_eq_true rfl) (rok (by decide)) dX8_report_87 (fun H locs h => ?_)
          obtain ⟨rfl, rfl, rfl, rfl, rfl, rfl⟩ := sm6 hf
          exact r_iret C h hr hlk rfl dX8_report_90
        · replace hf := ifn c14 hf
          refine lv_bipush (v := (-2 : Int32)) hx hb dX8_report_72 rfl ?_
          obtain ⟨rfl, rfl, rfl, rfl, rfl, rfl⟩ := sm6 hf
          exact r_iret C h hr hlk rfl dX8_report_74
      · replace hf := ifp c13 hf
        refine lv_iconst (v := (-1 : Int32)) hx hb dX8_report_55 rfl ?_
        obtain ⟨rfl, rfl, rfl, rfl, rfl, rfl⟩ := sm6 hf
        exact r_iret C h hr hlk rfl dX8_report_56
  refine lv_iload_n hx hb dX8_report_0 rfl (lv_at hl 1 rfl) ?_
  refine lv_iconst (v := (0 : Int32)) hx hb dX8_report_1 rfl ?_
  refine lv_bipush (v := (15 : Int32)) hx hb dX8_report_2 rfl ?_
  replace hf := bd1_inv hf
  obtain ⟨r1, hc2, hf⟩ := hf
  refine r_ciS0 C h (c_X8_within hc2) ms_X8_79 rfl [] rfl rfl hl.1 rfl (Nat.le_of_ble_eq_true rfl) (rok (by decide)) dX8_report_4 (fun H locs h => ?_)
  refine lv_if_eq (tgt := 19) hx hb dX8_report_7 rfl (fun c3 => ?_) (fun c3 => ?_)
  · replace hf := ifp c3 hf
    refine lv_iconst (v := (-1 : Int32)) hx hb dX8_report_19 rfl ?_
    obtain ⟨rfl, rfl, rfl, rfl, rfl, rfl⟩ := sm6 hf
    exact r_iret C h hr hlk rfl dX8_report_20
  · replace hf := ifn c3 hf
    refine lv_iload_n hx hb dX8_report_10 rfl (lv_at hl 2 rfl) ?_
    refine lv_iconst (v := (0 : Int32)) hx hb dX8_report_11 rfl ?_
    refine lv_iconst (v := (1 : Int32)) hx hb dX8_report_12 rfl ?_
    replace hf := bd1_inv hf
    obtain ⟨r4, hc5, hf⟩ := hf
    refine r_ciS0 C h (c_X8_within hc5) ms_X8_79 rfl [] rfl rfl hl.1 rfl (Nat.le_of_ble_eq_true rfl) (rok (by decide)) dX8_report_13 (fun H locs h => ?_)
    refine lv_if_ne (tgt := 21) hx hb dX8_report_16 rfl (fun c6 => ?_) (fun c6 => ?_)
    · replace hf := ifn c6 hf
      refine lv_iload_n hx hb dX8_report_21 rfl (lv_at hl 2 rfl) ?_
      refine lv_if_ne (tgt := 30) hx hb dX8_report_22 rfl (fun c7 => ?_) (fun c7 => ?_)
      · replace hf := ifn c7 hf
        refine lv_bipush (v := (16 : Int32)) hx hb dX8_report_30 rfl ?_
        exact hK2 _ _ _ _ (B32 (16 : Int32) hf) _ _ _ h (lv_sub hl [0, 1, 2, 3, 4] rfl)
      · replace hf := ifp c7 hf
        refine lv_bipush (v := (99 : Int32)) hx hb dX8_report_25 rfl ?_
        refine lv_goto (tgt := 32) hx hb dX8_report_27 rfl ?_
        exact hK2 _ _ _ _ (B32 (99 : Int32) hf) _ _ _ h (lv_sub hl [0, 1, 2, 3, 4] rfl)
    · replace hf := ifp c6 hf
      refine lv_iconst (v := (-1 : Int32)) hx hb dX8_report_19 rfl ?_
      obtain ⟨rfl, rfl, rfl, rfl, rfl, rfl⟩ := sm6 hf
      exact r_iret C h hr hlk rfl dX8_report_20
set_option maxRecDepth 100000 in
set_option maxHeartbeats 4000000 in
theorem c_X8_forget {l : Launch} {G : Gt} {h_this h_this_rock h_this_kept h_this_trial h_this_planner h_this_reader h_this_draft h_this_host h_this_thing h_this_tape h_this_rows h_this_rock_kinds h_this_rock_trims h_this_rock_lanes h_this_rock_lights h_this_rock_currents h_this_rock_buoys h_this_rock_now h_this_rock_rules h_this_rock_reports h_this_rock_reports_behinds h_this_rock_reports_askeds h_this_rock_reports_leasts h_this_rock_reports_mosts : Nat} {x_this_tapeCount : Int32} {x_this_rowCount : Int32} {x_this_isKept : Int32} {x_this_rock_count : Int32} {x_this_rock_end : Int32} {x_this_rock_z : Int32} {x_this_rock_reports_count : Int32} {r : Int32} {m_this_rock_reports_count : Int32} (hf : f_X8_forget x_this_rock_reports_count = some (r, m_this_rock_reports_count)) : mFi l G yX8_forget cX8_forget 2 .int 0 [.ref h_this] [(h_this, ob 8 [.ref h_this_rock, .ref h_this_kept, .ref h_this_trial, .ref h_this_planner, .ref h_this_reader, .ref h_this_draft, .ref h_this_host, .ref h_this_thing, .ref h_this_tape, .ref h_this_rows, .int x_this_tapeCount, .int x_this_rowCount, .int x_this_isKept]), (h_this_rock, ob 3 [.ref h_this_rock_kinds, .ref h_this_rock_trims, .ref h_this_rock_lanes, .ref h_this_rock_lights, .ref h_this_rock_currents, .ref h_this_rock_buoys, .ref h_this_rock_now, .ref h_this_rock_rules, .ref h_this_rock_reports, .int x_this_rock_count, .int x_this_rock_end, .int x_this_rock_z]), (h_this_rock_reports, ob 2 [.ref h_this_rock_reports_behinds, .ref h_this_rock_reports_askeds, .ref h_this_rock_reports_leasts, .ref h_this_rock_reports_mosts, .int x_this_rock_reports_count])] r [(h_this, ob 8 [.ref h_this_rock, .ref h_this_kept, .ref h_this_trial, .ref h_this_planner, .ref h_this_reader, .ref h_this_draft, .ref h_this_host, .ref h_this_thing, .ref h_this_tape, .ref h_this_rows, .int x_this_tapeCount, .int x_this_rowCount, .int x_this_isKept]), (h_this_rock, ob 3 [.ref h_this_rock_kinds, .ref h_this_rock_trims, .ref h_this_rock_lanes, .ref h_this_rock_lights, .ref h_this_rock_currents, .ref h_this_rock_buoys, .ref h_this_rock_now, .ref h_this_rock_rules, .ref h_this_rock_reports, .int x_this_rock_count, .int x_this_rock_end, .int x_this_rock_z]), (h_this_rock_reports, ob 2 [.ref h_this_rock_reports_behinds, .ref h_this_rock_reports_askeds, .ref h_this_rock_reports_leasts, .ref h_this_rock_reports_mosts, .int m_this_rock_reports_count])] := by
  refine mFi.of (by decide +kernel) (Nat.le_of_ble_eq_true rfl) ?_
  intro p e s m below meth c A C hr hlk h ls hl
  obtain ⟨hx, hb, hml, hown, hts⟩ := id C
  replace hl : lv_has ls 2 [(0, .ref h_this)] := hl
  unfold f_X8_forget at hf
  refine lv_aload_n hx hb dX8_forget_0 rfl (lv_at hl 0 rfl) ?_
  refine r_get C h fk_X8_10 0 rfl rfl dX8_forget_1 ?_
  refine r_get C h fk_X8_244 1 rfl rfl dX8_forget_4 ?_
  refine r_get C h fk_X8_248 2 rfl rfl dX8_forget_7 ?_
  refine lv_istore_n (lv' := [(1, .int x_this_rock_reports_count), (0, .ref h_this)]) hx hb dX8_forget_10 rfl hl (by decide) rfl (fun ls hl => ?_)
  refine lv_aload_n hx hb dX8_forget_11 rfl (lv_at hl 1 rfl) ?_
  refine r_get C h fk_X8_10 0 rfl rfl dX8_forget_12 ?_
  refine r_get C h fk_X8_244 1 rfl rfl dX8_forget_15 ?_
  refine lv_iconst (v := (0 : Int32)) hx hb dX8_forget_18 rfl ?_
  refine r_put (ws' := [(h_this, ob 8 [.ref h_this_rock, .ref h_this_kept, .ref h_this_trial, .ref h_this_planner, .ref h_this_reader, .ref h_this_draft, .ref h_this_host, .ref h_this_thing, .ref h_this_tape, .ref h_this_rows, .int x_this_tapeCount, .int x_this_rowCount, .int x_this_isKept]), (h_this_rock, ob 3 [.ref h_this_rock_kinds, .ref h_this_rock_trims, .ref h_this_rock_lanes, .ref h_this_rock_lights, .ref h_this_rock_currents, .ref h_this_rock_buoys, .ref h_this_rock_now, .ref h_this_rock_rules, .ref h_this_rock_reports, .int x_this_rock_count, .int x_this_rock_end, .int x_this_rock_z]), (h_this_rock_reports, ob 2 [.ref h_this_rock_reports_behinds, .ref h_this_rock_reports_askeds, .ref h_this_rock_reports_leasts, .ref h_this_rock_reports_mosts, .int (0 : Int32)])]) C h fw_X8_248 2 rfl rfl rfl (Nat.le_of_ble_eq_true rfl) dX8_forget_19 rfl (fun H locs h => ?_)
  refine lv_iload_n hx hb dX8_forget_22 rfl (lv_at hl 0 rfl) ?_
  cases hf
  exact r_iret C h hr hlk rfl dX8_forget_23
set_option maxRecDepth 100000 in
set_option maxHeartbeats 4000000 in
theorem c_X2_kindOf {l : Launch} {G : Gt} {p0 : Int32} {r : Int32} (hf : f_X2_kindOf p0 = some r) : mFi l G yX2_kindOf cX2_kindOf 1 .int 0 [.int p0] ([] : va_W) r ([] : va_W) := by
  refine mFi.of (by decide +kernel) (Nat.le_of_ble_eq_true rfl) ?_
  intro p e s m below meth c A C hr hlk h ls hl
  obtain ⟨hx, hb, hml, hown, hts⟩ := id C
  replace hl : lv_has ls 1 [(0, .int p0)] := hl
  unfold f_X2_kindOf at hf
  refine lv_iconst (v := (1 : Int32)) hx hb dX2_kindOf_0 rfl ?_
  refine lv_iload_n hx hb dX2_kindOf_1 rfl (lv_at hl 0 rfl) ?_
  refine lv_bipush (v := (100 : Int32)) hx hb dX2_kindOf_2 rfl ?_
  refine lv_idiv hx hb dX2_kindOf_4 (by decide) ?_
  refine lv_iadd hx hb dX2_kindOf_5 ?_
  cases hf
  exact r_iret C h hr hlk rfl dX2_kindOf_6
set_option maxRecDepth 100000 in
set_option maxHeartbeats 4000000 in
theorem c_X2_offOf {l : Launch} {G : Gt} {p0 : Int32} {r : Int32} (hf : f_X2_offOf p0 = some r) : mFi l G yX2_offOf cX2_offOf 1 .int 0 [.int p0] ([] : va_W) r ([] : va_W) := by
  refine mFi.of (by decide +kernel) (Nat.le_of_ble_eq_true rfl) ?_
  intro p e s m below meth c A C hr hlk h ls hl
  obtain ⟨hx, hb, hml, hown, hts⟩ := id C
  replace hl : lv_has ls 1 [(0, .int p0)] := hl
  unfold f_X2_offOf at hf
  refine lv_bipush (v := (9 : Int32)) hx hb dX2_offOf_0 rfl ?_
  refine lv_iload_n hx hb dX2_offOf_2 rfl (lv_at hl 0 rfl) ?_
  refine lv_bipush (v := (10 : Int32)) hx hb dX2_offOf_3 rfl ?_
  refine lv_irem hx hb dX2_offOf_5 (by decide) ?_
  refine lv_iconst (v := (1 : Int32)) hx hb dX2_offOf_6 rfl ?_
  refine lv_iadd hx hb dX2_offOf_7 ?_
  refine lv_imul hx hb dX2_offOf_8 ?_
  cases hf
  exact r_iret C h hr hlk rfl dX2_offOf_9
set_option maxRecDepth 100000 in
set_option maxHeartbeats 4000000 in
theorem c_X2_latest {l : Launch} {G : Gt} {h_this h_this_behinds h_this_askeds h_this_leasts h_this_mosts : Nat} {x_this_count : Int32} {f_this_behinds : Nat → Int32} {r : Int32} (hf : f_X2_latest x_this_count f_this_behinds = some r) : mFi l G yX2_latest cX2_latest 3 .int 1 [.ref h_this] [(h_this, ob 2 [.ref h_this_behinds, .ref h_this_askeds, .ref h_this_leasts, .ref h_this_mosts, .int x_this_count]), (h_this_behinds, ia G 6 f_this_behinds)] r [(h_this, ob 2 [.ref h_this_behinds, .ref h_this_askeds, .ref h_this_leasts, .ref h_this_mosts, .int x_this_count]), (h_this_behinds, ia G 6 f_this_behinds)] := by
  refine mFi.of (by decide +kernel) (Nat.le_of_ble_eq_true rfl) ?_
  intro p e s m below meth c A C hr hlk h ls hl
  obtain ⟨hx, hb, hml, hown, hts⟩ := id C
  replace hl : lv_has ls 3 [(0, .ref h_this)] := hl
  unfold f_X2_latest at hf
  refine with_K G A 3 (fun K hK1 hK2 => ?_)
  have L4 : ∀ (n : Nat) (v1 : Int32) (v2 : Int32), f_X2_latest_L4 x_this_count f_this_behinds n v1 v2 = some r → K 4 ([] : List Value) [(h_this, ob 2 [.ref h_this_behinds, .ref h_this_askeds, .ref h_this_leasts, .ref h_this_mosts, .int x_this_count]), (h_this_behinds, ia G 6 f_this_behinds)] [(0, .ref h_this), (1, .int v1), (2, .int v2)] := by
    intro n
    induction n with
    | zero =>
      intro v1 v2 hf
      replace hf : (none : Option _) = some _ := hf
      cases hf
    | succ n ih =>
      intro v1 v2 hf
      rw [f_X2_latest_L4] at hf
      refine hK1 _ _ _ _ (fun H locs ls h hl => ?_)
      refine lv_iload_n hx hb dX2_latest_4 rfl (lv_at hl 2 rfl) ?_
      refine lv_aload_n hx hb dX2_latest_5 rfl (lv_at hl 0 rfl) ?_
      refine r_get C h fk_X2_24 0 rfl rfl dX2_latest_6 ?_
      refine lv_icmp_ge (tgt := 29) hx hb dX2_latest_9 rfl (fun c1 => ?_) (fun c1 => ?_)
      · replace hf := ifp c1 hf
        refine lv_iload_n hx hb dX2_latest_29 rfl (lv_at hl 1 rfl) ?_
        cases hf
        exact r_iret C h hr hlk rfl dX2_latest_30
      · replace hf := ifn c1 hf
        refine lv_iload_n hx hb dX2_latest_12 rfl (lv_at hl 1 rfl) ?_
        refine lv_aload_n hx hb dX2_latest_13 rfl (lv_at hl 0 rfl) ?_
        refine r_get C h fk_X2_9 0 rfl rfl dX2_latest_14 ?_
        refine lv_iload_n hx hb dX2_latest_17 rfl (lv_at hl 2 rfl) ?_
        replace hf := chkI_inv hf
        obtain ⟨hi2, hf⟩ := hf
        refine r_iald C h 1 rfl hi2 dX2_latest_18 ?_
        refine r_imax C mx_X2_34 hl.1 (Nat.le_of_ble_eq_true rfl) (Nat.le_of_ble_eq_true rfl) dX2_latest_19 ?_
        refine lv_topi (fun t3 et3 => ?_)
        replace hf := lt1_inv et3 hf
        refine lv_istore_n (lv' := [(1, .int t3), (0, .ref h_this), (2, .int v2)]) hx hb dX2_latest_22 rfl hl (by decide) rfl (fun ls hl => ?_)
        obtain ⟨t4, et4⟩ : ∃ y : Int32, y = v2 + (1 : Int32) := ⟨_, rfl⟩
        replace hf := lt1_inv et4 hf
        refine lv_iinc (v := t4) (lv' := [(2, .int t4), (1, .int t3), (0, .ref h_this)]) hx hb dX2_latest_23 hl (k := 2) rfl (by rw [et4]; rfl) (by decide) rfl (fun ls hl => ?_)
        refine lv_goto (tgt := 4) hx hb dX2_latest_26 rfl ?_
        exact hK2 _ _ _ _ (ih t3 t4 hf) _ _ _ h (lv_sub hl [2, 1, 0] rfl)
  refine lv_iconst (v := (-1 : Int32)) hx hb dX2_latest_0 rfl ?_
  refine lv_istore_n (lv' := [(1, .int (-1 : Int32)), (0, .ref h_this)]) hx hb dX2_latest_1 rfl hl (by decide) rfl (fun ls hl => ?_)
  refine lv_iconst (v := (0 : Int32)) hx hb dX2_latest_2 rfl ?_
  refine lv_istore_n (lv' := [(2, .int (0 : Int32)), (1, .int (-1 : Int32)), (0, .ref h_this)]) hx hb dX2_latest_3 rfl hl (by decide) rfl (fun ls hl => ?_)
  exact hK2 _ _ _ _ (L4 1000 (-1 : Int32) (0 : Int32) hf) _ _ _ h (lv_sub hl [2, 1, 0] rfl)
set_option maxRecDepth 100000 in
set_option maxHeartbeats 4000000 in
theorem c_X2_wrongBehind {l : Launch} {G : Gt} {h_this h_this_behinds h_this_askeds h_this_leasts h_this_mosts : Nat} {p0 : Int32} {p1 : Int32} {p2 : Int32} {x_this_count : Int32} {f_this_askeds : Nat → Int32} {f_this_behinds : Nat → Int32} {f_this_leasts : Nat → Int32} {f_this_mosts : Nat → Int32} {r : Int32} (hf : f_X2_wrongBehind p0 p1 p2 x_this_count f_this_askeds f_this_behinds f_this_leasts f_this_mosts = some r) : mFi l G yX2_wrongBehind cX2_wrongBehind 7 .int 0 [.ref h_this, .int p0, .int p1, .int p2] [(h_this, ob 2 [.ref h_this_behinds, .ref h_this_askeds, .ref h_this_leasts, .ref h_this_mosts, .int x_this_count]), (h_this_askeds, ia G 6 f_this_askeds), (h_this_behinds, ia G 6 f_this_behinds), (h_this_leasts, ia G 6 f_this_leasts), (h_this_mosts, ia G 6 f_this_mosts)] r [(h_this, ob 2 [.ref h_this_behinds, .ref h_this_askeds, .ref h_this_leasts, .ref h_this_mosts, .int x_this_count]), (h_this_askeds, ia G 6 f_this_askeds), (h_this_behinds, ia G 6 f_this_behinds), (h_this_leasts, ia G 6 f_this_leasts), (h_this_mosts, ia G 6 f_this_mosts)] := by
  refine mFi.of (by decide +kernel) (Nat.le_of_ble_eq_true rfl) ?_
  intro p e s m below meth c A C hr hlk h ls hl
  obtain ⟨hx, hb, hml, hown, hts⟩ := id C
  replace hl : lv_has ls 7 [(0, .ref h_this), (1, .int p0), (2, .int p1), (3, .int p2)] := hl
  unfold f_X2_wrongBehind at hf
  refine with_K G A 7 (fun K hK1 hK2 => ?_)
  have B67 : ∀ (rec6 : Int32 → Int32 → Option (Int32)) (hrec6 : ∀ (v4 : Int32) (v5 : Int32), rec6 v4 v5 = some r → K 6 ([] : List Value) [(h_this, ob 2 [.ref h_this_behinds, .ref h_this_askeds, .ref h_this_leasts, .ref h_this_mosts, .int x_this_count]), (h_this_askeds, ia G 6 f_this_askeds), (h_this_behinds, ia G 6 f_this_behinds), (h_this_leasts, ia G 6 f_this_leasts), (h_this_mosts, ia G 6 f_this_mosts)] [(0, .ref h_this), (1, .int p0), (2, .int p1), (3, .int p2), (4, .int v4), (5, .int v5)]) (v4 : Int32) (v5 : Int32), f_X2_wrongBehind_b67 rec6 v4 v5 = some r → K 67 ([] : List Value) [(h_this, ob 2 [.ref h_this_behinds, .ref h_this_askeds, .ref h_this_leasts, .ref h_this_mosts, .int x_this_count]), (h_this_askeds, ia G 6 f_this_askeds), (h_this_behinds, ia G 6 f_this_behinds), (h_this_leasts, ia G 6 f_this_leasts), (h_this_mosts, ia G 6 f_this_mosts)] [(0, .ref h_this), (1, .int p0), (2, .int p1), (3, .int p2), (4, .int v4), (5, .int v5)] := by
    intro rec6 hrec6 v4 v5 hf
    unfold f_X2_wrongBehind_b67 at hf
    refine hK1 _ _ _ _ (fun H locs ls h hl => ?_)
    refine lv_iload hx hb dX2_wrongBehind_67 (lv_at hl 4 rfl) ?_
    refine lv_iconst (v := (1 : Int32)) hx hb dX2_wrongBehind_69 rfl ?_
    refine lv_iload hx hb dX2_wrongBehind_70 (lv_at hl 5 rfl) ?_
    refine lv_ishl hx hb dX2_wrongBehind_72 ?_
    refine lv_ior hx hb dX2_wrongBehind_73 ?_
    refine lv_topi (fun t9 et9 => ?_)
    replace hf := lt1_inv et9 hf
    refine lv_istore (lv' := [(4, .int t9), (0, .ref h_this), (1, .int p0), (2, .int p1), (3, .int p2), (5, .int v5)]) hx hb dX2_wrongBehind_74 hl (by decide) rfl (fun ls hl => ?_)
    obtain ⟨t10, et10⟩ : ∃ y : Int32, y = v5 + (1 : Int32) := ⟨_, rfl⟩
    replace hf := lt1_inv et10 hf
    refine lv_iinc (v := t10) (lv' := [(5, .int t10), (4, .int t9), (0, .ref h_this), (1, .int p0), (2, .int p1), (3, .int p2)]) hx hb dX2_wrongBehind_76 hl (k := 5) rfl (by rw [et10]; rfl) (by decide) rfl (fun ls hl => ?_)
    refine lv_goto (tgt := 6) hx hb dX2_wrongBehind_79 rfl ?_
    exact hK2 _ _ _ _ (hrec6 t9 t10 hf) _ _ _ h (lv_sub hl [2, 3, 4, 5, 1, 0] rfl)
  have B30 : ∀ (rec6 : Int32 → Int32 → Option (Int32)) (hrec6 : ∀ (v4 : Int32) (v5 : Int32), rec6 v4 v5 = some r → K 6 ([] : List Value) [(h_this, ob 2 [.ref h_this_behinds, .ref h_this_askeds, .ref h_this_leasts, .ref h_this_mosts, .int x_this_count]), (h_this_askeds, ia G 6 f_this_askeds), (h_this_behinds, ia G 6 f_this_behinds), (h_this_leasts, ia G 6 f_this_leasts), (h_this_mosts, ia G 6 f_this_mosts)] [(0, .ref h_this), (1, .int p0), (2, .int p1), (3, .int p2), (4, .int v4), (5, .int v5)]) (v4 : Int32) (v5 : Int32) (s0 : Int32), f_X2_wrongBehind_b30 rec6 p0 f_this_behinds f_this_leasts f_this_mosts v4 v5 s0 = some r → K 30 [.int s0] [(h_this, ob 2 [.ref h_this_behinds, .ref h_this_askeds, .ref h_this_leasts, .ref h_this_mosts, .int x_this_count]), (h_this_askeds, ia G 6 f_this_askeds), (h_this_behinds, ia G 6 f_this_behinds), (h_this_leasts, ia G 6 f_this_leasts), (h_this_mosts, ia G 6 f_this_mosts)] [(0, .ref h_this), (1, .int p0), (2, .int p1), (3, .int p2), (4, .int v4), (5, .int v5)] := by
    intro rec6 hrec6 v4 v5 s0 hf
    unfold f_X2_wrongBehind_b30 at hf
    refine hK1 _ _ _ _ (fun H locs ls h hl => ?_)
    refine lv_istore (lv' := [(6, .int s0), (0, .ref h_this), (1, .int p0), (2, .int p1), (3, .int p2), (4, .int v4), (5, .int v5)]) hx hb dX2_wrongBehind_30 hl (by decide) rfl (fun ls hl => ?_)
    refine lv_aload_n hx hb dX2_wrongBehind_32 rfl (lv_at hl 1 rfl) ?_
    refine r_get C h fk_X2_9 0 rfl rfl dX2_wrongBehind_33 ?_
    refine lv_iload hx hb dX2_wrongBehind_36 (lv_at hl 6 rfl) ?_
    replace hf := chkI_inv hf
    obtain ⟨hi4, hf⟩ := hf
    refine r_iald C h 2 rfl hi4 dX2_wrongBehind_38 ?_
    refine lv_iload_n hx hb dX2_wrongBehind_39 rfl (lv_at hl 2 rfl) ?_
    refine lv_icmp_ne (tgt := 76) hx hb dX2_wrongBehind_40 rfl (fun c5 => ?_) (fun c5 => ?_)
    · replace hf := ifn c5 hf
      obtain ⟨t6, et6⟩ : ∃ y : Int32, y = v5 + (1 : Int32) := ⟨_, rfl⟩
      replace hf := lt1_inv et6 hf
      refine lv_iinc (v := t6) (lv' := [(5, .int t6), (6, .int s0), (0, .ref h_this), (1, .int p0), (2, .int p1), (3, .int p2), (4, .int v4)]) hx hb dX2_wrongBehind_76 hl (k := 6) rfl (by rw [et6]; rfl) (by decide) rfl (fun ls hl => ?_)
      refine lv_goto (tgt := 6) hx hb dX2_wrongBehind_79 rfl ?_
      exact hK2 _ _ _ _ (hrec6 v4 t6 hf) _ _ _ h (lv_sub hl [2, 3, 4, 5, 6, 0] rfl)
    · replace hf := ifp c5 hf
      refine lv_iload hx hb dX2_wrongBehind_43 (lv_at hl 0 rfl) ?_
      refine lv_aload_n hx hb dX2_wrongBehind_45 rfl (lv_at hl 1 rfl) ?_
      refine r_get C h fk_X2_18 0 rfl rfl dX2_wrongBehind_46 ?_
      refine lv_iload hx hb dX2_wrongBehind_49 (lv_at hl 6 rfl) ?_
      replace hf := chkI_inv hf
      obtain ⟨hi7, hf⟩ := hf
      refine r_iald C h 3 rfl hi7 dX2_wrongBehind_51 ?_
      refine lv_icmp_lt (tgt := 67) hx hb dX2_wrongBehind_52 rfl (fun c8 => ?_) (fun c8 => ?_)
      · replace hf := ifp c8 hf
        exact hK2 _ _ _ _ (B67 _ hrec6 v4 v5 hf) _ _ _ h (lv_sub hl [1, 2, 3, 4, 5, 6] rfl)
      · replace hf := ifn c8 hf
        refine lv_iload hx hb dX2_wrongBehind_55 (lv_at hl 0 rfl) ?_
        refine lv_aload_n hx hb dX2_wrongBehind_57 rfl (lv_at hl 1 rfl) ?_
        refine r_get C h fk_X2_21 0 rfl rfl dX2_wrongBehind_58 ?_
        refine lv_iload hx hb dX2_wrongBehind_61 (lv_at hl 6 rfl) ?_
        replace hf := chkI_inv hf
        obtain ⟨hi11, hf⟩ := hf
        refine r_iald C h 4 rfl hi11 dX2_wrongBehind_63 ?_
        refine lv_icmp_le (tgt := 76) hx hb dX2_wrongBehind_64 rfl (fun c12 => ?_) (fun c12 => ?_)
        · replace hf := ifp c12 hf
          obtain ⟨t13, et13⟩ : ∃ y : Int32, y = v5 + (1 : Int32) := ⟨_, rfl⟩
          replace hf := lt1_inv et13 hf
          refine lv_iinc (v := t13) (lv' := [(5, .int t13), (6, .int s0), (0, .ref h_this), (1, .int p0), (2, .int p1), (3, .int p2), (4, .int v4)]) hx hb dX2_wrongBehind_76 hl (k := 6) rfl (by rw [et13]; rfl) (by decide) rfl (fun ls hl => ?_)
          refine lv_goto (tgt := 6) hx hb dX2_wrongBehind_79 rfl ?_
          exact hK2 _ _ _ _ (hrec6 v4 t13 hf) _ _ _ h (lv_sub hl [2, 3, 4, 5, 6, 0] rfl)
        · replace hf := ifn c12 hf
          exact hK2 _ _ _ _ (B67 _ hrec6 v4 v5 hf) _ _ _ h (lv_sub hl [1, 2, 3, 4, 5, 6] rfl)
  have L6 : ∀ (n : Nat) (v4 : Int32) (v5 : Int32), f_X2_wrongBehind_L6 p0 p1 p2 x_this_count f_this_askeds f_this_behinds f_this_leasts f_this_mosts n v4 v5 = some r → K 6 ([] : List Value) [(h_this, ob 2 [.ref h_this_behinds, .ref h_this_askeds, .ref h_this_leasts, .ref h_this_mosts, .int x_this_count]), (h_this_askeds, ia G 6 f_this_askeds), (h_this_behinds, ia G 6 f_this_behinds), (h_this_leasts, ia G 6 f_this_leasts), (h_this_mosts, ia G 6 f_this_mosts)] [(0, .ref h_this), (1, .int p0), (2, .int p1), (3, .int p2), (4, .int v4), (5, .int v5)] := by
    intro n
    induction n with
    | zero =>
      intro v4 v5 hf
      replace hf : (none : Option _) = some _ := hf
      cases hf
    | succ n ih =>
      intro v4 v5 hf
      rw [f_X2_wrongBehind_L6] at hf
      refine hK1 _ _ _ _ (fun H locs ls h hl => ?_)
      refine lv_iload hx hb dX2_wrongBehind_6 (lv_at hl 5 rfl) ?_
      refine lv_aload_n hx hb dX2_wrongBehind_8 rfl (lv_at hl 0 rfl) ?_
      refine r_get C h fk_X2_24 0 rfl rfl dX2_wrongBehind_9 ?_
      refine lv_icmp_ge (tgt := 82) hx hb dX2_wrongBehind_12 rfl (fun c1 => ?_) (fun c1 => ?_)
      · replace hf := ifp c1 hf
        refine lv_iload hx hb dX2_wrongBehind_82 (lv_at hl 4 rfl) ?_
        cases hf
        exact r_iret C h hr hlk rfl dX2_wrongBehind_84
      · replace hf := ifn c1 hf
        refine lv_aload_n hx hb dX2_wrongBehind_15 rfl (lv_at hl 0 rfl) ?_
        refine r_get C h fk_X2_15 0 rfl rfl dX2_wrongBehind_16 ?_
        refine lv_iload hx hb dX2_wrongBehind_19 (lv_at hl 5 rfl) ?_
        replace hf := chkI_inv hf
        obtain ⟨hi2, hf⟩ := hf
        refine r_iald C h 1 rfl hi2 dX2_wrongBehind_21 ?_
        refine lv_if_ne (tgt := 29) hx hb dX2_wrongBehind_22 rfl (fun c3 => ?_) (fun c3 => ?_)
        · replace hf := ifn c3 hf
          refine lv_iload_n hx hb dX2_wrongBehind_29 rfl (lv_at hl 3 rfl) ?_
          exact hK2 _ _ _ _ (B30 _ ih v4 v5 p2 hf) _ _ _ h (lv_sub hl [0, 1, 2, 3, 4, 5] rfl)
        · replace hf := ifp c3 hf
          refine lv_iload_n hx hb dX2_wrongBehind_25 rfl (lv_at hl 2 rfl) ?_
          refine lv_goto (tgt := 30) hx hb dX2_wrongBehind_26 rfl ?_
          exact hK2 _ _ _ _ (B30 _ ih v4 v5 p1 hf) _ _ _ h (lv_sub hl [0, 1, 2, 3, 4, 5] rfl)
  refine lv_iconst (v := (0 : Int32)) hx hb dX2_wrongBehind_0 rfl ?_
  refine lv_istore (lv' := [(4, .int (0 : Int32)), (0, .ref h_this), (1, .int p0), (2, .int p1), (3, .int p2)]) hx hb dX2_wrongBehind_1 hl (by decide) rfl (fun ls hl => ?_)
  refine lv_iconst (v := (0 : Int32)) hx hb dX2_wrongBehind_3 rfl ?_
  refine lv_istore (lv' := [(5, .int (0 : Int32)), (4, .int (0 : Int32)), (0, .ref h_this), (1, .int p0), (2, .int p1), (3, .int p2)]) hx hb dX2_wrongBehind_4 hl (by decide) rfl (fun ls hl => ?_)
  exact hK2 _ _ _ _ (L6 1000 (0 : Int32) (0 : Int32) hf) _ _ _ h (lv_sub hl [2, 3, 4, 5, 1, 0] rfl)
set_option maxRecDepth 100000 in
set_option maxHeartbeats 4000000 in
theorem c_X2_trimOf {l : Launch} {G : Gt} {p0 : Int32} {r : Int32} (hf : f_X2_trimOf p0 = some r) : mFi l G yX2_trimOf cX2_trimOf 1 .int 0 [.int p0] ([] : va_W) r ([] : va_W) := by
  refine mFi.of (by decide +kernel) (Nat.le_of_ble_eq_true rfl) ?_
  intro p e s m below meth c A C hr hlk h ls hl
  obtain ⟨hx, hb, hml, hown, hts⟩ := id C
  replace hl : lv_has ls 1 [(0, .int p0)] := hl
  unfold f_X2_trimOf at hf
  refine lv_iload_n hx hb dX2_trimOf_0 rfl (lv_at hl 0 rfl) ?_
  refine lv_bipush (v := (10 : Int32)) hx hb dX2_trimOf_1 rfl ?_
  refine lv_idiv hx hb dX2_trimOf_3 (by decide) ?_
  refine lv_bipush (v := (10 : Int32)) hx hb dX2_trimOf_4 rfl ?_
  refine lv_irem hx hb dX2_trimOf_6 (by decide) ?_
  cases hf
  exact r_iret C h hr hlk rfl dX2_trimOf_7
set_option maxRecDepth 100000 in
set_option maxHeartbeats 4000000 in
theorem c_X2_wrongFor {l : Launch} {G : Gt} {h_a1 h_this h_this_behinds h_this_askeds h_this_leasts h_this_mosts : Nat} {p0 : Int32} {n_a1 : Nat} {f_a1 : Nat → Int32} {x_this_count : Int32} {f_this_askeds : Nat → Int32} {f_this_behinds : Nat → Int32} {f_this_leasts : Nat → Int32} {f_this_mosts : Nat → Int32} {r : Int32} (hf : f_X2_wrongFor p0 n_a1 f_a1 x_this_count f_this_askeds f_this_behinds f_this_leasts f_this_mosts = some r) : mFi l G yX2_wrongFor cX2_wrongFor 9 .int 2 [.ref h_this, .int p0, .ref h_a1] [(h_a1, ia G n_a1 f_a1), (h_this, ob 2 [.ref h_this_behinds, .ref h_this_askeds, .ref h_this_leasts, .ref h_this_mosts, .int x_this_count]), (h_this_askeds, ia G 6 f_this_askeds), (h_this_behinds, ia G 6 f_this_behinds), (h_this_leasts, ia G 6 f_this_leasts), (h_this_mosts, ia G 6 f_this_mosts)] r [(h_a1, ia G n_a1 f_a1), (h_this, ob 2 [.ref h_this_behinds, .ref h_this_askeds, .ref h_this_leasts, .ref h_this_mosts, .int x_this_count]), (h_this_askeds, ia G 6 f_this_askeds), (h_this_behinds, ia G 6 f_this_behinds), (h_this_leasts, ia G 6 f_this_leasts), (h_this_mosts, ia G 6 f_this_mosts)] := by
  refine mFi.of (by decide +kernel) (Nat.le_of_ble_eq_true rfl) ?_
  intro p e s m below meth c A C hr hlk h ls hl
  obtain ⟨hx, hb, hml, hown, hts⟩ := id C
  replace hl : lv_has ls 9 [(0, .ref h_this), (1, .int p0), (2, .ref h_a1)] := hl
  unfold f_X2_wrongFor at hf
  refine with_K G A 9 (fun K hK1 hK2 => ?_)
  have B79 : ∀ (rec31 : Int32 → Int32 → Int32 → Int32 → Int32 → Int32 → Option (Int32)) (hrec31 : ∀ (v3 : Int32) (v4 : Int32) (v5 : Int32) (v6 : Int32) (v7 : Int32) (v8 : Int32), rec31 v3 v4 v5 v6 v7 v8 = some r → K 31 ([] : List Value) [(h_a1, ia G n_a1 f_a1), (h_this, ob 2 [.ref h_this_behinds, .ref h_this_askeds, .ref h_this_leasts, .ref h_this_mosts, .int x_this_count]), (h_this_askeds, ia G 6 f_this_askeds), (h_this_behinds, ia G 6 f_this_behinds), (h_this_leasts, ia G 6 f_this_leasts), (h_this_mosts, ia G 6 f_this_mosts)] [(0, .ref h_this), (1, .int p0), (2, .ref h_a1), (3, .int v3), (4, .int v4), (5, .int v5), (6, .int v6), (7, .int v7), (8, .int v8)]) (v3 : Int32) (v4 : Int32) (v5 : Int32) (v6 : Int32) (v7 : Int32) (v8 : Int32), f_X2_wrongFor_b79 rec31 n_a1 f_a1 v3 v4 v5 v6 v7 v8 = some r → K 79 ([] : List Value) [(h_a1, ia G n_a1 f_a1), (h_this, ob 2 [.ref h_this_behinds, .ref h_this_askeds, .ref h_this_leasts, .ref h_this_mosts, .int x_this_count]), (h_this_askeds, ia G 6 f_this_askeds), (h_this_behinds, ia G 6 f_this_behinds), (h_this_leasts, ia G 6 f_this_leasts), (h_this_mosts, ia G 6 f_this_mosts)] [(0, .ref h_this), (1, .int p0), (2, .ref h_a1), (3, .int v3), (4, .int v4), (5, .int v5), (6, .int v6), (7, .int v7), (8, .int v8)] := by
    intro rec31 hrec31 v3 v4 v5 v6 v7 v8 hf
    unfold f_X2_wrongFor_b79 at hf
    refine hK1 _ _ _ _ (fun H locs ls h hl => ?_)
    refine lv_iconst (v := (0 : Int32)) hx hb dX2_wrongFor_79 rfl ?_
    refine lv_iload hx hb dX2_wrongFor_80 (lv_at hl 4 rfl) ?_
    refine lv_iload_n hx hb dX2_wrongFor_82 rfl (lv_at hl 3 rfl) ?_
    refine lv_aload_n hx hb dX2_wrongFor_83 rfl (lv_at hl 2 rfl) ?_
    refine lv_iload hx hb dX2_wrongFor_84 (lv_at hl 8 rfl) ?_
    replace hf := chkI_inv hf
    obtain ⟨hi13, hf⟩ := hf
    refine r_iald C h 0 rfl hi13 dX2_wrongFor_86 ?_
    refine lv_iload hx hb dX2_wrongFor_87 (lv_at hl 8 rfl) ?_
    replace hf := bd1_inv hf
    obtain ⟨r14, hc15, hf⟩ := hf
    refine r_ciN0 C h (c_X8_nearsAlone hc15) mn_X2_64 rfl [] rfl rfl hl.1 rfl (Nat.le_of_ble_eq_true rfl) (rok (by decide)) dX2_wrongFor_89 (fun H locs h => ?_)
    refine lv_isub hx hb dX2_wrongFor_92 ?_
    refine r_imax C mx_X2_34 hl.1 (Nat.le_of_ble_eq_true rfl) (Nat.le_of_ble_eq_true rfl) dX2_wrongFor_93 ?_
    refine lv_topi (fun t16 et16 => ?_)
    replace hf := lt1_inv et16 hf
    refine lv_istore (lv' := [(4, .int t16), (0, .ref h_this), (1, .int p0), (2, .ref h_a1), (3, .int v3), (5, .int v5), (6, .int v6), (7, .int v7), (8, .int v8)]) hx hb dX2_wrongFor_96 hl (by decide) rfl (fun ls hl => ?_)
    obtain ⟨t17, et17⟩ : ∃ y : Int32, y = v8 + (1 : Int32) := ⟨_, rfl⟩
    replace hf := lt1_inv et17 hf
    refine lv_iinc (v := t17) (lv' := [(8, .int t17), (4, .int t16), (0, .ref h_this), (1, .int p0), (2, .ref h_a1), (3, .int v3), (5, .int v5), (6, .int v6), (7, .int v7)]) hx hb dX2_wrongFor_98 hl (k := 8) rfl (by rw [et17]; rfl) (by decide) rfl (fun ls hl => ?_)
    refine lv_goto (tgt := 31) hx hb dX2_wrongFor_101 rfl ?_
    exact hK2 _ _ _ _ (hrec31 v3 t16 v5 v6 v7 t17 hf) _ _ _ h (lv_sub hl [2, 3, 4, 5, 1, 6, 7, 8, 0] rfl)
  have L31 : ∀ (n : Nat) (v3 : Int32) (v4 : Int32) (v5 : Int32) (v6 : Int32) (v7 : Int32) (v8 : Int32), f_X2_wrongFor_L31 p0 n_a1 f_a1 x_this_count f_this_askeds f_this_behinds f_this_leasts f_this_mosts n v3 v4 v5 v6 v7 v8 = some r → K 31 ([] : List Value) [(h_a1, ia G n_a1 f_a1), (h_this, ob 2 [.ref h_this_behinds, .ref h_this_askeds, .ref h_this_leasts, .ref h_this_mosts, .int x_this_count]), (h_this_askeds, ia G 6 f_this_askeds), (h_this_behinds, ia G 6 f_this_behinds), (h_this_leasts, ia G 6 f_this_leasts), (h_this_mosts, ia G 6 f_this_mosts)] [(0, .ref h_this), (1, .int p0), (2, .ref h_a1), (3, .int v3), (4, .int v4), (5, .int v5), (6, .int v6), (7, .int v7), (8, .int v8)] := by
    intro n
    induction n with
    | zero =>
      intro v3 v4 v5 v6 v7 v8 hf
      replace hf : (none : Option _) = some _ := hf
      cases hf
    | succ n ih =>
      intro v3 v4 v5 v6 v7 v8 hf
      rw [f_X2_wrongFor_L31] at hf
      refine hK1 _ _ _ _ (fun H locs ls h hl => ?_)
      refine lv_iload hx hb dX2_wrongFor_31 (lv_at hl 8 rfl) ?_
      refine lv_iload hx hb dX2_wrongFor_33 (lv_at hl 5 rfl) ?_
      refine lv_icmp_gt (tgt := 104) hx hb dX2_wrongFor_35 rfl (fun c8 => ?_) (fun c8 => ?_)
      · replace hf := ifp c8 hf
        refine lv_iload hx hb dX2_wrongFor_104 (lv_at hl 7 rfl) ?_
        cases hf
        exact r_iret C h hr hlk rfl dX2_wrongFor_106
      · replace hf := ifn c8 hf
        refine lv_iload hx hb dX2_wrongFor_38 (lv_at hl 7 rfl) ?_
        refine lv_aload_n hx hb dX2_wrongFor_40 rfl (lv_at hl 0 rfl) ?_
        refine lv_iload hx hb dX2_wrongFor_41 (lv_at hl 8 rfl) ?_
        refine lv_iload hx hb dX2_wrongFor_43 (lv_at hl 4 rfl) ?_
        refine lv_iload hx hb dX2_wrongFor_45 (lv_at hl 6 rfl) ?_
        replace hf := bd1_inv hf
        obtain ⟨r9, hc10, hf⟩ := hf
        refine r_ciV0 C h (c_X2_wrongBehind hc10) mv_X2_54 rfl 1 rfl [1, 2, 3, 4, 5] rfl rfl hl.1 rfl (Nat.le_of_ble_eq_true rfl) (rok (by decide)) dX2_wrongFor_47 (fun H locs h => ?_)
        refine lv_ior hx hb dX2_wrongFor_50 ?_
        refine lv_topi (fun t11 et11 => ?_)
        replace hf := lt1_inv et11 hf
        refine lv_istore (lv' := [(7, .int t11), (0, .ref h_this), (1, .int p0), (2, .ref h_a1), (3, .int v3), (4, .int v4), (5, .int v5), (6, .int v6), (8, .int v8)]) hx hb dX2_wrongFor_51 hl (by decide) rfl (fun ls hl => ?_)
        refine lv_iload hx hb dX2_wrongFor_53 (lv_at hl 5 rfl) ?_
        refine lv_iconst (v := (1 : Int32)) hx hb dX2_wrongFor_55 rfl ?_
        refine lv_icmp_lt (tgt := 79) hx hb dX2_wrongFor_56 rfl (fun c12 => ?_) (fun c12 => ?_)
        · replace hf := ifp c12 hf
          exact hK2 _ _ _ _ (B79 _ ih v3 v4 v5 v6 t11 v8 hf) _ _ _ h (lv_sub hl [1, 2, 3, 4, 5, 6, 7, 0, 8] rfl)
        · replace hf := ifn c12 hf
          refine lv_iload hx hb dX2_wrongFor_59 (lv_at hl 5 rfl) ?_
          refine lv_iload_n hx hb dX2_wrongFor_61 rfl (lv_at hl 4 rfl) ?_
          refine lv_iload_n hx hb dX2_wrongFor_62 rfl (lv_at hl 2 rfl) ?_
          replace hf := bd1_inv hf
          obtain ⟨r18, hc19, hf⟩ := hf
          refine r_ciS0 C h (c_X2_trimOf hc19) ms_X2_58 rfl [] rfl rfl hl.1 rfl (Nat.le_of_ble_eq_true rfl) (rok (by decide)) dX2_wrongFor_63 (fun H locs h => ?_)
          refine lv_aload_n hx hb dX2_wrongFor_66 rfl (lv_at hl 3 rfl) ?_
          refine lv_iload hx hb dX2_wrongFor_67 (lv_at hl 8 rfl) ?_
          replace hf := chkI_inv hf
          obtain ⟨hi20, hf⟩ := hf
          refine r_iald C h 0 rfl hi20 dX2_wrongFor_69 ?_
          replace hf := bd1_inv hf
          obtain ⟨r21, hc22, hf⟩ := hf
          refine r_ciN0 C h (c_X8_reachesAlone hc22) mn_X2_61 rfl [] rfl rfl hl.1 rfl (Nat.le_of_ble_eq_true rfl) (rok (by decide)) dX2_wrongFor_70 (fun H locs h => ?_)
          refine lv_icmp_gt (tgt := 79) hx hb dX2_wrongFor_73 rfl (fun c23 => ?_) (fun c23 => ?_)
          · replace hf := ifp c23 hf
            exact hK2 _ _ _ _ (B79 _ ih v3 v4 v5 v6 t11 v8 hf) _ _ _ h (lv_sub hl [1, 2, 3, 4, 5, 6, 7, 0, 8] rfl)
          · replace hf := ifn c23 hf
            obtain ⟨t24, et24⟩ : ∃ y : Int32, y = v6 + (1 : Int32) := ⟨_, rfl⟩
            replace hf := lt1_inv et24 hf
            refine lv_iinc (v := t24) (lv' := [(6, .int t24), (7, .int t11), (0, .ref h_this), (1, .int p0), (2, .ref h_a1), (3, .int v3), (4, .int v4), (5, .int v5), (8, .int v8)]) hx hb dX2_wrongFor_76 hl (k := 7) rfl (by rw [et24]; rfl) (by decide) rfl (fun ls hl => ?_)
            exact hK2 _ _ _ _ (B79 _ ih v3 v4 v5 t24 t11 v8 hf) _ _ _ h (lv_sub hl [2, 3, 4, 5, 6, 7, 0, 1, 8] rfl)
  refine lv_iload_n hx hb dX2_wrongFor_0 rfl (lv_at hl 1 rfl) ?_
  replace hf := bd1_inv hf
  obtain ⟨r1, hc2, hf⟩ := hf
  refine r_ciS0 C h (c_X2_kindOf hc2) ms_X2_40 rfl [] rfl rfl hl.1 rfl (Nat.le_of_ble_eq_true rfl) (rok (by decide)) dX2_wrongFor_1 (fun H locs h => ?_)
  refine lv_istore_n (lv' := [(3, .int r1), (0, .ref h_this), (1, .int p0), (2, .ref h_a1)]) hx hb dX2_wrongFor_4 rfl hl (by decide) rfl (fun ls hl => ?_)
  refine lv_iload_n hx hb dX2_wrongFor_5 rfl (lv_at hl 2 rfl) ?_
  replace hf := bd1_inv hf
  obtain ⟨r3, hc4, hf⟩ := hf
  refine r_ciS0 C h (c_X2_offOf hc4) ms_X2_44 rfl [] rfl rfl hl.1 rfl (Nat.le_of_ble_eq_true rfl) (rok (by decide)) dX2_wrongFor_6 (fun H locs h => ?_)
  refine lv_istore (lv' := [(4, .int r3), (3, .int r1), (0, .ref h_this), (1, .int p0), (2, .ref h_a1)]) hx hb dX2_wrongFor_9 hl (by decide) rfl (fun ls hl => ?_)
  refine lv_aload_n hx hb dX2_wrongFor_11 rfl (lv_at hl 2 rfl) ?_
  replace hf := bd1_inv hf
  obtain ⟨r5, hc6, hf⟩ := hf
  refine r_ciV0 C h (c_X2_latest hc6) mv_X2_47 rfl 1 rfl [1, 3] rfl rfl hl.1 rfl (Nat.le_of_ble_eq_true rfl) (rok (by decide)) dX2_wrongFor_12 (fun H locs h => ?_)
  refine lv_bipush (v := (15 : Int32)) hx hb dX2_wrongFor_15 rfl ?_
  refine r_imin C mi_X2_51 hl.1 (Nat.le_of_ble_eq_true rfl) (Nat.le_of_ble_eq_true rfl) dX2_wrongFor_17 ?_
  refine lv_topi (fun t7 et7 => ?_)
  replace hf := lt1_inv et7 hf
  refine lv_istore (lv' := [(5, .int t7), (4, .int r3), (3, .int r1), (0, .ref h_this), (1, .int p0), (2, .ref h_a1)]) hx hb dX2_wrongFor_20 hl (by decide) rfl (fun ls hl => ?_)
  refine lv_iconst (v := (0 : Int32)) hx hb dX2_wrongFor_22 rfl ?_
  refine lv_istore (lv' := [(6, .int (0 : Int32)), (5, .int t7), (4, .int r3), (3, .int r1), (0, .ref h_this), (1, .int p0), (2, .ref h_a1)]) hx hb dX2_wrongFor_23 hl (by decide) rfl (fun ls hl => ?_)
  refine lv_iconst (v := (0 : Int32)) hx hb dX2_wrongFor_25 rfl ?_
  refine lv_istore (lv' := [(7, .int (0 : Int32)), (6, .int (0 : Int32)), (5, .int t7), (4, .int r3), (3, .int r1), (0, .ref h_this), (1, .int p0), (2, .ref h_a1)]) hx hb dX2_wrongFor_26 hl (by decide) rfl (fun ls hl => ?_)
  refine lv_iconst (v := (0 : Int32)) hx hb dX2_wrongFor_28 rfl ?_
  refine lv_istore (lv' := [(8, .int (0 : Int32)), (7, .int (0 : Int32)), (6, .int (0 : Int32)), (5, .int t7), (4, .int r3), (3, .int r1), (0, .ref h_this), (1, .int p0), (2, .ref h_a1)]) hx hb dX2_wrongFor_29 hl (by decide) rfl (fun ls hl => ?_)
  exact hK2 _ _ _ _ (L31 1000 r1 r3 t7 (0 : Int32) (0 : Int32) (0 : Int32) hf) _ _ _ h (lv_sub hl [6, 7, 8, 5, 4, 3, 2, 1, 0] rfl)
set_option maxRecDepth 100000 in
set_option maxHeartbeats 4000000 in
theorem c_X8_countLone {l : Launch} {G : Gt} {h_this h_this_rock h_this_kept h_this_trial h_this_planner h_this_reader h_this_draft h_this_host h_this_thing h_this_tape h_this_rows h_this_rock_kinds h_this_rock_trims h_this_rock_lanes h_this_rock_lights h_this_rock_currents h_this_rock_buoys h_this_rock_now h_this_rock_rules h_this_rock_reports h_this_rock_reports_behinds h_this_rock_reports_askeds h_this_rock_reports_leasts h_this_rock_reports_mosts : Nat} {x_this_tapeCount : Int32} {x_this_rowCount : Int32} {x_this_isKept : Int32} {x_this_rock_count : Int32} {x_this_rock_end : Int32} {x_this_rock_z : Int32} {f_this_rock_lights : Nat → Int32} {x_this_rock_reports_count : Int32} {f_this_rock_reports_askeds : Nat → Int32} {f_this_rock_reports_behinds : Nat → Int32} {f_this_rock_reports_leasts : Nat → Int32} {f_this_rock_reports_mosts : Nat → Int32} {r : Int32} (hf : f_X8_countLone f_this_rock_lights x_this_rock_reports_count f_this_rock_reports_askeds f_this_rock_reports_behinds f_this_rock_reports_leasts f_this_rock_reports_mosts = some r) : mFi l G yX8_countLone cX8_countLone 3 .int 3 [.ref h_this] [(h_this, ob 8 [.ref h_this_rock, .ref h_this_kept, .ref h_this_trial, .ref h_this_planner, .ref h_this_reader, .ref h_this_draft, .ref h_this_host, .ref h_this_thing, .ref h_this_tape, .ref h_this_rows, .int x_this_tapeCount, .int x_this_rowCount, .int x_this_isKept]), (h_this_rock, ob 3 [.ref h_this_rock_kinds, .ref h_this_rock_trims, .ref h_this_rock_lanes, .ref h_this_rock_lights, .ref h_this_rock_currents, .ref h_this_rock_buoys, .ref h_this_rock_now, .ref h_this_rock_rules, .ref h_this_rock_reports, .int x_this_rock_count, .int x_this_rock_end, .int x_this_rock_z]), (h_this_rock_lights, ia G 16 f_this_rock_lights), (h_this_rock_reports, ob 2 [.ref h_this_rock_reports_behinds, .ref h_this_rock_reports_askeds, .ref h_this_rock_reports_leasts, .ref h_this_rock_reports_mosts, .int x_this_rock_reports_count]), (h_this_rock_reports_askeds, ia G 6 f_this_rock_reports_askeds), (h_this_rock_reports_behinds, ia G 6 f_this_rock_reports_behinds), (h_this_rock_reports_leasts, ia G 6 f_this_rock_reports_leasts), (h_this_rock_reports_mosts, ia G 6 f_this_rock_reports_mosts)] r [(h_this, ob 8 [.ref h_this_rock, .ref h_this_kept, .ref h_this_trial, .ref h_this_planner, .ref h_this_reader, .ref h_this_draft, .ref h_this_host, .ref h_this_thing, .ref h_this_tape, .ref h_this_rows, .int x_this_tapeCount, .int x_this_rowCount, .int x_this_isKept]), (h_this_rock, ob 3 [.ref h_this_rock_kinds, .ref h_this_rock_trims, .ref h_this_rock_lanes, .ref h_this_rock_lights, .ref h_this_rock_currents, .ref h_this_rock_buoys, .ref h_this_rock_now, .ref h_this_rock_rules, .ref h_this_rock_reports, .int x_this_rock_count, .int x_this_rock_end, .int x_this_rock_z]), (h_this_rock_lights, ia G 16 f_this_rock_lights), (h_this_rock_reports, ob 2 [.ref h_this_rock_reports_behinds, .ref h_this_rock_reports_askeds, .ref h_this_rock_reports_leasts, .ref h_this_rock_reports_mosts, .int x_this_rock_reports_count]), (h_this_rock_reports_askeds, ia G 6 f_this_rock_reports_askeds), (h_this_rock_reports_behinds, ia G 6 f_this_rock_reports_behinds), (h_this_rock_reports_leasts, ia G 6 f_this_rock_reports_leasts), (h_this_rock_reports_mosts, ia G 6 f_this_rock_reports_mosts)] := by
  refine mFi.of (by decide +kernel) (Nat.le_of_ble_eq_true rfl) ?_
  intro p e s m below meth c A C hr hlk h ls hl
  obtain ⟨hx, hb, hml, hown, hts⟩ := id C
  replace hl : lv_has ls 3 [(0, .ref h_this)] := hl
  unfold f_X8_countLone at hf
  refine with_K G A 3 (fun K hK1 hK2 => ?_)
  have L4 : ∀ (n : Nat) (v1 : Int32) (v2 : Int32), f_X8_countLone_L4 f_this_rock_lights x_this_rock_reports_count f_this_rock_reports_askeds f_this_rock_reports_behinds f_this_rock_reports_leasts f_this_rock_reports_mosts n v1 v2 = some r → K 4 ([] : List Value) [(h_this, ob 8 [.ref h_this_rock, .ref h_this_kept, .ref h_this_trial, .ref h_this_planner, .ref h_this_reader, .ref h_this_draft, .ref h_this_host, .ref h_this_thing, .ref h_this_tape, .ref h_this_rows, .int x_this_tapeCount, .int x_this_rowCount, .int x_this_isKept]), (h_this_rock, ob 3 [.ref h_this_rock_kinds, .ref h_this_rock_trims, .ref h_this_rock_lanes, .ref h_this_rock_lights, .ref h_this_rock_currents, .ref h_this_rock_buoys, .ref h_this_rock_now, .ref h_this_rock_rules, .ref h_this_rock_reports, .int x_this_rock_count, .int x_this_rock_end, .int x_this_rock_z]), (h_this_rock_lights, ia G 16 f_this_rock_lights), (h_this_rock_reports, ob 2 [.ref h_this_rock_reports_behinds, .ref h_this_rock_reports_askeds, .ref h_this_rock_reports_leasts, .ref h_this_rock_reports_mosts, .int x_this_rock_reports_count]), (h_this_rock_reports_askeds, ia G 6 f_this_rock_reports_askeds), (h_this_rock_reports_behinds, ia G 6 f_this_rock_reports_behinds), (h_this_rock_reports_leasts, ia G 6 f_this_rock_reports_leasts), (h_this_rock_reports_mosts, ia G 6 f_this_rock_reports_mosts)] [(0, .ref h_this), (1, .int v1), (2, .int v2)] := by
    intro n
    induction n with
    | zero =>
      intro v1 v2 hf
      replace hf : (none : Option _) = some _ := hf
      cases hf
    | succ n ih =>
      intro v1 v2 hf
      rw [f_X8_countLone_L4] at hf
      refine hK1 _ _ _ _ (fun H locs ls h hl => ?_)
      refine lv_iload_n hx hb dX8_countLone_4 rfl (lv_at hl 2 rfl) ?_
      refine lv_sipush (v := (500 : Int32)) hx hb dX8_countLone_5 rfl ?_
      refine lv_icmp_ge (tgt := 41) hx hb dX8_countLone_8 rfl (fun c1 => ?_) (fun c1 => ?_)
      · replace hf := ifp c1 hf
        refine lv_iload_n hx hb dX8_countLone_41 rfl (lv_at hl 1 rfl) ?_
        cases hf
        exact r_iret C h hr hlk rfl dX8_countLone_42
      · replace hf := ifn c1 hf
        refine lv_aload_n hx hb dX8_countLone_11 rfl (lv_at hl 0 rfl) ?_
        refine r_get C h fk_X8_10 0 rfl rfl dX8_countLone_12 ?_
        refine r_get C h fk_X8_244 1 rfl rfl dX8_countLone_15 ?_
        refine lv_iload_n hx hb dX8_countLone_18 rfl (lv_at hl 2 rfl) ?_
        refine lv_aload_n hx hb dX8_countLone_19 rfl (lv_at hl 0 rfl) ?_
        refine r_get C h fk_X8_10 0 rfl rfl dX8_countLone_20 ?_
        refine r_get C h fk_X8_138 1 rfl rfl dX8_countLone_23 ?_
        replace hf := bd1_inv hf
        obtain ⟨r2, hc3, hf⟩ := hf
        refine r_ciV0 C h (c_X2_wrongFor hc3) mv_X8_269 rfl 3 rfl [2, 3, 4, 5, 6, 7] rfl rfl hl.1 rfl (Nat.le_of_ble_eq_true rfl) (rok (by decide)) dX8_countLone_26 (fun H locs h => ?_)
        refine lv_if_ne (tgt := 35) hx hb dX8_countLone_29 rfl (fun c4 => ?_) (fun c4 => ?_)
        · replace hf := ifn c4 hf
          obtain ⟨t5, et5⟩ : ∃ y : Int32, y = v2 + (1 : Int32) := ⟨_, rfl⟩
          replace hf := lt1_inv et5 hf
          refine lv_iinc (v := t5) (lv' := [(2, .int t5), (0, .ref h_this), (1, .int v1)]) hx hb dX8_countLone_35 hl (k := 2) rfl (by rw [et5]; rfl) (by decide) rfl (fun ls hl => ?_)
          refine lv_goto (tgt := 4) hx hb dX8_countLone_38 rfl ?_
          exact hK2 _ _ _ _ (ih v1 t5 hf) _ _ _ h (lv_sub hl [1, 2, 0] rfl)
        · replace hf := ifp c4 hf
          obtain ⟨t6, et6⟩ : ∃ y : Int32, y = v1 + (1 : Int32) := ⟨_, rfl⟩
          replace hf := lt1_inv et6 hf
          refine lv_iinc (v := t6) (lv' := [(1, .int t6), (0, .ref h_this), (2, .int v2)]) hx hb dX8_countLone_32 hl (k := 1) rfl (by rw [et6]; rfl) (by decide) rfl (fun ls hl => ?_)
          obtain ⟨t7, et7⟩ : ∃ y : Int32, y = v2 + (1 : Int32) := ⟨_, rfl⟩
          replace hf := lt1_inv et7 hf
          refine lv_iinc (v := t7) (lv' := [(2, .int t7), (1, .int t6), (0, .ref h_this)]) hx hb dX8_countLone_35 hl (k := 2) rfl (by rw [et7]; rfl) (by decide) rfl (fun ls hl => ?_)
          refine lv_goto (tgt := 4) hx hb dX8_countLone_38 rfl ?_
          exact hK2 _ _ _ _ (ih t6 t7 hf) _ _ _ h (lv_sub hl [2, 1, 0] rfl)
  refine lv_iconst (v := (0 : Int32)) hx hb dX8_countLone_0 rfl ?_
  refine lv_istore_n (lv' := [(1, .int (0 : Int32)), (0, .ref h_this)]) hx hb dX8_countLone_1 rfl hl (by decide) rfl (fun ls hl => ?_)
  refine lv_iconst (v := (0 : Int32)) hx hb dX8_countLone_2 rfl ?_
  refine lv_istore_n (lv' := [(2, .int (0 : Int32)), (1, .int (0 : Int32)), (0, .ref h_this)]) hx hb dX8_countLone_3 rfl hl (by decide) rfl (fun ls hl => ?_)
  exact hK2 _ _ _ _ (L4 1000 (0 : Int32) (0 : Int32) hf) _ _ _ h (lv_sub hl [2, 1, 0] rfl)
