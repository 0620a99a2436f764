set_option maxRecDepth 100000 in
set_option maxHeartbeats 4000000 in
theorem c_X8_light {l : Launch} {G : Gt} {h_this h_this_rock h_this_kept h_this_trial h_this_planner h_this_reader h_this_draft h_this_host h_this_thing h_this_tape h_this_rows h_this_rock_kinds h_this_rock_trims h_this_rock_lanes h_this_rock_lights h_this_rock_currents h_this_rock_buoys h_this_rock_now h_this_rock_rules h_this_rock_reports : Nat} {p0 : Int32} {p1 : Int32} {x_this_tapeCount : Int32} {x_this_rowCount : Int32} {x_this_isKept : Int32} {x_this_rock_count : Int32} {x_this_rock_end : Int32} {x_this_rock_z : Int32} {f_this_rock_lights : Nat → Int32} {r : Int32} {m_this_rock_lights : Nat → Int32} (hf : f_X8_light p0 p1 f_this_rock_lights = some (r, m_this_rock_lights)) : mFi l G yX8_light cX8_light 3 .int 1 [.ref h_this, .int p0, .int p1] [(h_this, ob 8 [.ref h_this_rock, .ref h_this_kept, .ref h_this_trial, .ref h_this_planner, .ref h_this_reader, .ref h_this_draft, .ref h_this_host, .ref h_this_thing, .ref h_this_tape, .ref h_this_rows, .int x_this_tapeCount, .int x_this_rowCount, .int x_this_isKept]), (h_this_rock, ob 3 [.ref h_this_rock_kinds, .ref h_this_rock_trims, .ref h_this_rock_lanes, .ref h_this_rock_lights, .ref h_this_rock_currents, .ref h_this_rock_buoys, .ref h_this_rock_now, .ref h_this_rock_rules, .ref h_this_rock_reports, .int x_this_rock_count, .int x_this_rock_end, .int x_this_rock_z]), (h_this_rock_lights, ia G 16 f_this_rock_lights)] r [(h_this, ob 8 [.ref h_this_rock, .ref h_this_kept, .ref h_this_trial, .ref h_this_planner, .ref h_this_reader, .ref h_this_draft, .ref h_this_host, .ref h_this_thing, .ref h_this_tape, .ref h_this_rows, .int x_this_tapeCount, .int x_this_rowCount, .int x_this_isKept]), (h_this_rock, ob 3 [.ref h_this_rock_kinds, .ref h_this_rock_trims, .ref h_this_rock_lanes, .ref h_this_rock_lights, .ref h_this_rock_currents, .ref h_this_rock_buoys, .ref h_this_rock_now, .ref h_this_rock_rules, .ref h_this_rock_reports, .int x_this_rock_count, .int x_this_rock_end, .int x_this_rock_z]), (h_this_rock_lights, ia G 16 m_this_rock_lights)] := by
  refine mFi.of (by decide +kernel) (Nat.le_of_ble_eq_true rfl) ?_
  intro p e s m below meth c A C hr hlk h ls hl
  obtain ⟨hx, hb, hml, hown, hts⟩ := id C
  replace hl : lv_has ls 3 [(0, .ref h_this), (1, .int p0), (2, .int p1)] := hl
  unfold f_X8_light at hf
  refine lv_iload_n hx hb dX8_light_0 rfl (lv_at hl 1 rfl) ?_
  refine lv_iconst (v := (0 : Int32)) hx hb dX8_light_1 rfl ?_
  refine lv_bipush (v := (15 : Int32)) hx hb dX8_light_2 rfl ?_
  replace hf := bd1_inv hf
  obtain ⟨r1, hc2, hf⟩ := hf
  refine r_ciS0 C h (c_X8_within hc2) ms_X8_79 rfl [] rfl rfl hl.1 rfl (Nat.le_of_ble_eq_true rfl) (rok (by decide)) dX8_light_4 (fun H locs h => ?_)
  refine lv_if_eq (tgt := 20) hx hb dX8_light_7 rfl (fun c3 => ?_) (fun c3 => ?_)
  · replace hf := ifp c3 hf
    refine lv_iconst (v := (-1 : Int32)) hx hb dX8_light_20 rfl ?_
    cases hf
    exact r_iret C h hr hlk rfl dX8_light_21
  · replace hf := ifn c3 hf
    refine lv_iload_n hx hb dX8_light_10 rfl (lv_at hl 2 rfl) ?_
    refine lv_iconst (v := (0 : Int32)) hx hb dX8_light_11 rfl ?_
    refine lv_bipush (v := (15 : Int32)) hx hb dX8_light_12 rfl ?_
    replace hf := bd1_inv hf
    obtain ⟨r4, hc5, hf⟩ := hf
    refine r_ciS0 C h (c_X8_within hc5) ms_X8_79 rfl [] rfl rfl hl.1 rfl (Nat.le_of_ble_eq_true rfl) (rok (by decide)) dX8_light_14 (fun H locs h => ?_)
    refine lv_if_ne (tgt := 22) hx hb dX8_light_17 rfl (fun c6 => ?_) (fun c6 => ?_)
    · replace hf := ifn c6 hf
      refine lv_aload_n hx hb dX8_light_22 rfl (lv_at hl 0 rfl) ?_
      refine r_get C h fk_X8_10 0 rfl rfl dX8_light_23 ?_
      refine r_get C h fk_X8_138 1 rfl rfl dX8_light_26 ?_
      refine lv_iload_n hx hb dX8_light_29 rfl (lv_at hl 1 rfl) ?_
      refine lv_iload_n hx hb dX8_light_30 rfl (lv_at hl 2 rfl) ?_
      replace hf := bd2_inv hf
      obtain ⟨r7, g8, hc9, hf⟩ := hf
      refine r_ciS (ws' := [(h_this, ob 8 [.ref h_this_rock, .ref h_this_kept, .ref h_this_trial, .ref h_this_planner, .ref h_this_reader, .ref h_this_draft, .ref h_this_host, .ref h_this_thing, .ref h_this_tape, .ref h_this_rows, .int x_this_tapeCount, .int x_this_rowCount, .int x_this_isKept]), (h_this_rock, ob 3 [.ref h_this_rock_kinds, .ref h_this_rock_trims, .ref h_this_rock_lanes, .ref h_this_rock_lights, .ref h_this_rock_currents, .ref h_this_rock_buoys, .ref h_this_rock_now, .ref h_this_rock_rules, .ref h_this_rock_reports, .int x_this_rock_count, .int x_this_rock_end, .int x_this_rock_z]), (h_this_rock_lights, ia G 16 g8)]) C h (c_X8_put hc9) ms_X8_130 rfl [2] rfl rfl [2] [(h_this_rock_lights, ia G 16 g8)] rfl rfl (by decide +kernel) rfl hl.1 rfl (Nat.le_of_ble_eq_true rfl) (rok (by decide)) dX8_light_31 (fun H locs h => ?_)
      cases hf
      exact r_iret C h hr hlk rfl dX8_light_34
    · replace hf := ifp c6 hf
      refine lv_iconst (v := (-1 : Int32)) hx hb dX8_light_20 rfl ?_
      cases hf
      exact r_iret C h hr hlk rfl dX8_light_21
set_option maxRecDepth 100000 in
set_option maxHeartbeats 4000000 in
theorem c_X8_lane {l : Launch} {G : Gt} {h_this h_this_rock h_this_kept h_this_trial h_this_planner h_this_reader h_this_draft h_this_host h_this_thing h_this_tape h_this_rows h_this_rock_kinds h_this_rock_trims h_this_rock_lanes h_this_rock_lights h_this_rock_currents h_this_rock_buoys h_this_rock_now h_this_rock_rules h_this_rock_reports : Nat} {p0 : Int32} {p1 : Int32} {p2 : Int32} {x_this_tapeCount : Int32} {x_this_rowCount : Int32} {x_this_isKept : Int32} {x_this_rock_count : Int32} {x_this_rock_end : Int32} {x_this_rock_z : Int32} {f_this_rock_buoys : Nat → Int32} {f_this_rock_currents : Nat → Int32} {r : Int32} {m_this_rock_buoys : Nat → Int32} {m_this_rock_currents : Nat → Int32} (hf : f_X8_lane p0 p1 p2 f_this_rock_buoys f_this_rock_currents = some (r, m_this_rock_buoys, m_this_rock_currents)) : mFi l G yX8_lane cX8_lane 4 .int 1 [.ref h_this, .int p0, .int p1, .int p2] [(h_this, ob 8 [.ref h_this_rock, .ref h_this_kept, .ref h_this_trial, .ref h_this_planner, .ref h_this_reader, .ref h_this_draft, .ref h_this_host, .ref h_this_thing, .ref h_this_tape, .ref h_this_rows, .int x_this_tapeCount, .int x_this_rowCount, .int x_this_isKept]), (h_this_rock, ob 3 [.ref h_this_rock_kinds, .ref h_this_rock_trims, .ref h_this_rock_lanes, .ref h_this_rock_lights, .ref h_this_rock_currents, .ref h_this_rock_buoys, .ref h_this_rock_now, .ref h_this_rock_rules, .ref h_this_rock_reports, .int x_this_rock_count, .int x_this_rock_end, .int x_this_rock_z]), (h_this_rock_buoys, ia G 6 f_this_rock_buoys), (h_this_rock_currents, ia G 6 f_this_rock_currents)] r [(h_this, ob 8 [.ref h_this_rock, .ref h_this_kept, .ref h_this_trial, .ref h_this_planner, .ref h_this_reader, .ref h_this_draft, .ref h_this_host, .ref h_this_thing, .ref h_this_tape, .ref h_this_rows, .int x_this_tapeCount, .int x_this_rowCount, .int x_this_isKept]), (h_this_rock, ob 3 [.ref h_this_rock_kinds, .ref h_this_rock_trims, .ref h_this_rock_lanes, .ref h_this_rock_lights, .ref h_this_rock_currents, .ref h_this_rock_buoys, .ref h_this_rock_now, .ref h_this_rock_rules, .ref h_this_rock_reports, .int x_this_rock_count, .int x_this_rock_end, .int x_this_rock_z]), (h_this_rock_buoys, ia G 6 m_this_rock_buoys), (h_this_rock_currents, ia G 6 m_this_rock_currents)] := by
  refine mFi.of (by decide +kernel) (Nat.le_of_ble_eq_true rfl) ?_
  intro p e s m below meth c A C hr hlk h ls hl
  obtain ⟨hx, hb, hml, hown, hts⟩ := id C
  replace hl : lv_has ls 4 [(0, .ref h_this), (1, .int p0), (2, .int p1), (3, .int p2)] := hl
  unfold f_X8_lane at hf
  refine lv_iload_n hx hb dX8_lane_0 rfl (lv_at hl 1 rfl) ?_
  refine lv_iconst (v := (0 : Int32)) hx hb dX8_lane_1 rfl ?_
  refine lv_iconst (v := (5 : Int32)) hx hb dX8_lane_2 rfl ?_
  replace hf := bd1_inv hf
  obtain ⟨r1, hc2, hf⟩ := hf
  refine r_ciS0 C h (c_X8_within hc2) ms_X8_79 rfl [] rfl rfl hl.1 rfl (Nat.le_of_ble_eq_true rfl) (rok (by decide)) dX8_lane_3 (fun H locs h => ?_)
  refine lv_if_eq (tgt := 28) hx hb dX8_lane_6 rfl (fun c3 => ?_) (fun c3 => ?_)
  · replace hf := ifp c3 hf
    refine lv_iconst (v := (-1 : Int32)) hx hb dX8_lane_28 rfl ?_
    cases hf
    exact r_iret C h hr hlk rfl dX8_lane_29
  · replace hf := ifn c3 hf
    refine lv_iload_n hx hb dX8_lane_9 rfl (lv_at hl 2 rfl) ?_
    refine lv_iconst (v := (0 : Int32)) hx hb dX8_lane_10 rfl ?_
    refine lv_iconst (v := (1 : Int32)) hx hb dX8_lane_11 rfl ?_
    replace hf := bd1_inv hf
    obtain ⟨r4, hc5, hf⟩ := hf
    refine r_ciS0 C h (c_X8_within hc5) ms_X8_79 rfl [] rfl rfl hl.1 rfl (Nat.le_of_ble_eq_true rfl) (rok (by decide)) dX8_lane_12 (fun H locs h => ?_)
    refine lv_if_eq (tgt := 28) hx hb dX8_lane_15 rfl (fun c6 => ?_) (fun c6 => ?_)
    · replace hf := ifp c6 hf
      refine lv_iconst (v := (-1 : Int32)) hx hb dX8_lane_28 rfl ?_
      cases hf
      exact r_iret C h hr hlk rfl dX8_lane_29
    · replace hf := ifn c6 hf
      refine lv_iload_n hx hb dX8_lane_18 rfl (lv_at hl 3 rfl) ?_
      refine lv_iconst (v := (0 : Int32)) hx hb dX8_lane_19 rfl ?_
      refine lv_bipush (v := (9 : Int32)) hx hb dX8_lane_20 rfl ?_
      replace hf := bd1_inv hf
      obtain ⟨r7, hc8, hf⟩ := hf
      refine r_ciS0 C h (c_X8_within hc8) ms_X8_79 rfl [] rfl rfl hl.1 rfl (Nat.le_of_ble_eq_true rfl) (rok (by decide)) dX8_lane_22 (fun H locs h => ?_)
      refine lv_if_ne (tgt := 30) hx hb dX8_lane_25 rfl (fun c9 => ?_) (fun c9 => ?_)
      · replace hf := ifn c9 hf
        refine lv_iload_n hx hb dX8_lane_30 rfl (lv_at hl 2 rfl) ?_
        refine lv_if_ne (tgt := 44) hx hb dX8_lane_31 rfl (fun c10 => ?_) (fun c10 => ?_)
        · replace hf := ifn c10 hf
          refine lv_aload_n hx hb dX8_lane_44 rfl (lv_at hl 0 rfl) ?_
          refine r_get C h fk_X8_10 0 rfl rfl dX8_lane_45 ?_
          refine r_get C h fk_X8_144 1 rfl rfl dX8_lane_48 ?_
          refine lv_iload_n hx hb dX8_lane_51 rfl (lv_at hl 1 rfl) ?_
          refine lv_iload_n hx hb dX8_lane_52 rfl (lv_at hl 3 rfl) ?_
          replace hf := bd2_inv hf
          obtain ⟨r11, g12, hc13, hf⟩ := hf
          refine r_ciS (ws' := [(h_this, ob 8 [.ref h_this_rock, .ref h_this_kept, .ref h_this_trial, .ref h_this_planner, .ref h_this_reader, .ref h_this_draft, .ref h_this_host, .ref h_this_thing, .ref h_this_tape, .ref h_this_rows, .int x_this_tapeCount, .int x_this_rowCount, .int x_this_isKept]), (h_this_rock, ob 3 [.ref h_this_rock_kinds, .ref h_this_rock_trims, .ref h_this_rock_lanes, .ref h_this_rock_lights, .ref h_this_rock_currents, .ref h_this_rock_buoys, .ref h_this_rock_now, .ref h_this_rock_rules, .ref h_this_rock_reports, .int x_this_rock_count, .int x_this_rock_end, .int x_this_rock_z]), (h_this_rock_buoys, ia G 6 g12), (h_this_rock_currents, ia G 6 f_this_rock_currents)]) C h (c_X8_put hc13) ms_X8_130 rfl [2] rfl rfl [2] [(h_this_rock_buoys, ia G 6 g12)] rfl rfl (by decide +kernel) rfl hl.1 rfl (Nat.le_of_ble_eq_true rfl) (rok (by decide)) dX8_lane_53 (fun H locs h => ?_)
          cases hf
          exact r_iret C h hr hlk rfl dX8_lane_56
        · replace hf := ifp c10 hf
          refine lv_aload_n hx hb dX8_lane_34 rfl (lv_at hl 0 rfl) ?_
          refine r_get C h fk_X8_10 0 rfl rfl dX8_lane_35 ?_
          refine r_get C h fk_X8_141 1 rfl rfl dX8_lane_38 ?_
          refine lv_goto (tgt := 51) hx hb dX8_lane_41 rfl ?_
          refine lv_iload_n hx hb dX8_lane_51 rfl (lv_at hl 1 rfl) ?_
          refine lv_iload_n hx hb dX8_lane_52 rfl (lv_at hl 3 rfl) ?_
          replace hf := bd2_inv hf
          obtain ⟨r14, g15, hc16, hf⟩ := hf
          refine r_ciS (ws' := [(h_this, ob 8 [.ref h_this_rock, .ref h_this_kept, .ref h_this_trial, .ref h_this_planner, .ref h_this_reader, .ref h_this_draft, .ref h_this_host, .ref h_this_thing, .ref h_this_tape, .ref h_this_rows, .int x_this_tapeCount, .int x_this_rowCount, .int x_this_isKept]), (h_this_rock, ob 3 [.ref h_this_rock_kinds, .ref h_this_rock_trims, .ref h_this_rock_lanes, .ref h_this_rock_lights, .ref h_this_rock_currents, .ref h_this_rock_buoys, .ref h_this_rock_now, .ref h_this_rock_rules, .ref h_this_rock_reports, .int x_this_rock_count, .int x_this_rock_end, .int x_this_rock_z]), (h_this_rock_buoys, ia G 6 f_this_rock_buoys), (h_this_rock_currents, ia G 6 g15)]) C h (c_X8_put hc16) ms_X8_130 rfl [3] rfl rfl [3] [(h_this_rock_currents, ia G 6 g15)] rfl rfl (by decide +kernel) rfl hl.1 rfl (Nat.le_of_ble_eq_true rfl) (rok (by decide)) dX8_lane_53 (fun H locs h => ?_)
          cases hf
          exact r_iret C h hr hlk rfl dX8_lane_56
      · replace hf := ifp c9 hf
        refine lv_iconst (v := (-1 : Int32)) hx hb dX8_lane_28 rfl ?_
        cases hf
        exact r_iret C h hr hlk rfl dX8_lane_29
set_option maxRecDepth 100000 in
set_option maxHeartbeats 4000000 in
theorem c_X8_laneOf {l : Launch} {G : Gt} {h_this h_this_rock h_this_kept h_this_trial h_this_planner h_this_reader h_this_draft h_this_host h_this_thing h_this_tape h_this_rows h_this_rock_kinds h_this_rock_trims h_this_rock_lanes h_this_rock_lights h_this_rock_currents h_this_rock_buoys h_this_rock_now h_this_rock_rules h_this_rock_reports : Nat} {p0 : Int32} {p1 : Int32} {x_this_tapeCount : Int32} {x_this_rowCount : Int32} {x_this_isKept : Int32} {x_this_rock_count : Int32} {x_this_rock_end : Int32} {x_this_rock_z : Int32} {f_this_rock_buoys : Nat → Int32} {f_this_rock_currents : Nat → Int32} {r : Int32} (hf : f_X8_laneOf p0 p1 f_this_rock_buoys f_this_rock_currents = some r) : mFi l G yX8_laneOf cX8_laneOf 3 .int 1 [.ref h_this, .int p0, .int p1] [(h_this, ob 8 [.ref h_this_rock, .ref h_this_kept, .ref h_this_trial, .ref h_this_planner, .ref h_this_reader, .ref h_this_draft, .ref h_this_host, .ref h_this_thing, .ref h_this_tape, .ref h_this_rows, .int x_this_tapeCount, .int x_this_rowCount, .int x_this_isKept]), (h_this_rock, ob 3 [.ref h_this_rock_kinds, .ref h_this_rock_trims, .ref h_this_rock_lanes, .ref h_this_rock_lights, .ref h_this_rock_currents, .ref h_this_rock_buoys, .ref h_this_rock_now, .ref h_this_rock_rules, .ref h_this_rock_reports, .int x_this_rock_count, .int x_this_rock_end, .int x_this_rock_z]), (h_this_rock_buoys, ia G 6 f_this_rock_buoys), (h_this_rock_currents, ia G 6 f_this_rock_currents)] r [(h_this, ob 8 [.ref h_this_rock, .ref h_this_kept, .ref h_this_trial, .ref h_this_planner, .ref h_this_reader, .ref h_this_draft, .ref h_this_host, .ref h_this_thing, .ref h_this_tape, .ref h_this_rows, .int x_this_tapeCount, .int x_this_rowCount, .int x_this_isKept]), (h_this_rock, ob 3 [.ref h_this_rock_kinds, .ref h_this_rock_trims, .ref h_this_rock_lanes, .ref h_this_rock_lights, .ref h_this_rock_currents, .ref h_this_rock_buoys, .ref h_this_rock_now, .ref h_this_rock_rules, .ref h_this_rock_reports, .int x_this_rock_count, .int x_this_rock_end, .int x_this_rock_z]), (h_this_rock_buoys, ia G 6 f_this_rock_buoys), (h_this_rock_currents, ia G 6 f_this_rock_currents)] := by
  refine mFi.of (by decide +kernel) (Nat.le_of_ble_eq_true rfl) ?_
  intro p e s m below meth c A C hr hlk h ls hl
  obtain ⟨hx, hb, hml, hown, hts⟩ := id C
  replace hl : lv_has ls 3 [(0, .ref h_this), (1, .int p0), (2, .int p1)] := hl
  unfold f_X8_laneOf at hf
  refine lv_iload_n hx hb dX8_laneOf_0 rfl (lv_at hl 1 rfl) ?_
  refine lv_iconst (v := (0 : Int32)) hx hb dX8_laneOf_1 rfl ?_
  refine lv_iconst (v := (5 : Int32)) hx hb dX8_laneOf_2 rfl ?_
  replace hf := bd1_inv hf
  obtain ⟨r1, hc2, hf⟩ := hf
  refine r_ciS0 C h (c_X8_within hc2) ms_X8_79 rfl [] rfl rfl hl.1 rfl (Nat.le_of_ble_eq_true rfl) (rok (by decide)) dX8_laneOf_3 (fun H locs h => ?_)
  refine lv_if_eq (tgt := 18) hx hb dX8_laneOf_6 rfl (fun c3 => ?_) (fun c3 => ?_)
  · replace hf := ifp c3 hf
    refine lv_iconst (v := (-1 : Int32)) hx hb dX8_laneOf_18 rfl ?_
    cases hf
    exact r_iret C h hr hlk rfl dX8_laneOf_19
  · replace hf := ifn c3 hf
    refine lv_iload_n hx hb dX8_laneOf_9 rfl (lv_at hl 2 rfl) ?_
    refine lv_iconst (v := (0 : Int32)) hx hb dX8_laneOf_10 rfl ?_
    refine lv_iconst (v := (1 : Int32)) hx hb dX8_laneOf_11 rfl ?_
    replace hf := bd1_inv hf
    obtain ⟨r4, hc5, hf⟩ := hf
    refine r_ciS0 C h (c_X8_within hc5) ms_X8_79 rfl [] rfl rfl hl.1 rfl (Nat.le_of_ble_eq_true rfl) (rok (by decide)) dX8_laneOf_12 (fun H locs h => ?_)
    refine lv_if_ne (tgt := 20) hx hb dX8_laneOf_15 rfl (fun c6 => ?_) (fun c6 => ?_)
    · replace hf := ifn c6 hf
      refine lv_iload_n hx hb dX8_laneOf_20 rfl (lv_at hl 2 rfl) ?_
      refine lv_if_ne (tgt := 36) hx hb dX8_laneOf_21 rfl (fun c7 => ?_) (fun c7 => ?_)
      · replace hf := ifn c7 hf
        refine lv_aload_n hx hb dX8_laneOf_36 rfl (lv_at hl 0 rfl) ?_
        refine r_get C h fk_X8_10 0 rfl rfl dX8_laneOf_37 ?_
        refine r_get C h fk_X8_144 1 rfl rfl dX8_laneOf_40 ?_
        refine lv_iload_n hx hb dX8_laneOf_43 rfl (lv_at hl 1 rfl) ?_
        replace hf := chkI_inv hf
        obtain ⟨hi8, hf⟩ := hf
        refine r_iald C h 2 rfl hi8 dX8_laneOf_44 ?_
        cases hf
        exact r_iret C h hr hlk rfl dX8_laneOf_45
      · replace hf := ifp c7 hf
        refine lv_aload_n hx hb dX8_laneOf_24 rfl (lv_at hl 0 rfl) ?_
        refine r_get C h fk_X8_10 0 rfl rfl dX8_laneOf_25 ?_
        refine r_get C h fk_X8_141 1 rfl rfl dX8_laneOf_28 ?_
        refine lv_iload_n hx hb dX8_laneOf_31 rfl (lv_at hl 1 rfl) ?_
        replace hf := chkI_inv hf
        obtain ⟨hi9, hf⟩ := hf
        refine r_iald C h 3 rfl hi9 dX8_laneOf_32 ?_
        refine lv_goto (tgt := 45) hx hb dX8_laneOf_33 rfl ?_
        cases hf
        exact r_iret C h hr hlk rfl dX8_laneOf_45
    · replace hf := ifp c6 hf
      refine lv_iconst (v := (-1 : Int32)) hx hb dX8_laneOf_18 rfl ?_
      cases hf
      exact r_iret C h hr hlk rfl dX8_laneOf_19
set_option maxRecDepth 100000 in
set_option maxHeartbeats 4000000 in
theorem c_X8_ends {l : Launch} {G : Gt} {h_this h_this_rock h_this_kept h_this_trial h_this_planner h_this_reader h_this_draft h_this_host h_this_thing h_this_tape h_this_rows h_this_rock_kinds h_this_rock_trims h_this_rock_lanes h_this_rock_lights h_this_rock_currents h_this_rock_buoys h_this_rock_now h_this_rock_rules h_this_rock_reports h_this_rock_now_off : Nat} {p0 : Int32} {x_this_tapeCount : Int32} {x_this_rowCount : Int32} {x_this_isKept : Int32} {x_this_rock_count : Int32} {x_this_rock_end : Int32} {x_this_rock_z : Int32} {x_this_rock_now_watch : Int32} {x_this_rock_now_score : Int32} {x_this_rock_now_home : Int32} {r : Int32} {m_this_rock_end : Int32} (hf : f_X8_ends p0 x_this_rock_end x_this_rock_now_watch = some (r, m_this_rock_end)) : mFi l G yX8_ends cX8_ends 3 .int 1 [.ref h_this, .int p0] [(h_this, ob 8 [.ref h_this_rock, .ref h_this_kept, .ref h_this_trial, .ref h_this_planner, .ref h_this_reader, .ref h_this_draft, .ref h_this_host, .ref h_this_thing, .ref h_this_tape, .ref h_this_rows, .int x_this_tapeCount, .int x_this_rowCount, .int x_this_isKept]), (h_this_rock, ob 3 [.ref h_this_rock_kinds, .ref h_this_rock_trims, .ref h_this_rock_lanes, .ref h_this_rock_lights, .ref h_this_rock_currents, .ref h_this_rock_buoys, .ref h_this_rock_now, .ref h_this_rock_rules, .ref h_this_rock_reports, .int x_this_rock_count, .int x_this_rock_end, .int x_this_rock_z]), (h_this_rock_now, ob 6 [.ref h_this_rock_now_off, .int x_this_rock_now_watch, .int x_this_rock_now_score, .int x_this_rock_now_home])] r [(h_this, ob 8 [.ref h_this_rock, .ref h_this_kept, .ref h_this_trial, .ref h_this_planner, .ref h_this_reader, .ref h_this_draft, .ref h_this_host, .ref h_this_thing, .ref h_this_tape, .ref h_this_rows, .int x_this_tapeCount, .int x_this_rowCount, .int x_this_isKept]), (h_this_rock, ob 3 [.ref h_this_rock_kinds, .ref h_this_rock_trims, .ref h_this_rock_lanes, .ref h_this_rock_lights, .ref h_this_rock_currents, .ref h_this_rock_buoys, .ref h_this_rock_now, .ref h_this_rock_rules, .ref h_this_rock_reports, .int x_this_rock_count, .int m_this_rock_end, .int x_this_rock_z]), (h_this_rock_now, ob 6 [.ref h_this_rock_now_off, .int x_this_rock_now_watch, .int x_this_rock_now_score, .int x_this_rock_now_home])] := by
  refine mFi.of (by decide +kernel) (Nat.le_of_ble_eq_true rfl) ?_
  intro p e s m below meth c A C hr hlk h ls hl
  obtain ⟨hx, hb, hml, hown, hts⟩ := id C
  replace hl : lv_has ls 3 [(0, .ref h_this), (1, .int p0)] := hl
  unfold f_X8_ends at hf
  refine lv_iload_n hx hb dX8_ends_0 rfl (lv_at hl 1 rfl) ?_
  refine lv_iconst (v := (1 : Int32)) hx hb dX8_ends_1 rfl ?_
  refine lv_bipush (v := (16 : Int32)) hx hb dX8_ends_2 rfl ?_
  replace hf := bd1_inv hf
  obtain ⟨r1, hc2, hf⟩ := hf
  refine r_ciS0 C h (c_X8_within hc2) ms_X8_79 rfl [] rfl rfl hl.1 rfl (Nat.le_of_ble_eq_true rfl) (rok (by decide)) dX8_ends_4 (fun H locs h => ?_)
  refine lv_if_ne (tgt := 12) hx hb dX8_ends_7 rfl (fun c3 => ?_) (fun c3 => ?_)
  · replace hf := ifn c3 hf
    refine lv_iload_n hx hb dX8_ends_12 rfl (lv_at hl 1 rfl) ?_
    refine lv_aload_n hx hb dX8_ends_13 rfl (lv_at hl 0 rfl) ?_
    refine r_get C h fk_X8_10 0 rfl rfl dX8_ends_14 ?_
    refine r_get C h fk_X8_94 1 rfl rfl dX8_ends_17 ?_
    refine r_get C h fk_X8_147 2 rfl rfl dX8_ends_20 ?_
    refine lv_icmp_ge (tgt := 29) hx hb dX8_ends_23 rfl (fun c4 => ?_) (fun c4 => ?_)
    · replace hf := ifp c4 hf
      refine lv_aload_n hx hb dX8_ends_29 rfl (lv_at hl 0 rfl) ?_
      refine r_get C h fk_X8_10 0 rfl rfl dX8_ends_30 ?_
      refine r_get C h fk_X8_150 1 rfl rfl dX8_ends_33 ?_
      refine lv_istore_n (lv' := [(2, .int x_this_rock_end), (0, .ref h_this), (1, .int p0)]) hx hb dX8_ends_36 rfl hl (by decide) rfl (fun ls hl => ?_)
      refine lv_aload_n hx hb dX8_ends_37 rfl (lv_at hl 1 rfl) ?_
      refine r_get C h fk_X8_10 0 rfl rfl dX8_ends_38 ?_
      refine lv_iload_n hx hb dX8_ends_41 rfl (lv_at hl 2 rfl) ?_
      refine r_put (ws' := [(h_this, ob 8 [.ref h_this_rock, .ref h_this_kept, .ref h_this_trial, .ref h_this_planner, .ref h_this_reader, .ref h_this_draft, .ref h_this_host, .ref h_this_thing, .ref h_this_tape, .ref h_this_rows, .int x_this_tapeCount, .int x_this_rowCount, .int x_this_isKept]), (h_this_rock, ob 3 [.ref h_this_rock_kinds, .ref h_this_rock_trims, .ref h_this_rock_lanes, .ref h_this_rock_lights, .ref h_this_rock_currents, .ref h_this_rock_buoys, .ref h_this_rock_now, .ref h_this_rock_rules, .ref h_this_rock_reports, .int x_this_rock_count, .int p0, .int x_this_rock_z]), (h_this_rock_now, ob 6 [.ref h_this_rock_now_off, .int x_this_rock_now_watch, .int x_this_rock_now_score, .int x_this_rock_now_home])]) C h fw_X8_150 1 rfl rfl rfl (Nat.le_of_ble_eq_true rfl) dX8_ends_42 rfl (fun H locs h => ?_)
      refine lv_iload_n hx hb dX8_ends_45 rfl (lv_at hl 0 rfl) ?_
      cases hf
      exact r_iret C h hr hlk rfl dX8_ends_46
    · replace hf := ifn c4 hf
      refine lv_bipush (v := (-4 : Int32)) hx hb dX8_ends_26 rfl ?_
      cases hf
      exact r_iret C h hr hlk rfl dX8_ends_28
  · replace hf := ifp c3 hf
    refine lv_iconst (v := (-1 : Int32)) hx hb dX8_ends_10 rfl ?_
    cases hf
    exact r_iret C h hr hlk rfl dX8_ends_11
set_option maxRecDepth 100000 in
set_option maxHeartbeats 4000000 in
theorem c_X8_anew {l : Launch} {G : Gt} {h_this h_this_rock h_this_kept h_this_trial h_this_planner h_this_reader h_this_draft h_this_host h_this_thing h_this_tape h_this_rows h_this_rock_kinds h_this_rock_trims h_this_rock_lanes h_this_rock_lights h_this_rock_currents h_this_rock_buoys h_this_rock_now h_this_rock_rules h_this_rock_reports h_this_rock_now_off : Nat} {x_this_tapeCount : Int32} {x_this_rowCount : Int32} {x_this_isKept : Int32} {x_this_rock_count : Int32} {x_this_rock_end : Int32} {x_this_rock_z : Int32} {x_this_rock_now_watch : Int32} {x_this_rock_now_score : Int32} {x_this_rock_now_home : Int32} {r : Int32} {m_this_rock_now_watch : Int32} {m_this_rock_now_score : Int32} {m_this_rock_now_home : Int32} (hf : f_X8_anew x_this_rock_now_watch = some (r, m_this_rock_now_watch, m_this_rock_now_score, m_this_rock_now_home)) : mFi l G yX8_anew cX8_anew 2 .int 0 [.ref h_this] [(h_this, ob 8 [.ref h_this_rock, .ref h_this_kept, .ref h_this_trial, .ref h_this_planner, .ref h_this_reader, .ref h_this_draft, .ref h_this_host, .ref h_this_thing, .ref h_this_tape, .ref h_this_rows, .int x_this_tapeCount, .int x_this_rowCount, .int x_this_isKept]), (h_this_rock, ob 3 [.ref h_this_rock_kinds, .ref h_this_rock_trims, .ref h_this_rock_lanes, .ref h_this_rock_lights, .ref h_this_rock_currents, .ref h_this_rock_buoys, .ref h_this_rock_now, .ref h_this_rock_rules, .ref h_this_rock_reports, .int x_this_rock_count, .int x_this_rock_end, .int x_this_rock_z]), (h_this_rock_now, ob 6 [.ref h_this_rock_now_off, .int x_this_rock_now_watch, .int x_this_rock_now_score, .int x_this_rock_now_home])] r [(h_this, ob 8 [.ref h_this_rock, .ref h_this_kept, .ref h_this_trial, .ref h_this_planner, .ref h_this_reader, .ref h_this_draft, .ref h_this_host, .ref h_this_thing, .ref h_this_tape, .ref h_this_rows, .int x_this_tapeCount, .int x_this_rowCount, .int x_this_isKept]), (h_this_rock, ob 3 [.ref h_this_rock_kinds, .ref h_this_rock_trims, .ref h_this_rock_lanes, .ref h_this_rock_lights, .ref h_this_rock_currents, .ref h_this_rock_buoys, .ref h_this_rock_now, .ref h_this_rock_rules, .ref h_this_rock_reports, .int x_this_rock_count, .int x_this_rock_end, .int x_this_rock_z]), (h_this_rock_now, ob 6 [.ref h_this_rock_now_off, .int m_this_rock_now_watch, .int m_this_rock_now_score, .int m_this_rock_now_home])] := by
  refine mFi.of (by decide +kernel) (Nat.le_of_ble_eq_true rfl) ?_
  intro p e s m below meth c A C hr hlk h ls hl
  obtain ⟨hx, hb, hml, hown, hts⟩ := id C
  replace hl : lv_has ls 2 [(0, .ref h_this)] := hl
  unfold f_X8_anew at hf
  refine lv_aload_n hx hb dX8_anew_0 rfl (lv_at hl 0 rfl) ?_
  refine r_get C h fk_X8_10 0 rfl rfl dX8_anew_1 ?_
  refine r_get C h fk_X8_94 1 rfl rfl dX8_anew_4 ?_
  refine r_get C h fk_X8_147 2 rfl rfl dX8_anew_7 ?_
  refine lv_istore_n (lv' := [(1, .int x_this_rock_now_watch), (0, .ref h_this)]) hx hb dX8_anew_10 rfl hl (by decide) rfl (fun ls hl => ?_)
  refine lv_aload_n hx hb dX8_anew_11 rfl (lv_at hl 1 rfl) ?_
  refine r_get C h fk_X8_10 0 rfl rfl dX8_anew_12 ?_
  refine r_get C h fk_X8_94 1 rfl rfl dX8_anew_15 ?_
  refine lv_iconst (v := (0 : Int32)) hx hb dX8_anew_18 rfl ?_
  refine r_put (ws' := [(h_this, ob 8 [.ref h_this_rock, .ref h_this_kept, .ref h_this_trial, .ref h_this_planner, .ref h_this_reader, .ref h_this_draft, .ref h_this_host, .ref h_this_thing, .ref h_this_tape, .ref h_this_rows, .int x_this_tapeCount, .int x_this_rowCount, .int x_this_isKept]), (h_this_rock, ob 3 [.ref h_this_rock_kinds, .ref h_this_rock_trims, .ref h_this_rock_lanes, .ref h_this_rock_lights, .ref h_this_rock_currents, .ref h_this_rock_buoys, .ref h_this_rock_now, .ref h_this_rock_rules, .ref h_this_rock_reports, .int x_this_rock_count, .int x_this_rock_end, .int x_this_rock_z]), (h_this_rock_now, ob 6 [.ref h_this_rock_now_off, .int (0 : Int32), .int x_this_rock_now_score, .int x_this_rock_now_home])]) C h fw_X8_147 2 rfl rfl rfl (Nat.le_of_ble_eq_true rfl) dX8_anew_19 rfl (fun H locs h => ?_)
  refine lv_aload_n hx hb dX8_anew_22 rfl (lv_at hl 1 rfl) ?_
  refine r_get C h fk_X8_10 0 rfl rfl dX8_anew_23 ?_
  refine r_get C h fk_X8_94 1 rfl rfl dX8_anew_26 ?_
  refine lv_iconst (v := (0 : Int32)) hx hb dX8_anew_29 rfl ?_
  refine r_put (ws' := [(h_this, ob 8 [.ref h_this_rock, .ref h_this_kept, .ref h_this_trial, .ref h_this_planner, .ref h_this_reader, .ref h_this_draft, .ref h_this_host, .ref h_this_thing, .ref h_this_tape, .ref h_this_rows, .int x_this_tapeCount, .int x_this_rowCount, .int x_this_isKept]), (h_this_rock, ob 3 [.ref h_this_rock_kinds, .ref h_this_rock_trims, .ref h_this_rock_lanes, .ref h_this_rock_lights, .ref h_this_rock_currents, .ref h_this_rock_buoys, .ref h_this_rock_now, .ref h_this_rock_rules, .ref h_this_rock_reports, .int x_this_rock_count, .int x_this_rock_end, .int x_this_rock_z]), (h_this_rock_now, ob 6 [.ref h_this_rock_now_off, .int (0 : Int32), .int (0 : Int32), .int x_this_rock_now_home])]) C h fw_X8_153 2 rfl rfl rfl (Nat.le_of_ble_eq_true rfl) dX8_anew_30 rfl (fun H locs h => ?_)
  refine lv_aload_n hx hb dX8_anew_33 rfl (lv_at hl 1 rfl) ?_
  refine r_get C h fk_X8_10 0 rfl rfl dX8_anew_34 ?_
  refine r_get C h fk_X8_94 1 rfl rfl dX8_anew_37 ?_
  refine lv_iconst (v := (0 : Int32)) hx hb dX8_anew_40 rfl ?_
  refine r_put (ws' := [(h_this, ob 8 [.ref h_this_rock, .ref h_this_kept, .ref h_this_trial, .ref h_this_planner, .ref h_this_reader, .ref h_this_draft, .ref h_this_host, .ref h_this_thing, .ref h_this_tape, .ref h_this_rows, .int x_this_tapeCount, .int x_this_rowCount, .int x_this_isKept]), (h_this_rock, ob 3 [.ref h_this_rock_kinds, .ref h_this_rock_trims, .ref h_this_rock_lanes, .ref h_this_rock_lights, .ref h_this_rock_currents, .ref h_this_rock_buoys, .ref h_this_rock_now, .ref h_this_rock_rules, .ref h_this_rock_reports, .int x_this_rock_count, .int x_this_rock_end, .int x_this_rock_z]), (h_this_rock_now, ob 6 [.ref h_this_rock_now_off, .int (0 : Int32), .int (0 : Int32), .int (0 : Int32)])]) C h fw_X8_156 2 rfl rfl rfl (Nat.le_of_ble_eq_true rfl) dX8_anew_41 rfl (fun H locs h => ?_)
  refine lv_iload_n hx hb dX8_anew_44 rfl (lv_at hl 0 rfl) ?_
  cases hf
  exact r_iret C h hr hlk rfl dX8_anew_45
set_option maxRecDepth 100000 in
set_option maxHeartbeats 4000000 in
theorem c_X3_isOver {l : Launch} {G : Gt} {h_a0 h_a0_off h_this h_this_kinds h_this_trims h_this_lanes h_this_lights h_this_currents h_this_buoys h_this_now h_this_rules h_this_reports : Nat} {x_a0_watch : Int32} {x_a0_score : Int32} {x_a0_home : Int32} {x_this_count : Int32} {x_this_end : Int32} {x_this_z : Int32} {r : Int32} (hf : f_X3_isOver x_a0_watch x_this_end = some r) : mFi l G yX3_isOver cX3_isOver 2 .boolean 0 [.ref h_this, .ref h_a0] [(h_a0, ob 6 [.ref h_a0_off, .int x_a0_watch, .int x_a0_score, .int x_a0_home]), (h_this, ob 3 [.ref h_this_kinds, .ref h_this_trims, .ref h_this_lanes, .ref h_this_lights, .ref h_this_currents, .ref h_this_buoys, .ref h_this_now, .ref h_this_rules, .ref h_this_reports, .int x_this_count, .int x_this_end, .int x_this_z])] r [(h_a0, ob 6 [.ref h_a0_off, .int x_a0_watch, .int x_a0_score, .int x_a0_home]), (h_this, ob 3 [.ref h_this_kinds, .ref h_this_trims, .ref h_this_lanes, .ref h_this_lights, .ref h_this_currents, .ref h_this_buoys, .ref h_this_now, .ref h_this_rules, .ref h_this_reports, .int x_this_count, .int x_this_end, .int x_this_z])] := by
  refine mFi.of (by decide +kernel) (Nat.le_of_ble_eq_true rfl) ?_
  intro p e s m below meth c A C hr hlk h ls hl
  obtain ⟨hx, hb, hml, hown, hts⟩ := id C
  replace hl : lv_has ls 2 [(0, .ref h_this), (1, .ref h_a0)] := hl
  unfold f_X3_isOver at hf
  refine lv_aload_n hx hb dX3_isOver_0 rfl (lv_at hl 1 rfl) ?_
  refine r_get C h fk_X3_83 0 rfl rfl dX3_isOver_1 ?_
  refine lv_aload_n hx hb dX3_isOver_4 rfl (lv_at hl 0 rfl) ?_
  refine r_get C h fk_X3_55 1 rfl rfl dX3_isOver_5 ?_
  refine lv_icmp_lt (tgt := 15) hx hb dX3_isOver_8 rfl (fun c1 => ?_) (fun c1 => ?_)
  · replace hf := ifp c1 hf
    refine lv_iconst (v := (0 : Int32)) hx hb dX3_isOver_15 rfl ?_
    cases hf
    exact r_iret C h hr hlk rfl dX3_isOver_16
  · replace hf := ifn c1 hf
    refine lv_iconst (v := (1 : Int32)) hx hb dX3_isOver_11 rfl ?_
    refine lv_goto (tgt := 16) hx hb dX3_isOver_12 rfl ?_
    cases hf
    exact r_iret C h hr hlk rfl dX3_isOver_16
set_option maxRecDepth 100000 in
set_option maxHeartbeats 4000000 in
theorem c_X6_isOnRock {l : Launch} {G : Gt} {h_this h_this_off : Nat} {p0 : Int32} {x_this_watch : Int32} {x_this_score : Int32} {x_this_home : Int32} {f_this_off : Nat → Int32} {r : Int32} (hf : f_X6_isOnRock p0 x_this_home f_this_off = some r) : mFi l G yX6_isOnRock cX6_isOnRock 2 .boolean 1 [.ref h_this, .int p0] [(h_this, ob 6 [.ref h_this_off, .int x_this_watch, .int x_this_score, .int x_this_home]), (h_this_off, ia G 6 f_this_off)] r [(h_this, ob 6 [.ref h_this_off, .int x_this_watch, .int x_this_score, .int x_this_home]), (h_this_off, ia G 6 f_this_off)] := by
  refine mFi.of (by decide +kernel) (Nat.le_of_ble_eq_true rfl) ?_
  intro p e s m below meth c A C hr hlk h ls hl
  obtain ⟨hx, hb, hml, hown, hts⟩ := id C
  replace hl : lv_has ls 2 [(0, .ref h_this), (1, .int p0)] := hl
  unfold f_X6_isOnRock at hf
  refine lv_aload_n hx hb dX6_isOnRock_0 rfl (lv_at hl 0 rfl) ?_
  refine lv_iload_n hx hb dX6_isOnRock_1 rfl (lv_at hl 1 rfl) ?_
  replace hf := bd1_inv hf
  obtain ⟨r1, hc2, hf⟩ := hf
  refine r_ciV0 C h (c_X6_isHome hc2) mv_X6_31 rfl 0 rfl [0] rfl rfl hl.1 rfl (Nat.le_of_ble_eq_true rfl) (rok (by decide)) dX6_isOnRock_2 (fun H locs h => ?_)
  refine lv_if_ne (tgt := 21) hx hb dX6_isOnRock_5 rfl (fun c3 => ?_) (fun c3 => ?_)
  · replace hf := ifn c3 hf
    refine lv_iconst (v := (0 : Int32)) hx hb dX6_isOnRock_21 rfl ?_
    cases hf
    exact r_iret C h hr hlk rfl dX6_isOnRock_22
  · replace hf := ifp c3 hf
    refine lv_aload_n hx hb dX6_isOnRock_8 rfl (lv_at hl 0 rfl) ?_
    refine r_get C h fk_X6_9 0 rfl rfl dX6_isOnRock_9 ?_
    refine lv_iload_n hx hb dX6_isOnRock_12 rfl (lv_at hl 1 rfl) ?_
    replace hf := chkI_inv hf
    obtain ⟨hi4, hf⟩ := hf
    refine r_iald C h 1 rfl hi4 dX6_isOnRock_13 ?_
    refine lv_if_ne (tgt := 21) hx hb dX6_isOnRock_14 rfl (fun c5 => ?_) (fun c5 => ?_)
    · replace hf := ifn c5 hf
      refine lv_iconst (v := (0 : Int32)) hx hb dX6_isOnRock_21 rfl ?_
      cases hf
      exact r_iret C h hr hlk rfl dX6_isOnRock_22
    · replace hf := ifp c5 hf
      refine lv_iconst (v := (1 : Int32)) hx hb dX6_isOnRock_17 rfl ?_
      refine lv_goto (tgt := 22) hx hb dX6_isOnRock_18 rfl ?_
      cases hf
      exact r_iret C h hr hlk rfl dX6_isOnRock_22
set_option maxRecDepth 100000 in
set_option maxHeartbeats 4000000 in
theorem c_X3_stranded {l : Launch} {G : Gt} {h_a0 h_a0_off h_this h_this_kinds h_this_trims h_this_lanes h_this_lights h_this_currents h_this_buoys h_this_now h_this_rules h_this_reports : Nat} {x_a0_watch : Int32} {x_a0_score : Int32} {x_a0_home : Int32} {f_a0_off : Nat → Int32} {x_this_count : Int32} {x_this_end : Int32} {x_this_z : Int32} {r : Int32} (hf : f_X3_stranded x_a0_home f_a0_off x_this_count = some r) : mFi l G yX3_stranded cX3_stranded 4 .int 2 [.ref h_this, .ref h_a0] [(h_a0, ob 6 [.ref h_a0_off, .int x_a0_watch, .int x_a0_score, .int x_a0_home]), (h_a0_off, ia G 6 f_a0_off), (h_this, ob 3 [.ref h_this_kinds, .ref h_this_trims, .ref h_this_lanes, .ref h_this_lights, .ref h_this_currents, .ref h_this_buoys, .ref h_this_now, .ref h_this_rules, .ref h_this_reports, .int x_this_count, .int x_this_end, .int x_this_z])] r [(h_a0, ob 6 [.ref h_a0_off, .int x_a0_watch, .int x_a0_score, .int x_a0_home]), (h_a0_off, ia G 6 f_a0_off), (h_this, ob 3 [.ref h_this_kinds, .ref h_this_trims, .ref h_this_lanes, .ref h_this_lights, .ref h_this_currents, .ref h_this_buoys, .ref h_this_now, .ref h_this_rules, .ref h_this_reports, .int x_this_count, .int x_this_end, .int x_this_z])] := by
  refine mFi.of (by decide +kernel) (Nat.le_of_ble_eq_true rfl) ?_
  intro p e s m below meth c A C hr hlk h ls hl
  obtain ⟨hx, hb, hml, hown, hts⟩ := id C
  replace hl : lv_has ls 4 [(0, .ref h_this), (1, .ref h_a0)] := hl
  unfold f_X3_stranded at hf
  refine with_K G A 4 (fun K hK1 hK2 => ?_)
  have L4 : ∀ (n : Nat) (v2 : Int32) (v3 : Int32), f_X3_stranded_L4 x_a0_home f_a0_off x_this_count n v2 v3 = some r → K 4 ([] : List Value) [(h_a0, ob 6 [.ref h_a0_off, .int x_a0_watch, .int x_a0_score, .int x_a0_home]), (h_a0_off, ia G 6 f_a0_off), (h_this, ob 3 [.ref h_this_kinds, .ref h_this_trims, .ref h_this_lanes, .ref h_this_lights, .ref h_this_currents, .ref h_this_buoys, .ref h_this_now, .ref h_this_rules, .ref h_this_reports, .int x_this_count, .int x_this_end, .int x_this_z])] [(0, .ref h_this), (1, .ref h_a0), (2, .int v2), (3, .int v3)] := by
    intro n
    induction n with
    | zero =>
      intro v2 v3 hf
      replace hf : (none : Option _) = some _ := hf
      cases hf
    | succ n ih =>
      intro v2 v3 hf
      rw [f_X3_stranded_L4] at hf
      refine hK1 _ _ _ _ (fun H locs ls h hl => ?_)
      refine lv_iload_n hx hb dX3_stranded_4 rfl (lv_at hl 3 rfl) ?_
      refine lv_aload_n hx hb dX3_stranded_5 rfl (lv_at hl 0 rfl) ?_
      refine r_get C h fk_X3_51 2 rfl rfl dX3_stranded_6 ?_
      refine lv_icmp_ge (tgt := 29) hx hb dX3_stranded_9 rfl (fun c1 => ?_) (fun c1 => ?_)
      · replace hf := ifp c1 hf
        refine lv_iload_n hx hb dX3_stranded_29 rfl (lv_at hl 2 rfl) ?_
        cases hf
        exact r_iret C h hr hlk rfl dX3_stranded_30
      · replace hf := ifn c1 hf
        refine lv_aload_n hx hb dX3_stranded_12 rfl (lv_at hl 1 rfl) ?_
        refine lv_iload_n hx hb dX3_stranded_13 rfl (lv_at hl 3 rfl) ?_
        replace hf := bd1_inv hf
        obtain ⟨r2, hc3, hf⟩ := hf
        refine r_ciV0 C h (c_X6_isOnRock hc3) mv_X3_89 rfl 0 rfl [0, 1] rfl rfl hl.1 rfl (Nat.le_of_ble_eq_true rfl) (rok (by decide)) dX3_stranded_14 (fun H locs h => ?_)
        refine lv_if_eq (tgt := 23) hx hb dX3_stranded_17 rfl (fun c4 => ?_) (fun c4 => ?_)
        · replace hf := ifp c4 hf
          obtain ⟨t5, et5⟩ : ∃ y : Int32, y = v3 + (1 : Int32) := ⟨_, rfl⟩
          replace hf := lt1_inv et5 hf
          refine lv_iinc (v := t5) (lv' := [(3, .int t5), (0, .ref h_this), (1, .ref h_a0), (2, .int v2)]) hx hb dX3_stranded_23 hl (k := 3) rfl (by rw [et5]; rfl) (by decide) rfl (fun ls hl => ?_)
          refine lv_goto (tgt := 4) hx hb dX3_stranded_26 rfl ?_
          exact hK2 _ _ _ _ (ih v2 t5 hf) _ _ _ h (lv_sub hl [1, 2, 3, 0] rfl)
        · replace hf := ifn c4 hf
          obtain ⟨t6, et6⟩ : ∃ y : Int32, y = v2 + (1 : Int32) := ⟨_, rfl⟩
          replace hf := lt1_inv et6 hf
          refine lv_iinc (v := t6) (lv' := [(2, .int t6), (0, .ref h_this), (1, .ref h_a0), (3, .int v3)]) hx hb dX3_stranded_20 hl (k := 2) rfl (by rw [et6]; rfl) (by decide) rfl (fun ls hl => ?_)
          obtain ⟨t7, et7⟩ : ∃ y : Int32, y = v3 + (1 : Int32) := ⟨_, rfl⟩
          replace hf := lt1_inv et7 hf
          refine lv_iinc (v := t7) (lv' := [(3, .int t7), (2, .int t6), (0, .ref h_this), (1, .ref h_a0)]) hx hb dX3_stranded_23 hl (k := 3) rfl (by rw [et7]; rfl) (by decide) rfl (fun ls hl => ?_)
          refine lv_goto (tgt := 4) hx hb dX3_stranded_26 rfl ?_
          exact hK2 _ _ _ _ (ih t6 t7 hf) _ _ _ h (lv_sub hl [2, 3, 1, 0] rfl)
  refine lv_iconst (v := (0 : Int32)) hx hb dX3_stranded_0 rfl ?_
  refine lv_istore_n (lv' := [(2, .int (0 : Int32)), (0, .ref h_this), (1, .ref h_a0)]) hx hb dX3_stranded_1 rfl hl (by decide) rfl (fun ls hl => ?_)
  refine lv_iconst (v := (0 : Int32)) hx hb dX3_stranded_2 rfl ?_
  refine lv_istore_n (lv' := [(3, .int (0 : Int32)), (2, .int (0 : Int32)), (0, .ref h_this), (1, .ref h_a0)]) hx hb dX3_stranded_3 rfl hl (by decide) rfl (fun ls hl => ?_)
  exact hK2 _ _ _ _ (L4 1000 (0 : Int32) (0 : Int32) hf) _ _ _ h (lv_sub hl [2, 3, 1, 0] rfl)
set_option maxRecDepth 100000 in
set_option maxHeartbeats 4000000 in
theorem c_X8_state {l : Launch} {G : Gt} {h_this h_this_rock h_this_kept h_this_trial h_this_planner h_this_reader h_this_draft h_this_host h_this_thing h_this_tape h_this_rows h_this_rock_kinds h_this_rock_trims h_this_rock_lanes h_this_rock_lights h_this_rock_currents h_this_rock_buoys h_this_rock_now h_this_rock_rules h_this_rock_reports h_this_rock_now_off : Nat} {p0 : Int32} {x_this_tapeCount : Int32} {x_this_rowCount : Int32} {x_this_isKept : Int32} {x_this_rock_count : Int32} {x_this_rock_end : Int32} {x_this_rock_z : Int32} {f_this_rock_lights : Nat → Int32} {x_this_rock_now_watch : Int32} {x_this_rock_now_score : Int32} {x_this_rock_now_home : Int32} {f_this_rock_now_off : Nat → Int32} {r : Int32} (hf : f_X8_state p0 x_this_rock_count x_this_rock_end f_this_rock_lights x_this_rock_now_watch x_this_rock_now_score x_this_rock_now_home f_this_rock_now_off = some r) : mFi l G yX8_state cX8_state 2 .int 3 [.ref h_this, .int p0] [(h_this, ob 8 [.ref h_this_rock, .ref h_this_kept, .ref h_this_trial, .ref h_this_planner, .ref h_this_reader, .ref h_this_draft, .ref h_this_host, .ref h_this_thing, .ref h_this_tape, .ref h_this_rows, .int x_this_tapeCount, .int x_this_rowCount, .int x_this_isKept]), (h_this_rock, ob 3 [.ref h_this_rock_kinds, .ref h_this_rock_trims, .ref h_this_rock_lanes, .ref h_this_rock_lights, .ref h_this_rock_currents, .ref h_this_rock_buoys, .ref h_this_rock_now, .ref h_this_rock_rules, .ref h_this_rock_reports, .int x_this_rock_count, .int x_this_rock_end, .int x_this_rock_z]), (h_this_rock_lights, ia G 16 f_this_rock_lights), (h_this_rock_now, ob 6 [.ref h_this_rock_now_off, .int x_this_rock_now_watch, .int x_this_rock_now_score, .int x_this_rock_now_home]), (h_this_rock_now_off, ia G 6 f_this_rock_now_off)] r [(h_this, ob 8 [.ref h_this_rock, .ref h_this_kept, .ref h_this_trial, .ref h_this_planner, .ref h_this_reader, .ref h_this_draft, .ref h_this_host, .ref h_this_thing, .ref h_this_tape, .ref h_this_rows, .int x_this_tapeCount, .int x_this_rowCount, .int x_this_isKept]), (h_this_rock, ob 3 [.ref h_this_rock_kinds, .ref h_this_rock_trims, .ref h_this_rock_lanes, .ref h_this_rock_lights, .ref h_this_rock_currents, .ref h_this_rock_buoys, .ref h_this_rock_now, .ref h_this_rock_rules, .ref h_this_rock_reports, .int x_this_rock_count, .int x_this_rock_end, .int x_this_rock_z]), (h_this_rock_lights, ia G 16 f_this_rock_lights), (h_this_rock_now, ob 6 [.ref h_this_rock_now_off, .int x_this_rock_now_watch, .int x_this_rock_now_score, .int x_this_rock_now_home]), (h_this_rock_now_off, ia G 6 f_this_rock_now_off)] := by
  refine mFi.of (by decide +kernel) (Nat.le_of_ble_eq_true rfl) ?_
  intro p e s m below meth c A C hr hlk h ls hl
  obtain ⟨hx, hb, hml, hown, hts⟩ := id C
  replace hl : lv_has ls 2 [(0, .ref h_this), (1, .int p0)] := hl
  unfold f_X8_state at hf
  refine lv_iload_n hx hb dX8_state_0 rfl (lv_at hl 1 rfl) ?_
  by_cases c1 : p0 = (0 : Int32)
  · replace hf := ifp c1 hf
    refine r_tab (tgt := 44) C dX8_state_1 (0 : Int32) c1 (by decide) rfl rfl ?_
    refine lv_aload_n hx hb dX8_state_44 rfl (lv_at hl 0 rfl) ?_
    refine r_get C h fk_X8_10 0 rfl rfl dX8_state_45 ?_
    refine r_get C h fk_X8_94 1 rfl rfl dX8_state_48 ?_
    refine r_get C h fk_X8_147 3 rfl rfl dX8_state_51 ?_
    cases hf
    exact r_iret C h hr hlk rfl dX8_state_54
  · replace hf := ifn c1 hf
    by_cases c2 : p0 = (1 : Int32)
    · replace hf := ifp c2 hf
      refine r_tab (tgt := 55) C dX8_state_1 (1 : Int32) c2 (by decide) rfl rfl ?_
      refine lv_aload_n hx hb dX8_state_55 rfl (lv_at hl 0 rfl) ?_
      refine r_get C h fk_X8_10 0 rfl rfl dX8_state_56 ?_
      refine r_get C h fk_X8_150 1 rfl rfl dX8_state_59 ?_
      cases hf
      exact r_iret C h hr hlk rfl dX8_state_62
    · replace hf := ifn c2 hf
      by_cases c3 : p0 = (2 : Int32)
      · replace hf := ifp c3 hf
        refine r_tab (tgt := 63) C dX8_state_1 (2 : Int32) c3 (by decide) rfl rfl ?_
        refine lv_aload_n hx hb dX8_state_63 rfl (lv_at hl 0 rfl) ?_
        refine r_get C h fk_X8_10 0 rfl rfl dX8_state_64 ?_
        refine r_get C h fk_X8_94 1 rfl rfl dX8_state_67 ?_
        refine r_get C h fk_X8_153 3 rfl rfl dX8_state_70 ?_
        cases hf
        exact r_iret C h hr hlk rfl dX8_state_73
      · replace hf := ifn c3 hf
        by_cases c4 : p0 = (3 : Int32)
        · replace hf := ifp c4 hf
          refine r_tab (tgt := 74) C dX8_state_1 (3 : Int32) c4 (by decide) rfl rfl ?_
          refine lv_aload_n hx hb dX8_state_74 rfl (lv_at hl 0 rfl) ?_
          refine r_get C h fk_X8_10 0 rfl rfl dX8_state_75 ?_
          refine lv_aload_n hx hb dX8_state_78 rfl (lv_at hl 0 rfl) ?_
          refine r_get C h fk_X8_10 0 rfl rfl dX8_state_79 ?_
          refine r_get C h fk_X8_94 1 rfl rfl dX8_state_82 ?_
          replace hf := bd1_inv hf
          obtain ⟨r8, hc9, hf⟩ := hf
          refine r_ciV0 C h (c_X3_isOver hc9) mv_X8_159 rfl 1 rfl [3, 1] rfl rfl hl.1 rfl (Nat.le_of_ble_eq_true rfl) (rok (by decide)) dX8_state_85 (fun H locs h => ?_)
          refine lv_if_eq (tgt := 95) hx hb dX8_state_88 rfl (fun c10 => ?_) (fun c10 => ?_)
          · replace hf := ifp c10 hf
            refine lv_iconst (v := (0 : Int32)) hx hb dX8_state_95 rfl ?_
            cases hf
            exact r_iret C h hr hlk rfl dX8_state_96
          · replace hf := ifn c10 hf
            refine lv_iconst (v := (1 : Int32)) hx hb dX8_state_91 rfl ?_
            refine lv_goto (tgt := 96) hx hb dX8_state_92 rfl ?_
            cases hf
            exact r_iret C h hr hlk rfl dX8_state_96
        · replace hf := ifn c4 hf
          by_cases c5 : p0 = (4 : Int32)
          · replace hf := ifp c5 hf
            refine r_tab (tgt := 97) C dX8_state_1 (4 : Int32) c5 (by decide) rfl rfl ?_
            refine lv_aload_n hx hb dX8_state_97 rfl (lv_at hl 0 rfl) ?_
            refine r_get C h fk_X8_10 0 rfl rfl dX8_state_98 ?_
            refine r_get C h fk_X8_94 1 rfl rfl dX8_state_101 ?_
            refine r_get C h fk_X8_156 3 rfl rfl dX8_state_104 ?_
            cases hf
            exact r_iret C h hr hlk rfl dX8_state_107
          · replace hf := ifn c5 hf
            by_cases c6 : p0 = (5 : Int32)
            · replace hf := ifp c6 hf
              refine r_tab (tgt := 108) C dX8_state_1 (5 : Int32) c6 (by decide) rfl rfl ?_
              refine lv_aload_n hx hb dX8_state_108 rfl (lv_at hl 0 rfl) ?_
              refine r_get C h fk_X8_10 0 rfl rfl dX8_state_109 ?_
              refine lv_aload_n hx hb dX8_state_112 rfl (lv_at hl 0 rfl) ?_
              refine r_get C h fk_X8_10 0 rfl rfl dX8_state_113 ?_
              refine r_get C h fk_X8_94 1 rfl rfl dX8_state_116 ?_
              refine r_get C h fk_X8_147 3 rfl rfl dX8_state_119 ?_
              replace hf := bd1_inv hf
              obtain ⟨r11, hc12, hf⟩ := hf
              refine r_ciV0 C h (c_X3_lightAt hc12) mv_X8_163 rfl 1 rfl [1, 2] rfl rfl hl.1 rfl (Nat.le_of_ble_eq_true rfl) (rok (by decide)) dX8_state_122 (fun H locs h => ?_)
              cases hf
              exact r_iret C h hr hlk rfl dX8_state_125
            · replace hf := ifn c6 hf
              by_cases c7 : p0 = (6 : Int32)
              · replace hf := ifp c7 hf
                refine r_tab (tgt := 126) C dX8_state_1 (6 : Int32) c7 (by decide) rfl rfl ?_
                refine lv_aload_n hx hb dX8_state_126 rfl (lv_at hl 0 rfl) ?_
                refine r_get C h fk_X8_10 0 rfl rfl dX8_state_127 ?_
                refine lv_aload_n hx hb dX8_state_130 rfl (lv_at hl 0 rfl) ?_
                refine r_get C h fk_X8_10 0 rfl rfl dX8_state_131 ?_
                refine r_get C h fk_X8_94 1 rfl rfl dX8_state_134 ?_
                replace hf := bd1_inv hf
                obtain ⟨r13, hc14, hf⟩ := hf
                refine r_ciV0 C h (c_X3_stranded hc14) mv_X8_167 rfl 1 rfl [3, 4, 1] rfl rfl hl.1 rfl (Nat.le_of_ble_eq_true rfl) (rok (by decide)) dX8_state_137 (fun H locs h => ?_)
                cases hf
                exact r_iret C h hr hlk rfl dX8_state_140
              · replace hf := ifn c7 hf
                refine r_tabD (tgt := 141) C dX8_state_1 [(0 : Int32), (1 : Int32), (2 : Int32), (3 : Int32), (4 : Int32), (5 : Int32), (6 : Int32)] (by decide) (nel_c c1 (nel_c c2 (nel_c c3 (nel_c c4 (nel_c c5 (nel_c c6 (nel_c c7 nel_0))))))) rfl ?_
                refine lv_iconst (v := (-1 : Int32)) hx hb dX8_state_141 rfl ?_
                cases hf
                exact r_iret C h hr hlk rfl dX8_state_142
set_option maxRecDepth 100000 in
set_option maxHeartbeats 4000000 in
theorem c_X8_feed {l : Launch} {G : Gt} {h_this h_this_rock h_this_kept h_this_trial h_this_planner h_this_reader h_this_draft h_this_host h_this_thing h_this_tape h_this_rows : Nat} {p0 : Int64} {p1 : Int32} {x_this_tapeCount : Int32} {x_this_rowCount : Int32} {x_this_isKept : Int32} {f_this_tape : Nat → Int32} {r : Int32} {m_this_tapeCount : Int32} {m_this_tape : Nat → Int32} (hf : f_X8_feed p0 p1 x_this_tapeCount f_this_tape = some (r, m_this_tapeCount, m_this_tape)) : mFi l G yX8_feed cX8_feed 5 .int 1 [.ref h_this, .long p0, .int p1] [(h_this, ob 8 [.ref h_this_rock, .ref h_this_kept, .ref h_this_trial, .ref h_this_planner, .ref h_this_reader, .ref h_this_draft, .ref h_this_host, .ref h_this_thing, .ref h_this_tape, .ref h_this_rows, .int x_this_tapeCount, .int x_this_rowCount, .int x_this_isKept]), (h_this_tape, ia G 200 f_this_tape)] r [(h_this, ob 8 [.ref h_this_rock, .ref h_this_kept, .ref h_this_trial, .ref h_this_planner, .ref h_this_reader, .ref h_this_draft, .ref h_this_host, .ref h_this_thing, .ref h_this_tape, .ref h_this_rows, .int m_this_tapeCount, .int x_this_rowCount, .int x_this_isKept]), (h_this_tape, ia G 200 m_this_tape)] := by
  refine mFi.of (by decide +kernel) (Nat.le_of_ble_eq_true rfl) ?_
  intro p e s m below meth c A C hr hlk h ls hl
  obtain ⟨hx, hb, hml, hown, hts⟩ := id C
  replace hl : lv_has ls 5 [(0, .ref h_this), (1, .long p0), (3, .int p1)] := hl
  unfold f_X8_feed at hf
  refine with_K G A 5 (fun K hK1 hK2 => ?_)
  have B66 : ∀ (g_this_tape : Nat → Int32), f_X8_feed_b66 p1 x_this_tapeCount g_this_tape = some (r, m_this_tapeCount, m_this_tape) → K 66 ([] : List Value) [(h_this, ob 8 [.ref h_this_rock, .ref h_this_kept, .ref h_this_trial, .ref h_this_planner, .ref h_this_reader, .ref h_this_draft, .ref h_this_host, .ref h_this_thing, .ref h_this_tape, .ref h_this_rows, .int x_this_tapeCount, .int x_this_rowCount, .int x_this_isKept]), (h_this_tape, ia G 200 g_this_tape)] [(0, .ref h_this), (3, .int p1)] := by
    intro g_this_tape hf
    unfold f_X8_feed_b66 at hf
    refine hK1 _ _ _ _ (fun H locs ls h hl => ?_)
    refine lv_aload_n hx hb dX8_feed_66 rfl (lv_at hl 0 rfl) ?_
    refine lv_dup hx hb dX8_feed_67 rfl ?_
    refine r_get C h fk_X8_68 0 rfl rfl dX8_feed_68 ?_
    refine lv_iload_n hx hb dX8_feed_71 rfl (lv_at hl 1 rfl) ?_
    refine lv_iadd hx hb dX8_feed_72 ?_
    refine lv_topi (fun t6 et6 => ?_)
    replace hf := lt1_inv et6 hf
    refine r_put (ws' := [(h_this, ob 8 [.ref h_this_rock, .ref h_this_kept, .ref h_this_trial, .ref h_this_planner, .ref h_this_reader, .ref h_this_draft, .ref h_this_host, .ref h_this_thing, .ref h_this_tape, .ref h_this_rows, .int t6, .int x_this_rowCount, .int x_this_isKept]), (h_this_tape, ia G 200 g_this_tape)]) C h fw_X8_68 0 rfl rfl rfl (Nat.le_of_ble_eq_true rfl) dX8_feed_73 rfl (fun H locs h => ?_)
    refine lv_aload_n hx hb dX8_feed_76 rfl (lv_at hl 0 rfl) ?_
    refine r_get C h fk_X8_68 0 rfl rfl dX8_feed_77 ?_
    cases hf
    exact r_iret C h hr hlk rfl dX8_feed_80
  have L30 : ∀ (n : Nat) (v4 : Int32) (g_this_tape : Nat → Int32), f_X8_feed_L30 p0 p1 x_this_tapeCount n v4 g_this_tape = some (r, m_this_tapeCount, m_this_tape) → K 30 ([] : List Value) [(h_this, ob 8 [.ref h_this_rock, .ref h_this_kept, .ref h_this_trial, .ref h_this_planner, .ref h_this_reader, .ref h_this_draft, .ref h_this_host, .ref h_this_thing, .ref h_this_tape, .ref h_this_rows, .int x_this_tapeCount, .int x_this_rowCount, .int x_this_isKept]), (h_this_tape, ia G 200 g_this_tape)] [(0, .ref h_this), (1, .long p0), (3, .int p1), (4, .int v4)] := by
    intro n
    induction n with
    | zero =>
      intro v4 g_this_tape hf
      replace hf : (none : Option _) = some _ := hf
      cases hf
    | succ n ih =>
      intro v4 g_this_tape hf
      rw [f_X8_feed_L30] at hf
      refine hK1 _ _ _ _ (fun H locs ls h hl => ?_)
      refine lv_iload hx hb dX8_feed_30 (lv_at hl 3 rfl) ?_
      refine lv_iload_n hx hb dX8_feed_32 rfl (lv_at hl 2 rfl) ?_
      refine lv_icmp_ge (tgt := 66) hx hb dX8_feed_33 rfl (fun c5 => ?_) (fun c5 => ?_)
      · replace hf := ifp c5 hf
        exact hK2 _ _ _ _ (B66 g_this_tape hf) _ _ _ h (lv_sub hl [0, 2] rfl)
      · replace hf := ifn c5 hf
        refine lv_aload_n hx hb dX8_feed_36 rfl (lv_at hl 0 rfl) ?_
        refine r_get C h fk_X8_61 0 rfl rfl dX8_feed_37 ?_
        refine lv_aload_n hx hb dX8_feed_40 rfl (lv_at hl 0 rfl) ?_
        refine r_get C h fk_X8_68 0 rfl rfl dX8_feed_41 ?_
        refine lv_iload hx hb dX8_feed_44 (lv_at hl 3 rfl) ?_
        refine lv_iadd hx hb dX8_feed_46 ?_
        refine lv_lload_n hx hb dX8_feed_47 rfl (lv_at hl 1 rfl) ?_
        refine lv_bipush (v := (8 : Int32)) hx hb dX8_feed_48 rfl ?_
        refine lv_iload hx hb dX8_feed_50 (lv_at hl 3 rfl) ?_
        refine lv_imul hx hb dX8_feed_52 ?_
        refine lv_lushr hx hb dX8_feed_53 rfl ?_
        refine lv_l2i hx hb dX8_feed_54 rfl ?_
        refine lv_sipush (v := (255 : Int32)) hx hb dX8_feed_55 rfl ?_
        refine lv_iand hx hb dX8_feed_58 ?_
        refine lv_topi (fun t7 et7 => ?_)
        replace hf := lt1_inv et7 hf
        replace hf := chkI_inv hf
        obtain ⟨hi8, hf⟩ := hf
        refine r_iast (ws' := [(h_this, ob 8 [.ref h_this_rock, .ref h_this_kept, .ref h_this_trial, .ref h_this_planner, .ref h_this_reader, .ref h_this_draft, .ref h_this_host, .ref h_this_thing, .ref h_this_tape, .ref h_this_rows, .int x_this_tapeCount, .int x_this_rowCount, .int x_this_isKept]), (h_this_tape, ia G 200 (upd g_this_tape (x_this_tapeCount + v4).toNatClampNeg t7))]) C h 1 rfl hi8 dX8_feed_59 rfl (fun H locs h => ?_)
        obtain ⟨t9, et9⟩ : ∃ y : Int32, y = v4 + (1 : Int32) := ⟨_, rfl⟩
        replace hf := lt1_inv et9 hf
        refine lv_iinc (v := t9) (lv' := [(4, .int t9), (0, .ref h_this), (1, .long p0), (3, .int p1)]) hx hb dX8_feed_60 hl (k := 3) rfl (by rw [et9]; rfl) (by decide) rfl (fun ls hl => ?_)
        refine lv_goto (tgt := 30) hx hb dX8_feed_63 rfl ?_
        exact hK2 _ _ _ _ (ih t9 (upd g_this_tape (x_this_tapeCount + v4).toNatClampNeg t7) hf) _ _ _ h (lv_sub hl [1, 2, 3, 0] rfl)
  refine lv_iload_n hx hb dX8_feed_0 rfl (lv_at hl 2 rfl) ?_
  refine lv_iconst (v := (1 : Int32)) hx hb dX8_feed_1 rfl ?_
  refine lv_bipush (v := (8 : Int32)) hx hb dX8_feed_2 rfl ?_
  replace hf := bd1_inv hf
  obtain ⟨r1, hc2, hf⟩ := hf
  refine r_ciS0 C h (c_X8_within hc2) ms_X8_79 rfl [] rfl rfl hl.1 rfl (Nat.le_of_ble_eq_true rfl) (rok (by decide)) dX8_feed_4 (fun H locs h => ?_)
  refine lv_if_ne (tgt := 12) hx hb dX8_feed_7 rfl (fun c3 => ?_) (fun c3 => ?_)
  · replace hf := ifn c3 hf
    refine lv_aload_n hx hb dX8_feed_12 rfl (lv_at hl 0 rfl) ?_
    refine r_get C h fk_X8_68 0 rfl rfl dX8_feed_13 ?_
    refine lv_iload_n hx hb dX8_feed_16 rfl (lv_at hl 2 rfl) ?_
    refine lv_iadd hx hb dX8_feed_17 ?_
    refine lv_sipush (v := (200 : Int32)) hx hb dX8_feed_18 rfl ?_
    refine lv_icmp_le (tgt := 27) hx hb dX8_feed_21 rfl (fun c4 => ?_) (fun c4 => ?_)
    · replace hf := ifp c4 hf
      refine lv_iconst (v := (0 : Int32)) hx hb dX8_feed_27 rfl ?_
      refine lv_istore (lv' := [(4, .int (0 : Int32)), (0, .ref h_this), (1, .long p0), (3, .int p1)]) hx hb dX8_feed_28 hl (by decide) rfl (fun ls hl => ?_)
      exact hK2 _ _ _ _ (L30 1000 (0 : Int32) f_this_tape hf) _ _ _ h (lv_sub hl [1, 2, 3, 0] rfl)
    · replace hf := ifn c4 hf
      refine lv_bipush (v := (-2 : Int32)) hx hb dX8_feed_24 rfl ?_
      cases hf
      exact r_iret C h hr hlk rfl dX8_feed_26
  · replace hf := ifp c3 hf
    refine lv_iconst (v := (-1 : Int32)) hx hb dX8_feed_10 rfl ?_
    cases hf
    exact r_iret C h hr hlk rfl dX8_feed_11
