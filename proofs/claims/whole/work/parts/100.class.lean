set_option maxRecDepth 100000 in
set_option maxHeartbeats 4000000 in
theorem c_X8_within {l : Launch} {G : Gt} {p0 : Int32} {p1 : Int32} {p2 : Int32} {r : Int32} (hf : f_X8_within p0 p1 p2 = some r) : mFi l G yX8_within cX8_within 3 .boolean 0 [.int p0, .int p1, .int p2] ([] : va_W) r ([] : va_W) := by
  refine mFi.of (by decide +kernel) (Nat.le_of_ble_eq_true rfl) ?_
  intro p e s m below meth c A C hr hlk h ls hl
  obtain ⟨hx, hb, hml, hown, hts⟩ := id C
  replace hl : lv_has ls 3 [(0, .int p0), (1, .int p1), (2, .int p2)] := hl
  unfold f_X8_within at hf
  refine lv_iload_n hx hb dX8_within_0 rfl (lv_at hl 0 rfl) ?_
  refine lv_iload_n hx hb dX8_within_1 rfl (lv_at hl 1 rfl) ?_
  refine lv_icmp_lt (tgt := 14) hx hb dX8_within_2 rfl (fun c1 => ?_) (fun c1 => ?_)
  · replace hf := ifp c1 hf
    refine lv_iconst (v := (0 : Int32)) hx hb dX8_within_14 rfl ?_
    cases hf
    exact r_iret C h hr hlk rfl dX8_within_15
  · replace hf := ifn c1 hf
    refine lv_iload_n hx hb dX8_within_5 rfl (lv_at hl 0 rfl) ?_
    refine lv_iload_n hx hb dX8_within_6 rfl (lv_at hl 2 rfl) ?_
    refine lv_icmp_gt (tgt := 14) hx hb dX8_within_7 rfl (fun c2 => ?_) (fun c2 => ?_)
    · replace hf := ifp c2 hf
      refine lv_iconst (v := (0 : Int32)) hx hb dX8_within_14 rfl ?_
      cases hf
      exact r_iret C h hr hlk rfl dX8_within_15
    · replace hf := ifn c2 hf
      refine lv_iconst (v := (1 : Int32)) hx hb dX8_within_10 rfl ?_
      refine lv_goto (tgt := 15) hx hb dX8_within_11 rfl ?_
      cases hf
      exact r_iret C h hr hlk rfl dX8_within_15
set_option maxRecDepth 100000 in
set_option maxHeartbeats 4000000 in
theorem c_X6_bring {l : Launch} {G : Gt} {h_this h_this_off : Nat} {p0 : Int32} {p1 : Int32} {x_this_watch : Int32} {x_this_score : Int32} {x_this_home : Int32} {r : Int32} {m_this_home : Int32} (hf : f_X6_bring p0 p1 x_this_home = some (r, m_this_home)) : mFi l G yX6_bring cX6_bring 4 .int 0 [.ref h_this, .int p0, .int p1] [(h_this, ob 6 [.ref h_this_off, .int x_this_watch, .int x_this_score, .int x_this_home])] r [(h_this, ob 6 [.ref h_this_off, .int x_this_watch, .int x_this_score, .int m_this_home])] := by
  refine mFi.of (by decide +kernel) (Nat.le_of_ble_eq_true rfl) ?_
  intro p e s m below meth c A C hr hlk h ls hl
  obtain ⟨hx, hb, hml, hown, hts⟩ := id C
  replace hl : lv_has ls 4 [(0, .ref h_this), (1, .int p0), (2, .int p1)] := hl
  unfold f_X6_bring at hf
  refine lv_aload_n hx hb dX6_bring_0 rfl (lv_at hl 0 rfl) ?_
  refine r_get C h fk_X6_22 0 rfl rfl dX6_bring_1 ?_
  refine lv_iload_n hx hb dX6_bring_4 rfl (lv_at hl 1 rfl) ?_
  refine lv_ishr hx hb dX6_bring_5 ?_
  refine lv_iconst (v := (1 : Int32)) hx hb dX6_bring_6 rfl ?_
  refine lv_iand hx hb dX6_bring_7 ?_
  refine lv_topi (fun t1 et1 => ?_)
  replace hf := lt1_inv et1 hf
  refine lv_istore_n (lv' := [(3, .int t1), (0, .ref h_this), (1, .int p0), (2, .int p1)]) hx hb dX6_bring_8 rfl hl (by decide) rfl (fun ls hl => ?_)
  refine lv_aload_n hx hb dX6_bring_9 rfl (lv_at hl 1 rfl) ?_
  refine lv_aload_n hx hb dX6_bring_10 rfl (lv_at hl 1 rfl) ?_
  refine r_get C h fk_X6_22 0 rfl rfl dX6_bring_11 ?_
  refine lv_iconst (v := (1 : Int32)) hx hb dX6_bring_14 rfl ?_
  refine lv_iload_n hx hb dX6_bring_15 rfl (lv_at hl 2 rfl) ?_
  refine lv_ishl hx hb dX6_bring_16 ?_
  refine lv_iconst (v := (-1 : Int32)) hx hb dX6_bring_17 rfl ?_
  refine lv_ixor hx hb dX6_bring_18 ?_
  refine lv_iand hx hb dX6_bring_19 ?_
  refine lv_iload_n hx hb dX6_bring_20 rfl (lv_at hl 3 rfl) ?_
  refine lv_iload_n hx hb dX6_bring_21 rfl (lv_at hl 2 rfl) ?_
  refine lv_ishl hx hb dX6_bring_22 ?_
  refine lv_ior hx hb dX6_bring_23 ?_
  refine lv_topi (fun t2 et2 => ?_)
  replace hf := lt1_inv et2 hf
  refine r_put (ws' := [(h_this, ob 6 [.ref h_this_off, .int x_this_watch, .int x_this_score, .int t2])]) C h fw_X6_22 0 rfl rfl rfl (Nat.le_of_ble_eq_true rfl) dX6_bring_24 rfl (fun H locs h => ?_)
  refine lv_iload_n hx hb dX6_bring_27 rfl (lv_at hl 0 rfl) ?_
  cases hf
  exact r_iret C h hr hlk rfl dX6_bring_28
set_option maxRecDepth 100000 in
set_option maxHeartbeats 4000000 in
theorem c_X3_enlist {l : Launch} {G : Gt} {h_this h_this_kinds h_this_trims h_this_lanes h_this_lights h_this_currents h_this_buoys h_this_now h_this_rules h_this_reports h_this_now_off : Nat} {p0 : Int32} {p1 : Int32} {p2 : Int32} {p3 : Int32} {x_this_count : Int32} {x_this_end : Int32} {x_this_z : Int32} {f_this_kinds : Nat → Int32} {f_this_lanes : Nat → Int32} {x_this_now_watch : Int32} {x_this_now_score : Int32} {x_this_now_home : Int32} {f_this_now_off : Nat → Int32} {f_this_trims : Nat → Int32} {r : Int32} {m_this_count : Int32} {m_this_kinds : Nat → Int32} {m_this_lanes : Nat → Int32} {m_this_now_off : Nat → Int32} {m_this_trims : Nat → Int32} (hf : f_X3_enlist p0 p1 p2 p3 x_this_count f_this_kinds f_this_lanes f_this_now_off f_this_trims = some (r, m_this_count, m_this_kinds, m_this_lanes, m_this_now_off, m_this_trims)) : mFi l G yX3_enlist cX3_enlist 6 .int 0 [.ref h_this, .int p0, .int p1, .int p2, .int p3] [(h_this, ob 3 [.ref h_this_kinds, .ref h_this_trims, .ref h_this_lanes, .ref h_this_lights, .ref h_this_currents, .ref h_this_buoys, .ref h_this_now, .ref h_this_rules, .ref h_this_reports, .int x_this_count, .int x_this_end, .int x_this_z]), (h_this_kinds, ia G 6 f_this_kinds), (h_this_lanes, ia G 6 f_this_lanes), (h_this_now, ob 6 [.ref h_this_now_off, .int x_this_now_watch, .int x_this_now_score, .int x_this_now_home]), (h_this_now_off, ia G 6 f_this_now_off), (h_this_trims, ia G 6 f_this_trims)] r [(h_this, ob 3 [.ref h_this_kinds, .ref h_this_trims, .ref h_this_lanes, .ref h_this_lights, .ref h_this_currents, .ref h_this_buoys, .ref h_this_now, .ref h_this_rules, .ref h_this_reports, .int m_this_count, .int x_this_end, .int x_this_z]), (h_this_kinds, ia G 6 m_this_kinds), (h_this_lanes, ia G 6 m_this_lanes), (h_this_now, ob 6 [.ref h_this_now_off, .int x_this_now_watch, .int x_this_now_score, .int x_this_now_home]), (h_this_now_off, ia G 6 m_this_now_off), (h_this_trims, ia G 6 m_this_trims)] := by
  refine mFi.of (by decide +kernel) (Nat.le_of_ble_eq_true rfl) ?_
  intro p e s m below meth c A C hr hlk h ls hl
  obtain ⟨hx, hb, hml, hown, hts⟩ := id C
  replace hl : lv_has ls 6 [(0, .ref h_this), (1, .int p0), (2, .int p1), (3, .int p2), (4, .int p3)] := hl
  unfold f_X3_enlist at hf
  refine lv_aload_n hx hb dX3_enlist_0 rfl (lv_at hl 0 rfl) ?_
  refine r_get C h fk_X3_51 0 rfl rfl dX3_enlist_1 ?_
  refine lv_istore (lv' := [(5, .int x_this_count), (0, .ref h_this), (1, .int p0), (2, .int p1), (3, .int p2), (4, .int p3)]) hx hb dX3_enlist_4 hl (by decide) rfl (fun ls hl => ?_)
  refine lv_aload_n hx hb dX3_enlist_6 rfl (lv_at hl 1 rfl) ?_
  refine r_get C h fk_X3_9 0 rfl rfl dX3_enlist_7 ?_
  refine lv_iload hx hb dX3_enlist_10 (lv_at hl 0 rfl) ?_
  refine lv_iload_n hx hb dX3_enlist_12 rfl (lv_at hl 2 rfl) ?_
  replace hf := chkI_inv hf
  obtain ⟨hi1, hf⟩ := hf
  refine r_iast (ws' := [(h_this, ob 3 [.ref h_this_kinds, .ref h_this_trims, .ref h_this_lanes, .ref h_this_lights, .ref h_this_currents, .ref h_this_buoys, .ref h_this_now, .ref h_this_rules, .ref h_this_reports, .int x_this_count, .int x_this_end, .int x_this_z]), (h_this_kinds, ia G 6 (upd f_this_kinds x_this_count.toNatClampNeg p0)), (h_this_lanes, ia G 6 f_this_lanes), (h_this_now, ob 6 [.ref h_this_now_off, .int x_this_now_watch, .int x_this_now_score, .int x_this_now_home]), (h_this_now_off, ia G 6 f_this_now_off), (h_this_trims, ia G 6 f_this_trims)]) C h 1 rfl hi1 dX3_enlist_13 rfl (fun H locs h => ?_)
  refine lv_aload_n hx hb dX3_enlist_14 rfl (lv_at hl 1 rfl) ?_
  refine r_get C h fk_X3_15 0 rfl rfl dX3_enlist_15 ?_
  refine lv_iload hx hb dX3_enlist_18 (lv_at hl 0 rfl) ?_
  refine lv_iload_n hx hb dX3_enlist_20 rfl (lv_at hl 4 rfl) ?_
  replace hf := chkI_inv hf
  obtain ⟨hi2, hf⟩ := hf
  refine r_iast (ws' := [(h_this, ob 3 [.ref h_this_kinds, .ref h_this_trims, .ref h_this_lanes, .ref h_this_lights, .ref h_this_currents, .ref h_this_buoys, .ref h_this_now, .ref h_this_rules, .ref h_this_reports, .int x_this_count, .int x_this_end, .int x_this_z]), (h_this_kinds, ia G 6 (upd f_this_kinds x_this_count.toNatClampNeg p0)), (h_this_lanes, ia G 6 f_this_lanes), (h_this_now, ob 6 [.ref h_this_now_off, .int x_this_now_watch, .int x_this_now_score, .int x_this_now_home]), (h_this_now_off, ia G 6 f_this_now_off), (h_this_trims, ia G 6 (upd f_this_trims x_this_count.toNatClampNeg p2))]) C h 5 rfl hi2 dX3_enlist_21 rfl (fun H locs h => ?_)
  refine lv_aload_n hx hb dX3_enlist_22 rfl (lv_at hl 1 rfl) ?_
  refine r_get C h fk_X3_18 0 rfl rfl dX3_enlist_23 ?_
  refine lv_iload hx hb dX3_enlist_26 (lv_at hl 0 rfl) ?_
  refine lv_iload hx hb dX3_enlist_28 (lv_at hl 5 rfl) ?_
  replace hf := chkI_inv hf
  obtain ⟨hi3, hf⟩ := hf
  refine r_iast (ws' := [(h_this, ob 3 [.ref h_this_kinds, .ref h_this_trims, .ref h_this_lanes, .ref h_this_lights, .ref h_this_currents, .ref h_this_buoys, .ref h_this_now, .ref h_this_rules, .ref h_this_reports, .int x_this_count, .int x_this_end, .int x_this_z]), (h_this_kinds, ia G 6 (upd f_this_kinds x_this_count.toNatClampNeg p0)), (h_this_lanes, ia G 6 (upd f_this_lanes x_this_count.toNatClampNeg p3)), (h_this_now, ob 6 [.ref h_this_now_off, .int x_this_now_watch, .int x_this_now_score, .int x_this_now_home]), (h_this_now_off, ia G 6 f_this_now_off), (h_this_trims, ia G 6 (upd f_this_trims x_this_count.toNatClampNeg p2))]) C h 2 rfl hi3 dX3_enlist_30 rfl (fun H locs h => ?_)
  refine lv_aload_n hx hb dX3_enlist_31 rfl (lv_at hl 1 rfl) ?_
  refine r_get C h fk_X3_33 0 rfl rfl dX3_enlist_32 ?_
  refine r_get C h fk_X3_86 3 rfl rfl dX3_enlist_35 ?_
  refine lv_iload hx hb dX3_enlist_38 (lv_at hl 0 rfl) ?_
  refine lv_iload_n hx hb dX3_enlist_40 rfl (lv_at hl 3 rfl) ?_
  replace hf := chkI_inv hf
  obtain ⟨hi4, hf⟩ := hf
  refine r_iast (ws' := [(h_this, ob 3 [.ref h_this_kinds, .ref h_this_trims, .ref h_this_lanes, .ref h_this_lights, .ref h_this_currents, .ref h_this_buoys, .ref h_this_now, .ref h_this_rules, .ref h_this_reports, .int x_this_count, .int x_this_end, .int x_this_z]), (h_this_kinds, ia G 6 (upd f_this_kinds x_this_count.toNatClampNeg p0)), (h_this_lanes, ia G 6 (upd f_this_lanes x_this_count.toNatClampNeg p3)), (h_this_now, ob 6 [.ref h_this_now_off, .int x_this_now_watch, .int x_this_now_score, .int x_this_now_home]), (h_this_now_off, ia G 6 (upd f_this_now_off x_this_count.toNatClampNeg p1)), (h_this_trims, ia G 6 (upd f_this_trims x_this_count.toNatClampNeg p2))]) C h 4 rfl hi4 dX3_enlist_41 rfl (fun H locs h => ?_)
  refine lv_aload_n hx hb dX3_enlist_42 rfl (lv_at hl 1 rfl) ?_
  refine lv_dup hx hb dX3_enlist_43 rfl ?_
  refine r_get C h fk_X3_51 0 rfl rfl dX3_enlist_44 ?_
  refine lv_iconst (v := (1 : Int32)) hx hb dX3_enlist_47 rfl ?_
  refine lv_iadd hx hb dX3_enlist_48 ?_
  refine lv_topi (fun t5 et5 => ?_)
  replace hf := lt1_inv et5 hf
  refine r_put (ws' := [(h_this, ob 3 [.ref h_this_kinds, .ref h_this_trims, .ref h_this_lanes, .ref h_this_lights, .ref h_this_currents, .ref h_this_buoys, .ref h_this_now, .ref h_this_rules, .ref h_this_reports, .int t5, .int x_this_end, .int x_this_z]), (h_this_kinds, ia G 6 (upd f_this_kinds x_this_count.toNatClampNeg p0)), (h_this_lanes, ia G 6 (upd f_this_lanes x_this_count.toNatClampNeg p3)), (h_this_now, ob 6 [.ref h_this_now_off, .int x_this_now_watch, .int x_this_now_score, .int x_this_now_home]), (h_this_now_off, ia G 6 (upd f_this_now_off x_this_count.toNatClampNeg p1)), (h_this_trims, ia G 6 (upd f_this_trims x_this_count.toNatClampNeg p2))]) C h fw_X3_51 0 rfl rfl rfl (Nat.le_of_ble_eq_true rfl) dX3_enlist_49 rfl (fun H locs h => ?_)
  refine lv_iload hx hb dX3_enlist_52 (lv_at hl 0 rfl) ?_
  obtain ⟨rfl, rfl, rfl, rfl, rfl, rfl⟩ := sm6 hf
  exact r_iret C h hr hlk rfl dX3_enlist_54
set_option maxRecDepth 100000 in
set_option maxHeartbeats 4000000 in
theorem c_X8_ship {l : Launch} {G : Gt} {h_this h_this_rock h_this_kept h_this_trial h_this_planner h_this_reader h_this_draft h_this_host h_this_thing h_this_tape h_this_rows h_this_rock_kinds h_this_rock_trims h_this_rock_lanes h_this_rock_lights h_this_rock_currents h_this_rock_buoys h_this_rock_now h_this_rock_rules h_this_rock_reports h_this_rock_now_off : Nat} {p0 : Int32} {p1 : Int32} {p2 : Int32} {p3 : Int32} {x_this_tapeCount : Int32} {x_this_rowCount : Int32} {x_this_isKept : Int32} {x_this_rock_count : Int32} {x_this_rock_end : Int32} {x_this_rock_z : Int32} {f_this_rock_kinds : Nat → Int32} {f_this_rock_lanes : Nat → Int32} {x_this_rock_now_watch : Int32} {x_this_rock_now_score : Int32} {x_this_rock_now_home : Int32} {f_this_rock_now_off : Nat → Int32} {f_this_rock_trims : Nat → Int32} {r : Int32} {m_this_rock_count : Int32} {m_this_rock_kinds : Nat → Int32} {m_this_rock_lanes : Nat → Int32} {m_this_rock_now_off : Nat → Int32} {m_this_rock_trims : Nat → Int32} (hf : f_X8_ship p0 p1 p2 p3 x_this_rock_count f_this_rock_kinds f_this_rock_lanes f_this_rock_now_off f_this_rock_trims = some (r, m_this_rock_count, m_this_rock_kinds, m_this_rock_lanes, m_this_rock_now_off, m_this_rock_trims)) : mFi l G yX8_ship cX8_ship 5 .int 1 [.ref h_this, .int p0, .int p1, .int p2, .int p3] [(h_this, ob 8 [.ref h_this_rock, .ref h_this_kept, .ref h_this_trial, .ref h_this_planner, .ref h_this_reader, .ref h_this_draft, .ref h_this_host, .ref h_this_thing, .ref h_this_tape, .ref h_this_rows, .int x_this_tapeCount, .int x_this_rowCount, .int x_this_isKept]), (h_this_rock, ob 3 [.ref h_this_rock_kinds, .ref h_this_rock_trims, .ref h_this_rock_lanes, .ref h_this_rock_lights, .ref h_this_rock_currents, .ref h_this_rock_buoys, .ref h_this_rock_now, .ref h_this_rock_rules, .ref h_this_rock_reports, .int x_this_rock_count, .int x_this_rock_end, .int x_this_rock_z]), (h_this_rock_kinds, ia G 6 f_this_rock_kinds), (h_this_rock_lanes, ia G 6 f_this_rock_lanes), (h_this_rock_now, ob 6 [.ref h_this_rock_now_off, .int x_this_rock_now_watch, .int x_this_rock_now_score, .int x_this_rock_now_home]), (h_this_rock_now_off, ia G 6 f_this_rock_now_off), (h_this_rock_trims, ia G 6 f_this_rock_trims)] r [(h_this, ob 8 [.ref h_this_rock, .ref h_this_kept, .ref h_this_trial, .ref h_this_planner, .ref h_this_reader, .ref h_this_draft, .ref h_this_host, .ref h_this_thing, .ref h_this_tape, .ref h_this_rows, .int x_this_tapeCount, .int x_this_rowCount, .int x_this_isKept]), (h_this_rock, ob 3 [.ref h_this_rock_kinds, .ref h_this_rock_trims, .ref h_this_rock_lanes, .ref h_this_rock_lights, .ref h_this_rock_currents, .ref h_this_rock_buoys, .ref h_this_rock_now, .ref h_this_rock_rules, .ref h_this_rock_reports, .int m_this_rock_count, .int x_this_rock_end, .int x_this_rock_z]), (h_this_rock_kinds, ia G 6 m_this_rock_kinds), (h_this_rock_lanes, ia G 6 m_this_rock_lanes), (h_this_rock_now, ob 6 [.ref h_this_rock_now_off, .int x_this_rock_now_watch, .int x_this_rock_now_score, .int x_this_rock_now_home]), (h_this_rock_now_off, ia G 6 m_this_rock_now_off), (h_this_rock_trims, ia G 6 m_this_rock_trims)] := by
  refine mFi.of (by decide +kernel) (Nat.le_of_ble_eq_true rfl) ?_
  intro p e s m below meth c A C hr hlk h ls hl
  obtain ⟨hx, hb, hml, hown, hts⟩ := id C
  replace hl : lv_has ls 5 [(0, .ref h_this), (1, .int p0), (2, .int p1), (3, .int p2), (4, .int p3)] := hl
  unfold f_X8_ship at hf
  refine lv_iload_n hx hb dX8_ship_0 rfl (lv_at hl 1 rfl) ?_
  refine lv_iconst (v := (1 : Int32)) hx hb dX8_ship_1 rfl ?_
  refine lv_iconst (v := (5 : Int32)) hx hb dX8_ship_2 rfl ?_
  replace hf := bd1_inv hf
  obtain ⟨r1, hc2, hf⟩ := hf
  refine r_ciS0 C h (c_X8_within hc2) ms_X8_79 rfl [] rfl rfl hl.1 rfl (Nat.le_of_ble_eq_true rfl) (rok (by decide)) dX8_ship_3 (fun H locs h => ?_)
  refine lv_if_eq (tgt := 19) hx hb dX8_ship_6 rfl (fun c3 => ?_) (fun c3 => ?_)
  · replace hf := ifp c3 hf
    refine lv_iconst (v := (-1 : Int32)) hx hb dX8_ship_19 rfl ?_
    obtain ⟨rfl, rfl, rfl, rfl, rfl, rfl⟩ := sm6 hf
    exact r_iret C h hr hlk rfl dX8_ship_20
  · replace hf := ifn c3 hf
    refine lv_iload_n hx hb dX8_ship_9 rfl (lv_at hl 2 rfl) ?_
    refine lv_iconst (v := (0 : Int32)) hx hb dX8_ship_10 rfl ?_
    refine lv_bipush (v := (99 : Int32)) hx hb dX8_ship_11 rfl ?_
    replace hf := bd1_inv hf
    obtain ⟨r4, hc5, hf⟩ := hf
    refine r_ciS0 C h (c_X8_within hc5) ms_X8_79 rfl [] rfl rfl hl.1 rfl (Nat.le_of_ble_eq_true rfl) (rok (by decide)) dX8_ship_13 (fun H locs h => ?_)
    refine lv_if_ne (tgt := 21) hx hb dX8_ship_16 rfl (fun c6 => ?_) (fun c6 => ?_)
    · replace hf := ifn c6 hf
      refine lv_iload_n hx hb dX8_ship_21 rfl (lv_at hl 3 rfl) ?_
      refine lv_iconst (v := (0 : Int32)) hx hb dX8_ship_22 rfl ?_
      refine lv_bipush (v := (9 : Int32)) hx hb dX8_ship_23 rfl ?_
      replace hf := bd1_inv hf
      obtain ⟨r7, hc8, hf⟩ := hf
      refine r_ciS0 C h (c_X8_within hc8) ms_X8_79 rfl [] rfl rfl hl.1 rfl (Nat.le_of_ble_eq_true rfl) (rok (by decide)) dX8_ship_25 (fun H locs h => ?_)
      refine lv_if_eq (tgt := 41) hx hb dX8_ship_28 rfl (fun c9 => ?_) (fun c9 => ?_)
      · replace hf := ifp c9 hf
        refine lv_iconst (v := (-1 : Int32)) hx hb dX8_ship_41 rfl ?_
        obtain ⟨rfl, rfl, rfl, rfl, rfl, rfl⟩ := sm6 hf
        exact r_iret C h hr hlk rfl dX8_ship_42
      · replace hf := ifn c9 hf
        refine lv_iload hx hb dX8_ship_31 (lv_at hl 4 rfl) ?_
        refine lv_iconst (v := (0 : Int32)) hx hb dX8_ship_33 rfl ?_
        refine lv_iconst (v := (5 : Int32)) hx hb dX8_ship_34 rfl ?_
        replace hf := bd1_inv hf
        obtain ⟨r10, hc11, hf⟩ := hf
        refine r_ciS0 C h (c_X8_within hc11) ms_X8_79 rfl [] rfl rfl hl.1 rfl (Nat.le_of_ble_eq_true rfl) (rok (by decide)) dX8_ship_35 (fun H locs h => ?_)
        refine lv_if_ne (tgt := 43) hx hb dX8_ship_38 rfl (fun c12 => ?_) (fun c12 => ?_)
        · replace hf := ifn c12 hf
          refine lv_aload_n hx hb dX8_ship_43 rfl (lv_at hl 0 rfl) ?_
          refine r_get C h fk_X8_10 0 rfl rfl dX8_ship_44 ?_
          refine r_get C h fk_X8_83 1 rfl rfl dX8_ship_47 ?_
          refine lv_bipush (v := (6 : Int32)) hx hb dX8_ship_50 rfl ?_
          refine lv_icmp_lt (tgt := 58) hx hb dX8_ship_52 rfl (fun c13 => ?_) (fun c13 => ?_)
          · replace hf := ifp c13 hf
            refine lv_aload_n hx hb dX8_ship_58 rfl (lv_at hl 0 rfl) ?_
            refine r_get C h fk_X8_10 0 rfl rfl dX8_ship_59 ?_
            refine lv_iload_n hx hb dX8_ship_62 rfl (lv_at hl 1 rfl) ?_
            refine lv_iload_n hx hb dX8_ship_63 rfl (lv_at hl 2 rfl) ?_
            refine lv_iload_n hx hb dX8_ship_64 rfl (lv_at hl 3 rfl) ?_
            refine lv_iload hx hb dX8_ship_65 (lv_at hl 4 rfl) ?_
            replace hf := bd6_inv hf
            obtain ⟨r14, y15, g16, g17, g18, g19, hc20, hf⟩ := hf
            refine r_ciV (ws' := [(h_this, ob 8 [.ref h_this_rock, .ref h_this_kept, .ref h_this_trial, .ref h_this_planner, .ref h_this_reader, .ref h_this_draft, .ref h_this_host, .ref h_this_thing, .ref h_this_tape, .ref h_this_rows, .int x_this_tapeCount, .int x_this_rowCount, .int x_this_isKept]), (h_this_rock, ob 3 [.ref h_this_rock_kinds, .ref h_this_rock_trims, .ref h_this_rock_lanes, .ref h_this_rock_lights, .ref h_this_rock_currents, .ref h_this_rock_buoys, .ref h_this_rock_now, .ref h_this_rock_rules, .ref h_this_rock_reports, .int y15, .int x_this_rock_end, .int x_this_rock_z]), (h_this_rock_kinds, ia G 6 g16), (h_this_rock_lanes, ia G 6 g17), (h_this_rock_now, ob 6 [.ref h_this_rock_now_off, .int x_this_rock_now_watch, .int x_this_rock_now_score, .int x_this_rock_now_home]), (h_this_rock_now_off, ia G 6 g18), (h_this_rock_trims, ia G 6 g19)]) C h (c_X3_enlist hc20) mv_X8_86 rfl 1 rfl [1, 2, 3, 4, 5, 6] rfl rfl [1, 2, 3, 5, 6] [(h_this_rock, ob 3 [.ref h_this_rock_kinds, .ref h_this_rock_trims, .ref h_this_rock_lanes, .ref h_this_rock_lights, .ref h_this_rock_currents, .ref h_this_rock_buoys, .ref h_this_rock_now, .ref h_this_rock_rules, .ref h_this_rock_reports, .int y15, .int x_this_rock_end, .int x_this_rock_z]), (h_this_rock_kinds, ia G 6 g16), (h_this_rock_lanes, ia G 6 g17), (h_this_rock_now_off, ia G 6 g18), (h_this_rock_trims, ia G 6 g19)] rfl rfl (by decide +kernel) rfl hl.1 rfl (Nat.le_of_ble_eq_true rfl) (rok (by decide)) dX8_ship_67 (fun H locs h => ?_)
            obtain ⟨rfl, rfl, rfl, rfl, rfl, rfl⟩ := sm6 hf
            exact r_iret C h hr hlk rfl dX8_ship_70
          · replace hf := ifn c13 hf
            refine lv_bipush (v := (-2 : Int32)) hx hb dX8_ship_55 rfl ?_
            obtain ⟨rfl, rfl, rfl, rfl, rfl, rfl⟩ := sm6 hf
            exact r_iret C h hr hlk rfl dX8_ship_57
        · replace hf := ifp c12 hf
          refine lv_iconst (v := (-1 : Int32)) hx hb dX8_ship_41 rfl ?_
          obtain ⟨rfl, rfl, rfl, rfl, rfl, rfl⟩ := sm6 hf
          exact r_iret C h hr hlk rfl dX8_ship_42
    · replace hf := ifp c6 hf
      refine lv_iconst (v := (-1 : Int32)) hx hb dX8_ship_19 rfl ?_
      obtain ⟨rfl, rfl, rfl, rfl, rfl, rfl⟩ := sm6 hf
      exact r_iret C h hr hlk rfl dX8_ship_20
set_option maxRecDepth 100000 in
set_option maxHeartbeats 4000000 in
theorem c_X3_has {l : Launch} {G : Gt} {h_this h_this_kinds h_this_trims h_this_lanes h_this_lights h_this_currents h_this_buoys h_this_now h_this_rules h_this_reports : Nat} {p0 : Int32} {x_this_count : Int32} {x_this_end : Int32} {x_this_z : Int32} {r : Int32} (hf : f_X3_has p0 x_this_count = some r) : mFi l G yX3_has cX3_has 2 .boolean 0 [.ref h_this, .int p0] [(h_this, ob 3 [.ref h_this_kinds, .ref h_this_trims, .ref h_this_lanes, .ref h_this_lights, .ref h_this_currents, .ref h_this_buoys, .ref h_this_now, .ref h_this_rules, .ref h_this_reports, .int x_this_count, .int x_this_end, .int x_this_z])] r [(h_this, ob 3 [.ref h_this_kinds, .ref h_this_trims, .ref h_this_lanes, .ref h_this_lights, .ref h_this_currents, .ref h_this_buoys, .ref h_this_now, .ref h_this_rules, .ref h_this_reports, .int x_this_count, .int x_this_end, .int x_this_z])] := by
  refine mFi.of (by decide +kernel) (Nat.le_of_ble_eq_true rfl) ?_
  intro p e s m below meth c A C hr hlk h ls hl
  obtain ⟨hx, hb, hml, hown, hts⟩ := id C
  replace hl : lv_has ls 2 [(0, .ref h_this), (1, .int p0)] := hl
  unfold f_X3_has at hf
  refine lv_iload_n hx hb dX3_has_0 rfl (lv_at hl 1 rfl) ?_
  refine lv_if_lt (tgt := 16) hx hb dX3_has_1 rfl (fun c1 => ?_) (fun c1 => ?_)
  · replace hf := ifp c1 hf
    refine lv_iconst (v := (0 : Int32)) hx hb dX3_has_16 rfl ?_
    cases hf
    exact r_iret C h hr hlk rfl dX3_has_17
  · replace hf := ifn c1 hf
    refine lv_iload_n hx hb dX3_has_4 rfl (lv_at hl 1 rfl) ?_
    refine lv_aload_n hx hb dX3_has_5 rfl (lv_at hl 0 rfl) ?_
    refine r_get C h fk_X3_51 0 rfl rfl dX3_has_6 ?_
    refine lv_icmp_ge (tgt := 16) hx hb dX3_has_9 rfl (fun c2 => ?_) (fun c2 => ?_)
    · replace hf := ifp c2 hf
      refine lv_iconst (v := (0 : Int32)) hx hb dX3_has_16 rfl ?_
      cases hf
      exact r_iret C h hr hlk rfl dX3_has_17
    · replace hf := ifn c2 hf
      refine lv_iconst (v := (1 : Int32)) hx hb dX3_has_12 rfl ?_
      refine lv_goto (tgt := 17) hx hb dX3_has_13 rfl ?_
      cases hf
      exact r_iret C h hr hlk rfl dX3_has_17
set_option maxRecDepth 100000 in
set_option maxHeartbeats 4000000 in
theorem c_X6_isHome {l : Launch} {G : Gt} {h_this h_this_off : Nat} {p0 : Int32} {x_this_watch : Int32} {x_this_score : Int32} {x_this_home : Int32} {r : Int32} (hf : f_X6_isHome p0 x_this_home = some r) : mFi l G yX6_isHome cX6_isHome 2 .boolean 0 [.ref h_this, .int p0] [(h_this, ob 6 [.ref h_this_off, .int x_this_watch, .int x_this_score, .int x_this_home])] r [(h_this, ob 6 [.ref h_this_off, .int x_this_watch, .int x_this_score, .int x_this_home])] := by
  refine mFi.of (by decide +kernel) (Nat.le_of_ble_eq_true rfl) ?_
  intro p e s m below meth c A C hr hlk h ls hl
  obtain ⟨hx, hb, hml, hown, hts⟩ := id C
  replace hl : lv_has ls 2 [(0, .ref h_this), (1, .int p0)] := hl
  unfold f_X6_isHome at hf
  refine lv_aload_n hx hb dX6_isHome_0 rfl (lv_at hl 0 rfl) ?_
  refine r_get C h fk_X6_22 0 rfl rfl dX6_isHome_1 ?_
  refine lv_iload_n hx hb dX6_isHome_4 rfl (lv_at hl 1 rfl) ?_
  refine lv_ishr hx hb dX6_isHome_5 ?_
  refine lv_iconst (v := (1 : Int32)) hx hb dX6_isHome_6 rfl ?_
  refine lv_iand hx hb dX6_isHome_7 ?_
  refine lv_iconst (v := (1 : Int32)) hx hb dX6_isHome_8 rfl ?_
  refine lv_icmp_ne (tgt := 16) hx hb dX6_isHome_9 rfl (fun c1 => ?_) (fun c1 => ?_)
  · replace hf := ifn c1 hf
    refine lv_iconst (v := (0 : Int32)) hx hb dX6_isHome_16 rfl ?_
    cases hf
    exact r_iret C h hr hlk rfl dX6_isHome_17
  · replace hf := ifp c1 hf
    refine lv_iconst (v := (1 : Int32)) hx hb dX6_isHome_12 rfl ?_
    refine lv_goto (tgt := 17) hx hb dX6_isHome_13 rfl ?_
    cases hf
    exact r_iret C h hr hlk rfl dX6_isHome_17
set_option maxRecDepth 100000 in
set_option maxHeartbeats 4000000 in
theorem c_X3_lightAt {l : Launch} {G : Gt} {h_this h_this_kinds h_this_trims h_this_lanes h_this_lights h_this_currents h_this_buoys h_this_now h_this_rules h_this_reports : Nat} {p0 : Int32} {x_this_count : Int32} {x_this_end : Int32} {x_this_z : Int32} {f_this_lights : Nat → Int32} {r : Int32} (hf : f_X3_lightAt p0 f_this_lights = some r) : mFi l G yX3_lightAt cX3_lightAt 2 .int 0 [.ref h_this, .int p0] [(h_this, ob 3 [.ref h_this_kinds, .ref h_this_trims, .ref h_this_lanes, .ref h_this_lights, .ref h_this_currents, .ref h_this_buoys, .ref h_this_now, .ref h_this_rules, .ref h_this_reports, .int x_this_count, .int x_this_end, .int x_this_z]), (h_this_lights, ia G 16 f_this_lights)] r [(h_this, ob 3 [.ref h_this_kinds, .ref h_this_trims, .ref h_this_lanes, .ref h_this_lights, .ref h_this_currents, .ref h_this_buoys, .ref h_this_now, .ref h_this_rules, .ref h_this_reports, .int x_this_count, .int x_this_end, .int x_this_z]), (h_this_lights, ia G 16 f_this_lights)] := by
  refine mFi.of (by decide +kernel) (Nat.le_of_ble_eq_true rfl) ?_
  intro p e s m below meth c A C hr hlk h ls hl
  obtain ⟨hx, hb, hml, hown, hts⟩ := id C
  replace hl : lv_has ls 2 [(0, .ref h_this), (1, .int p0)] := hl
  unfold f_X3_lightAt at hf
  refine lv_iload_n hx hb dX3_lightAt_0 rfl (lv_at hl 1 rfl) ?_
  refine lv_if_lt (tgt := 19) hx hb dX3_lightAt_1 rfl (fun c1 => ?_) (fun c1 => ?_)
  · replace hf := ifp c1 hf
    refine lv_iconst (v := (0 : Int32)) hx hb dX3_lightAt_19 rfl ?_
    cases hf
    exact r_iret C h hr hlk rfl dX3_lightAt_20
  · replace hf := ifn c1 hf
    refine lv_iload_n hx hb dX3_lightAt_4 rfl (lv_at hl 1 rfl) ?_
    refine lv_bipush (v := (16 : Int32)) hx hb dX3_lightAt_5 rfl ?_
    refine lv_icmp_ge (tgt := 19) hx hb dX3_lightAt_7 rfl (fun c2 => ?_) (fun c2 => ?_)
    · replace hf := ifp c2 hf
      refine lv_iconst (v := (0 : Int32)) hx hb dX3_lightAt_19 rfl ?_
      cases hf
      exact r_iret C h hr hlk rfl dX3_lightAt_20
    · replace hf := ifn c2 hf
      refine lv_aload_n hx hb dX3_lightAt_10 rfl (lv_at hl 0 rfl) ?_
      refine r_get C h fk_X3_21 0 rfl rfl dX3_lightAt_11 ?_
      refine lv_iload_n hx hb dX3_lightAt_14 rfl (lv_at hl 1 rfl) ?_
      replace hf := chkI_inv hf
      obtain ⟨hi3, hf⟩ := hf
      refine r_iald C h 1 rfl hi3 dX3_lightAt_15 ?_
      refine lv_goto (tgt := 20) hx hb dX3_lightAt_16 rfl ?_
      cases hf
      exact r_iret C h hr hlk rfl dX3_lightAt_20
set_option maxRecDepth 100000 in
set_option maxHeartbeats 4000000 in
theorem c_X8_nearsAlone {l : Launch} {G : Gt} {p0 : Int32} {p1 : Int32} {p2 : Int32} {r : Int32} (hf : f_X8_nearsAlone p0 p1 p2 = some r) : mFi l G yX8_nearsAlone cX8_nearsAlone 5 .int 0 [.int p0, .int p1, .int p2] ([] : va_W) r ([] : va_W) := by
  refine mFi.of (by decide +kernel) (Nat.le_of_ble_eq_true rfl) ?_
  intro p e s m below meth c A C hr hlk h ls hl
  obtain ⟨hx, hb, hml, hown, hts⟩ := id C
  replace hl : lv_has ls 5 [(0, .int p0), (1, .int p1), (2, .int p2)] := hl
  unfold f_X8_nearsAlone at hf
  refine lv_iload_n hx hb dX8_nearsAlone_0 rfl (lv_at hl 1 rfl) ?_
  refine lv_iconst (v := (2 : Int32)) hx hb dX8_nearsAlone_1 rfl ?_
  refine lv_ishr hx hb dX8_nearsAlone_2 ?_
  refine lv_topi (fun t1 et1 => ?_)
  replace hf := lt1_inv et1 hf
  refine lv_istore_n (lv' := [(3, .int t1), (0, .int p0), (1, .int p1), (2, .int p2)]) hx hb dX8_nearsAlone_3 rfl hl (by decide) rfl (fun ls hl => ?_)
  refine lv_iload_n hx hb dX8_nearsAlone_4 rfl (lv_at hl 2 rfl) ?_
  refine lv_iconst (v := (3 : Int32)) hx hb dX8_nearsAlone_5 rfl ?_
  refine lv_iand hx hb dX8_nearsAlone_6 ?_
  refine lv_topi (fun t2 et2 => ?_)
  replace hf := lt1_inv et2 hf
  refine lv_istore (lv' := [(4, .int t2), (3, .int t1), (0, .int p0), (1, .int p1), (2, .int p2)]) hx hb dX8_nearsAlone_7 hl (by decide) rfl (fun ls hl => ?_)
  refine lv_iload_n hx hb dX8_nearsAlone_9 rfl (lv_at hl 2 rfl) ?_
  by_cases c3 : p0 = (1 : Int32)
  · replace hf := ifp c3 hf
    refine r_tab (tgt := 44) C dX8_nearsAlone_10 (1 : Int32) c3 (by decide) rfl rfl ?_
    refine lv_iload_n hx hb dX8_nearsAlone_44 rfl (lv_at hl 1 rfl) ?_
    refine lv_iload hx hb dX8_nearsAlone_45 (lv_at hl 0 rfl) ?_
    refine lv_imul hx hb dX8_nearsAlone_47 ?_
    cases hf
    exact r_iret C h hr hlk rfl dX8_nearsAlone_48
  · replace hf := ifn c3 hf
    by_cases c4 : p0 = (2 : Int32)
    · replace hf := ifp c4 hf
      refine r_tab (tgt := 49) C dX8_nearsAlone_10 (2 : Int32) c4 (by decide) rfl rfl ?_
      refine lv_iconst (v := (2 : Int32)) hx hb dX8_nearsAlone_49 rfl ?_
      refine lv_iload_n hx hb dX8_nearsAlone_50 rfl (lv_at hl 1 rfl) ?_
      refine lv_imul hx hb dX8_nearsAlone_51 ?_
      cases hf
      exact r_iret C h hr hlk rfl dX8_nearsAlone_52
    · replace hf := ifn c4 hf
      by_cases c5 : p0 = (3 : Int32)
      · replace hf := ifp c5 hf
        refine r_tab (tgt := 53) C dX8_nearsAlone_10 (3 : Int32) c5 (by decide) rfl rfl ?_
        refine lv_iconst (v := (2 : Int32)) hx hb dX8_nearsAlone_53 rfl ?_
        refine lv_iload_n hx hb dX8_nearsAlone_54 rfl (lv_at hl 1 rfl) ?_
        refine lv_imul hx hb dX8_nearsAlone_55 ?_
        refine lv_iload hx hb dX8_nearsAlone_56 (lv_at hl 0 rfl) ?_
        refine lv_iadd hx hb dX8_nearsAlone_58 ?_
        cases hf
        exact r_iret C h hr hlk rfl dX8_nearsAlone_59
      · replace hf := ifn c5 hf
        by_cases c6 : p0 = (4 : Int32)
        · replace hf := ifp c6 hf
          refine r_tab (tgt := 60) C dX8_nearsAlone_10 (4 : Int32) c6 (by decide) rfl rfl ?_
          refine lv_iconst (v := (3 : Int32)) hx hb dX8_nearsAlone_60 rfl ?_
          refine lv_iload hx hb dX8_nearsAlone_61 (lv_at hl 0 rfl) ?_
          refine lv_iadd hx hb dX8_nearsAlone_63 ?_
          cases hf
          exact r_iret C h hr hlk rfl dX8_nearsAlone_64
        · replace hf := ifn c6 hf
          by_cases c7 : p0 = (5 : Int32)
          · replace hf := ifp c7 hf
            refine r_tab (tgt := 65) C dX8_nearsAlone_10 (5 : Int32) c7 (by decide) rfl rfl ?_
            refine lv_iload_n hx hb dX8_nearsAlone_65 rfl (lv_at hl 4 rfl) ?_
            refine lv_iconst (v := (3 : Int32)) hx hb dX8_nearsAlone_66 rfl ?_
            refine lv_irem hx hb dX8_nearsAlone_67 (by decide) ?_
            refine lv_if_ne (tgt := 75) hx hb dX8_nearsAlone_68 rfl (fun c8 => ?_) (fun c8 => ?_)
            · replace hf := ifn c8 hf
              refine lv_iconst (v := (3 : Int32)) hx hb dX8_nearsAlone_75 rfl ?_
              refine lv_iload hx hb dX8_nearsAlone_76 (lv_at hl 0 rfl) ?_
              refine lv_iadd hx hb dX8_nearsAlone_78 ?_
              cases hf
              exact r_iret C h hr hlk rfl dX8_nearsAlone_79
            · replace hf := ifp c8 hf
              refine lv_iconst (v := (0 : Int32)) hx hb dX8_nearsAlone_71 rfl ?_
              refine lv_goto (tgt := 79) hx hb dX8_nearsAlone_72 rfl ?_
              cases hf
              exact r_iret C h hr hlk rfl dX8_nearsAlone_79
          · replace hf := ifn c7 hf
            refine r_tabD (tgt := 80) C dX8_nearsAlone_10 [(1 : Int32), (2 : Int32), (3 : Int32), (4 : Int32), (5 : Int32)] (by decide) (nel_c c3 (nel_c c4 (nel_c c5 (nel_c c6 (nel_c c7 nel_0))))) rfl ?_
            refine lv_iconst (v := (2 : Int32)) hx hb dX8_nearsAlone_80 rfl ?_
            refine lv_iload_n hx hb dX8_nearsAlone_81 rfl (lv_at hl 1 rfl) ?_
            refine lv_iadd hx hb dX8_nearsAlone_82 ?_
            cases hf
            exact r_iret C h hr hlk rfl dX8_nearsAlone_83
set_option maxRecDepth 100000 in
set_option maxHeartbeats 4000000 in
theorem c_X3_nears {l : Launch} {G : Gt} {h_a0 h_a0_off h_this h_this_kinds h_this_trims h_this_lanes h_this_lights h_this_currents h_this_buoys h_this_now h_this_rules h_this_reports : Nat} {p1 : Int32} {x_a0_watch : Int32} {x_a0_score : Int32} {x_a0_home : Int32} {x_this_count : Int32} {x_this_end : Int32} {x_this_z : Int32} {f_this_currents : Nat → Int32} {f_this_kinds : Nat → Int32} {f_this_lanes : Nat → Int32} {f_this_lights : Nat → Int32} {r : Int32} (hf : f_X3_nears p1 x_a0_watch x_a0_home x_this_count f_this_currents f_this_kinds f_this_lanes f_this_lights = some r) : mFi l G yX3_nears cX3_nears 5 .int 1 [.ref h_this, .ref h_a0, .int p1] [(h_a0, ob 6 [.ref h_a0_off, .int x_a0_watch, .int x_a0_score, .int x_a0_home]), (h_this, ob 3 [.ref h_this_kinds, .ref h_this_trims, .ref h_this_lanes, .ref h_this_lights, .ref h_this_currents, .ref h_this_buoys, .ref h_this_now, .ref h_this_rules, .ref h_this_reports, .int x_this_count, .int x_this_end, .int x_this_z]), (h_this_currents, ia G 6 f_this_currents), (h_this_kinds, ia G 6 f_this_kinds), (h_this_lanes, ia G 6 f_this_lanes), (h_this_lights, ia G 16 f_this_lights)] r [(h_a0, ob 6 [.ref h_a0_off, .int x_a0_watch, .int x_a0_score, .int x_a0_home]), (h_this, ob 3 [.ref h_this_kinds, .ref h_this_trims, .ref h_this_lanes, .ref h_this_lights, .ref h_this_currents, .ref h_this_buoys, .ref h_this_now, .ref h_this_rules, .ref h_this_reports, .int x_this_count, .int x_this_end, .int x_this_z]), (h_this_currents, ia G 6 f_this_currents), (h_this_kinds, ia G 6 f_this_kinds), (h_this_lanes, ia G 6 f_this_lanes), (h_this_lights, ia G 16 f_this_lights)] := by
  refine mFi.of (by decide +kernel) (Nat.le_of_ble_eq_true rfl) ?_
  intro p e s m below meth c A C hr hlk h ls hl
  obtain ⟨hx, hb, hml, hown, hts⟩ := id C
  replace hl : lv_has ls 5 [(0, .ref h_this), (1, .ref h_a0), (2, .int p1)] := hl
  unfold f_X3_nears at hf
  refine with_K G A 5 (fun K hK1 hK2 => ?_)
  have L37 : ∀ (n : Nat) (v3 : Int32) (v4 : Int32), f_X3_nears_L37 p1 x_a0_home x_this_count f_this_lanes n v3 v4 = some r → K 37 ([] : List Value) [(h_a0, ob 6 [.ref h_a0_off, .int x_a0_watch, .int x_a0_score, .int x_a0_home]), (h_this, ob 3 [.ref h_this_kinds, .ref h_this_trims, .ref h_this_lanes, .ref h_this_lights, .ref h_this_currents, .ref h_this_buoys, .ref h_this_now, .ref h_this_rules, .ref h_this_reports, .int x_this_count, .int x_this_end, .int x_this_z]), (h_this_currents, ia G 6 f_this_currents), (h_this_kinds, ia G 6 f_this_kinds), (h_this_lanes, ia G 6 f_this_lanes), (h_this_lights, ia G 16 f_this_lights)] [(0, .ref h_this), (1, .ref h_a0), (2, .int p1), (3, .int v3), (4, .int v4)] := by
    intro n
    induction n with
    | zero =>
      intro v3 v4 hf
      replace hf : (none : Option _) = some _ := hf
      cases hf
    | succ n ih =>
      intro v3 v4 hf
      rw [f_X3_nears_L37] at hf
      refine hK1 _ _ _ _ (fun H locs ls h hl => ?_)
      refine lv_iload hx hb dX3_nears_37 (lv_at hl 4 rfl) ?_
      refine lv_aload_n hx hb dX3_nears_39 rfl (lv_at hl 0 rfl) ?_
      refine r_get C h fk_X3_51 1 rfl rfl dX3_nears_40 ?_
      refine lv_icmp_ge (tgt := 86) hx hb dX3_nears_43 rfl (fun c9 => ?_) (fun c9 => ?_)
      · replace hf := ifp c9 hf
        refine lv_iconst (v := (0 : Int32)) hx hb dX3_nears_86 rfl ?_
        refine lv_iload_n hx hb dX3_nears_87 rfl (lv_at hl 3 rfl) ?_
        refine r_imax C mx_X3_104 hl.1 (Nat.le_of_ble_eq_true rfl) (Nat.le_of_ble_eq_true rfl) dX3_nears_88 ?_
        cases hf
        exact r_iret C h hr hlk rfl dX3_nears_91
      · replace hf := ifn c9 hf
        refine lv_iload hx hb dX3_nears_46 (lv_at hl 4 rfl) ?_
        refine lv_iload_n hx hb dX3_nears_48 rfl (lv_at hl 2 rfl) ?_
        refine lv_icmp_eq (tgt := 80) hx hb dX3_nears_49 rfl (fun c10 => ?_) (fun c10 => ?_)
        · replace hf := ifp c10 hf
          obtain ⟨t11, et11⟩ : ∃ y : Int32, y = v4 + (1 : Int32) := ⟨_, rfl⟩
          replace hf := lt1_inv et11 hf
          refine lv_iinc (v := t11) (lv' := [(4, .int t11), (0, .ref h_this), (1, .ref h_a0), (2, .int p1), (3, .int v3)]) hx hb dX3_nears_80 hl (k := 4) rfl (by rw [et11]; rfl) (by decide) rfl (fun ls hl => ?_)
          refine lv_goto (tgt := 37) hx hb dX3_nears_83 rfl ?_
          exact hK2 _ _ _ _ (ih v3 t11 hf) _ _ _ h (lv_sub hl [1, 2, 3, 4, 0] rfl)
        · replace hf := ifn c10 hf
          refine lv_aload_n hx hb dX3_nears_52 rfl (lv_at hl 0 rfl) ?_
          refine r_get C h fk_X3_18 1 rfl rfl dX3_nears_53 ?_
          refine lv_iload hx hb dX3_nears_56 (lv_at hl 4 rfl) ?_
          replace hf := chkI_inv hf
          obtain ⟨hi12, hf⟩ := hf
          refine r_iald C h 4 rfl hi12 dX3_nears_58 ?_
          refine lv_aload_n hx hb dX3_nears_59 rfl (lv_at hl 0 rfl) ?_
          refine r_get C h fk_X3_18 1 rfl rfl dX3_nears_60 ?_
          refine lv_iload_n hx hb dX3_nears_63 rfl (lv_at hl 2 rfl) ?_
          replace hf := chkI_inv hf
          obtain ⟨hi13, hf⟩ := hf
          refine r_iald C h 4 rfl hi13 dX3_nears_64 ?_
          refine lv_icmp_ne (tgt := 80) hx hb dX3_nears_65 rfl (fun c14 => ?_) (fun c14 => ?_)
          · replace hf := ifn c14 hf
            obtain ⟨t15, et15⟩ : ∃ y : Int32, y = v4 + (1 : Int32) := ⟨_, rfl⟩
            replace hf := lt1_inv et15 hf
            refine lv_iinc (v := t15) (lv' := [(4, .int t15), (0, .ref h_this), (1, .ref h_a0), (2, .int p1), (3, .int v3)]) hx hb dX3_nears_80 hl (k := 4) rfl (by rw [et15]; rfl) (by decide) rfl (fun ls hl => ?_)
            refine lv_goto (tgt := 37) hx hb dX3_nears_83 rfl ?_
            exact hK2 _ _ _ _ (ih v3 t15 hf) _ _ _ h (lv_sub hl [1, 2, 3, 4, 0] rfl)
          · replace hf := ifp c14 hf
            refine lv_aload_n hx hb dX3_nears_68 rfl (lv_at hl 1 rfl) ?_
            refine lv_iload hx hb dX3_nears_69 (lv_at hl 4 rfl) ?_
            replace hf := bd1_inv hf
            obtain ⟨r16, hc17, hf⟩ := hf
            refine r_ciV0 C h (c_X6_isHome hc17) mv_X3_101 rfl 0 rfl [0] rfl rfl hl.1 rfl (Nat.le_of_ble_eq_true rfl) (rok (by decide)) dX3_nears_71 (fun H locs h => ?_)
            refine lv_if_ne (tgt := 80) hx hb dX3_nears_74 rfl (fun c18 => ?_) (fun c18 => ?_)
            · replace hf := ifn c18 hf
              obtain ⟨t19, et19⟩ : ∃ y : Int32, y = v4 + (1 : Int32) := ⟨_, rfl⟩
              replace hf := lt1_inv et19 hf
              refine lv_iinc (v := t19) (lv' := [(4, .int t19), (0, .ref h_this), (1, .ref h_a0), (2, .int p1), (3, .int v3)]) hx hb dX3_nears_80 hl (k := 4) rfl (by rw [et19]; rfl) (by decide) rfl (fun ls hl => ?_)
              refine lv_goto (tgt := 37) hx hb dX3_nears_83 rfl ?_
              exact hK2 _ _ _ _ (ih v3 t19 hf) _ _ _ h (lv_sub hl [1, 2, 3, 4, 0] rfl)
            · replace hf := ifp c18 hf
              obtain ⟨t20, et20⟩ : ∃ y : Int32, y = v3 + (-1 : Int32) := ⟨_, rfl⟩
              replace hf := lt1_inv et20 hf
              refine lv_iinc (v := t20) (lv' := [(3, .int t20), (0, .ref h_this), (1, .ref h_a0), (2, .int p1), (4, .int v4)]) hx hb dX3_nears_77 hl (k := 3) rfl (by rw [et20]; rfl) (by decide) rfl (fun ls hl => ?_)
              obtain ⟨t21, et21⟩ : ∃ y : Int32, y = v4 + (1 : Int32) := ⟨_, rfl⟩
              replace hf := lt1_inv et21 hf
              refine lv_iinc (v := t21) (lv' := [(4, .int t21), (3, .int t20), (0, .ref h_this), (1, .ref h_a0), (2, .int p1)]) hx hb dX3_nears_80 hl (k := 4) rfl (by rw [et21]; rfl) (by decide) rfl (fun ls hl => ?_)
              refine lv_goto (tgt := 37) hx hb dX3_nears_83 rfl ?_
              exact hK2 _ _ _ _ (ih t20 t21 hf) _ _ _ h (lv_sub hl [2, 3, 4, 1, 0] rfl)
  refine lv_aload_n hx hb dX3_nears_0 rfl (lv_at hl 0 rfl) ?_
  refine r_get C h fk_X3_9 1 rfl rfl dX3_nears_1 ?_
  refine lv_iload_n hx hb dX3_nears_4 rfl (lv_at hl 2 rfl) ?_
  replace hf := chkI_inv hf
  obtain ⟨hi1, hf⟩ := hf
  refine r_iald C h 3 rfl hi1 dX3_nears_5 ?_
  refine lv_aload_n hx hb dX3_nears_6 rfl (lv_at hl 0 rfl) ?_
  refine lv_aload_n hx hb dX3_nears_7 rfl (lv_at hl 1 rfl) ?_
  refine r_get C h fk_X3_83 0 rfl rfl dX3_nears_8 ?_
  replace hf := bd1_inv hf
  obtain ⟨r2, hc3, hf⟩ := hf
  refine r_ciV0 C h (c_X3_lightAt hc3) mv_X3_93 rfl 1 rfl [1, 5] rfl rfl hl.1 rfl (Nat.le_of_ble_eq_true rfl) (rok (by decide)) dX3_nears_11 (fun H locs h => ?_)
  refine lv_aload_n hx hb dX3_nears_14 rfl (lv_at hl 1 rfl) ?_
  refine r_get C h fk_X3_83 0 rfl rfl dX3_nears_15 ?_
  replace hf := bd1_inv hf
  obtain ⟨r4, hc5, hf⟩ := hf
  refine r_ciN0 C h (c_X8_nearsAlone hc5) mn_X3_97 rfl [] rfl rfl hl.1 rfl (Nat.le_of_ble_eq_true rfl) (rok (by decide)) dX3_nears_18 (fun H locs h => ?_)
  refine lv_aload_n hx hb dX3_nears_21 rfl (lv_at hl 0 rfl) ?_
  refine r_get C h fk_X3_24 1 rfl rfl dX3_nears_22 ?_
  refine lv_aload_n hx hb dX3_nears_25 rfl (lv_at hl 0 rfl) ?_
  refine r_get C h fk_X3_18 1 rfl rfl dX3_nears_26 ?_
  refine lv_iload_n hx hb dX3_nears_29 rfl (lv_at hl 2 rfl) ?_
  replace hf := chkI_inv hf
  obtain ⟨hi6, hf⟩ := hf
  refine r_iald C h 4 rfl hi6 dX3_nears_30 ?_
  replace hf := chkI_inv hf
  obtain ⟨hi7, hf⟩ := hf
  refine r_iald C h 2 rfl hi7 dX3_nears_31 ?_
  refine lv_iadd hx hb dX3_nears_32 ?_
  refine lv_topi (fun t8 et8 => ?_)
  replace hf := lt1_inv et8 hf
  refine lv_istore_n (lv' := [(3, .int t8), (0, .ref h_this), (1, .ref h_a0), (2, .int p1)]) hx hb dX3_nears_33 rfl hl (by decide) rfl (fun ls hl => ?_)
  refine lv_iconst (v := (0 : Int32)) hx hb dX3_nears_34 rfl ?_
  refine lv_istore (lv' := [(4, .int (0 : Int32)), (3, .int t8), (0, .ref h_this), (1, .ref h_a0), (2, .int p1)]) hx hb dX3_nears_35 hl (by decide) rfl (fun ls hl => ?_)
  exact hK2 _ _ _ _ (L37 1000 t8 (0 : Int32) hf) _ _ _ h (lv_sub hl [2, 3, 4, 1, 0] rfl)
set_option maxRecDepth 100000 in
set_option maxHeartbeats 4000000 in
theorem c_X8_reachesAlone {l : Launch} {G : Gt} {p0 : Int32} {p1 : Int32} {p2 : Int32} {r : Int32} (hf : f_X8_reachesAlone p0 p1 p2 = some r) : mFi l G yX8_reachesAlone cX8_reachesAlone 5 .int 1 [.int p0, .int p1, .int p2] ([] : va_W) r ([] : va_W) := by
  refine mFi.of (by decide +kernel) (Nat.le_of_ble_eq_true rfl) ?_
  intro p e s m below meth c A C hr hlk h ls hl
  obtain ⟨hx, hb, hml, hown, hts⟩ := id C
  replace hl : lv_has ls 5 [(0, .int p0), (1, .int p1), (2, .int p2)] := hl
  unfold f_X8_reachesAlone at hf
  refine lv_iload_n hx hb dX8_reachesAlone_0 rfl (lv_at hl 2 rfl) ?_
  refine lv_iconst (v := (2 : Int32)) hx hb dX8_reachesAlone_1 rfl ?_
  refine lv_ishr hx hb dX8_reachesAlone_2 ?_
  refine lv_topi (fun t1 et1 => ?_)
  replace hf := lt1_inv et1 hf
  refine lv_istore_n (lv' := [(3, .int t1), (0, .int p0), (1, .int p1), (2, .int p2)]) hx hb dX8_reachesAlone_3 rfl hl (by decide) rfl (fun ls hl => ?_)
  refine lv_bipush (v := (10 : Int32)) hx hb dX8_reachesAlone_4 rfl ?_
  refine lv_iconst (v := (2 : Int32)) hx hb dX8_reachesAlone_6 rfl ?_
  refine lv_iload_n hx hb dX8_reachesAlone_7 rfl (lv_at hl 2 rfl) ?_
  refine lv_imul hx hb dX8_reachesAlone_8 ?_
  refine lv_iadd hx hb dX8_reachesAlone_9 ?_
  refine lv_topi (fun t2 et2 => ?_)
  replace hf := lt1_inv et2 hf
  refine lv_istore (lv' := [(4, .int t2), (3, .int t1), (0, .int p0), (1, .int p1), (2, .int p2)]) hx hb dX8_reachesAlone_10 hl (by decide) rfl (fun ls hl => ?_)
  refine lv_iload_n hx hb dX8_reachesAlone_12 rfl (lv_at hl 2 rfl) ?_
  by_cases c3 : p0 = (1 : Int32)
  · replace hf := ifp c3 hf
    refine r_tab (tgt := 48) C dX8_reachesAlone_13 (1 : Int32) c3 (by decide) rfl rfl ?_
    refine lv_bipush (v := (20 : Int32)) hx hb dX8_reachesAlone_48 rfl ?_
    cases hf
    exact r_iret C h hr hlk rfl dX8_reachesAlone_50
  · replace hf := ifn c3 hf
    by_cases c4 : p0 = (2 : Int32)
    · replace hf := ifp c4 hf
      refine r_tab (tgt := 51) C dX8_reachesAlone_13 (2 : Int32) c4 (by decide) rfl rfl ?_
      refine lv_iload hx hb dX8_reachesAlone_51 (lv_at hl 0 rfl) ?_
      refine lv_iconst (v := (5 : Int32)) hx hb dX8_reachesAlone_53 rfl ?_
      refine lv_iadd hx hb dX8_reachesAlone_54 ?_
      cases hf
      exact r_iret C h hr hlk rfl dX8_reachesAlone_55
    · replace hf := ifn c4 hf
      by_cases c5 : p0 = (3 : Int32)
      · replace hf := ifp c5 hf
        refine r_tab (tgt := 56) C dX8_reachesAlone_13 (3 : Int32) c5 (by decide) rfl rfl ?_
        refine lv_iconst (v := (0 : Int32)) hx hb dX8_reachesAlone_56 rfl ?_
        refine lv_iload hx hb dX8_reachesAlone_57 (lv_at hl 0 rfl) ?_
        refine lv_iconst (v := (5 : Int32)) hx hb dX8_reachesAlone_59 rfl ?_
        refine lv_iadd hx hb dX8_reachesAlone_60 ?_
        refine lv_iconst (v := (3 : Int32)) hx hb dX8_reachesAlone_61 rfl ?_
        refine lv_iload_n hx hb dX8_reachesAlone_62 rfl (lv_at hl 1 rfl) ?_
        refine lv_imul hx hb dX8_reachesAlone_63 ?_
        refine lv_isub hx hb dX8_reachesAlone_64 ?_
        refine r_imax C mx_X8_378 hl.1 (Nat.le_of_ble_eq_true rfl) (Nat.le_of_ble_eq_true rfl) dX8_reachesAlone_65 ?_
        cases hf
        exact r_iret C h hr hlk rfl dX8_reachesAlone_68
      · replace hf := ifn c5 hf
        by_cases c6 : p0 = (4 : Int32)
        · replace hf := ifp c6 hf
          refine r_tab (tgt := 69) C dX8_reachesAlone_13 (4 : Int32) c6 (by decide) rfl rfl ?_
          refine lv_iload hx hb dX8_reachesAlone_69 (lv_at hl 0 rfl) ?_
          refine lv_iconst (v := (3 : Int32)) hx hb dX8_reachesAlone_71 rfl ?_
          refine lv_iload_n hx hb dX8_reachesAlone_72 rfl (lv_at hl 1 rfl) ?_
          refine lv_imul hx hb dX8_reachesAlone_73 ?_
          refine lv_iadd hx hb dX8_reachesAlone_74 ?_
          cases hf
          exact r_iret C h hr hlk rfl dX8_reachesAlone_75
        · replace hf := ifn c6 hf
          by_cases c7 : p0 = (5 : Int32)
          · replace hf := ifp c7 hf
            refine r_tab (tgt := 76) C dX8_reachesAlone_13 (5 : Int32) c7 (by decide) rfl rfl ?_
            refine lv_iload hx hb dX8_reachesAlone_76 (lv_at hl 0 rfl) ?_
            refine lv_iconst (v := (3 : Int32)) hx hb dX8_reachesAlone_78 rfl ?_
            refine lv_iload_n hx hb dX8_reachesAlone_79 rfl (lv_at hl 1 rfl) ?_
            refine lv_imul hx hb dX8_reachesAlone_80 ?_
            refine lv_iadd hx hb dX8_reachesAlone_81 ?_
            refine lv_iconst (v := (2 : Int32)) hx hb dX8_reachesAlone_82 rfl ?_
            refine lv_idiv hx hb dX8_reachesAlone_83 (by decide) ?_
            cases hf
            exact r_iret C h hr hlk rfl dX8_reachesAlone_84
          · replace hf := ifn c7 hf
            refine r_tabD (tgt := 85) C dX8_reachesAlone_13 [(1 : Int32), (2 : Int32), (3 : Int32), (4 : Int32), (5 : Int32)] (by decide) (nel_c c3 (nel_c c4 (nel_c c5 (nel_c c6 (nel_c c7 nel_0))))) rfl ?_
            refine lv_iload hx hb dX8_reachesAlone_85 (lv_at hl 0 rfl) ?_
            cases hf
            exact r_iret C h hr hlk rfl dX8_reachesAlone_87
