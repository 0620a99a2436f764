def f_X1_duelOf (p1 : Int32) (x_a0_count : Int32) (x_a0_end : Int32) (f_a0_buoys : Nat → Int32) (f_a0_currents : Nat → Int32) (f_a0_kinds : Nat → Int32) (f_a0_lanes : Nat → Int32) (f_a0_lights : Nat → Int32) (x_a0_now_watch : Int32) (x_a0_now_score : Int32) (x_a0_now_home : Int32) (f_a0_now_off : Nat → Int32) (x_a0_rules_count : Int32) (f_a0_rules_begins : Nat → Int32) (f_a0_rules_deeds : Nat → Int32) (f_a0_rules_facts : Nat → Int32) (f_a0_rules_kinds : Nat → Int32) (f_a0_rules_lefts : Nat → Int32) (f_a0_rules_rights : Nat → Int32) (f_a0_rules_steps : Nat → Int32) (f_a0_trims : Nat → Int32) (f_this_acts : Nat → Int32) (f_this_ahead_0_off : Nat → Int32) (x_this_ahead_1_watch : Int32) (x_this_ahead_1_score : Int32) (x_this_ahead_1_home : Int32) (f_this_ahead_1_off : Nat → Int32) (x_this_ahead_2_watch : Int32) (x_this_ahead_2_score : Int32) (x_this_ahead_2_home : Int32) (f_this_ahead_2_off : Nat → Int32) (x_this_ahead_3_watch : Int32) (x_this_ahead_3_score : Int32) (x_this_ahead_3_home : Int32) (f_this_ahead_3_off : Nat → Int32) (x_this_ahead_4_watch : Int32) (x_this_ahead_4_score : Int32) (x_this_ahead_4_home : Int32) (f_this_ahead_4_off : Nat → Int32) : Option (Int32 × (Nat → Int32) × Int32 × (Nat → Int32) × Int32 × Int32 × Int32 × (Nat → Int32) × Int32 × Int32 × Int32 × (Nat → Int32) × Int32 × Int32 × Int32 × (Nat → Int32) × Int32 × Int32 × Int32 × (Nat → Int32) × Int32 × Int32 × Int32 × (Nat → Int32)) := bd5 (f_X1_begin p1 x_a0_end x_a0_now_watch x_a0_now_score x_a0_now_home f_a0_now_off f_this_ahead_0_off) (fun y1 y2 y3 y4 g5 => bd19 (f_X1_duel_0 x_a0_count f_a0_buoys f_a0_currents f_a0_kinds f_a0_lanes f_a0_lights x_a0_rules_count f_a0_rules_begins f_a0_rules_deeds f_a0_rules_facts f_a0_rules_kinds f_a0_rules_lefts f_a0_rules_rights f_a0_rules_steps f_a0_trims y1 f_this_acts y2 y3 y4 g5 x_this_ahead_1_watch x_this_ahead_1_score x_this_ahead_1_home f_this_ahead_1_off x_this_ahead_2_watch x_this_ahead_2_score x_this_ahead_2_home f_this_ahead_2_off x_this_ahead_3_watch x_this_ahead_3_score x_this_ahead_3_home f_this_ahead_3_off x_this_ahead_4_watch x_this_ahead_4_score x_this_ahead_4_home f_this_ahead_4_off) (fun r7 g8 g9 y10 y11 y12 g13 y14 y15 y16 g17 y18 y19 y20 g21 y22 y23 y24 g25 => some (r7, g8, y1, g9, y2, y3, y4, g5, y10, y11, y12, g13, y14, y15, y16, g17, y18, y19, y20, g21, y22, y23, y24, g25)))
set_option maxRecDepth 100000 in
set_option maxHeartbeats 4000000 in
theorem c_X1_duelOf {l : Launch} {G : Gt} {h_a0 h_a0_kinds h_a0_trims h_a0_lanes h_a0_lights h_a0_currents h_a0_buoys h_a0_now h_a0_rules h_a0_reports h_a0_now_off h_a0_rules_kinds h_a0_rules_deeds h_a0_rules_begins h_a0_rules_steps h_a0_rules_lefts h_a0_rules_rights h_a0_rules_facts h_this h_this_ahead h_this_acts h_this_first h_this_ahead_0 h_this_ahead_1 h_this_ahead_2 h_this_ahead_3 h_this_ahead_4 h_this_ahead_0_off h_this_ahead_1_off h_this_ahead_2_off h_this_ahead_3_off h_this_ahead_4_off : Nat} {p1 : Int32} {x_a0_count : Int32} {x_a0_end : Int32} {x_a0_z : Int32} {f_a0_buoys : Nat → Int32} {f_a0_currents : Nat → Int32} {f_a0_kinds : Nat → Int32} {f_a0_lanes : Nat → Int32} {f_a0_lights : Nat → Int32} {x_a0_now_watch : Int32} {x_a0_now_score : Int32} {x_a0_now_home : Int32} {f_a0_now_off : Nat → Int32} {x_a0_rules_count : Int32} {x_a0_rules_size : Int32} {f_a0_rules_begins : Nat → Int32} {f_a0_rules_deeds : Nat → Int32} {f_a0_rules_facts : Nat → Int32} {f_a0_rules_kinds : Nat → Int32} {f_a0_rules_lefts : Nat → Int32} {f_a0_rules_rights : Nat → Int32} {f_a0_rules_steps : Nat → Int32} {f_a0_trims : Nat → Int32} {x_this_length : Int32} {x_this_wanted : Int32} {x_this_best : Int32} {x_this_ways : Int32} {x_this_fewest : Int32} {x_this_everHome : Int32} {f_this_acts : Nat → Int32} {x_this_ahead_0_watch : Int32} {x_this_ahead_0_score : Int32} {x_this_ahead_0_home : Int32} {f_this_ahead_0_off : Nat → Int32} {x_this_ahead_1_watch : Int32} {x_this_ahead_1_score : Int32} {x_this_ahead_1_home : Int32} {f_this_ahead_1_off : Nat → Int32} {x_this_ahead_2_watch : Int32} {x_this_ahead_2_score : Int32} {x_this_ahead_2_home : Int32} {f_this_ahead_2_off : Nat → Int32} {x_this_ahead_3_watch : Int32} {x_this_ahead_3_score : Int32} {x_this_ahead_3_home : Int32} {f_this_ahead_3_off : Nat → Int32} {x_this_ahead_4_watch : Int32} {x_this_ahead_4_score : Int32} {x_this_ahead_4_home : Int32} {f_this_ahead_4_off : Nat → Int32} {r : Int32} {m_a0_rules_facts : Nat → Int32} {m_this_length : Int32} {m_this_acts : Nat → Int32} {m_this_ahead_0_watch : Int32} {m_this_ahead_0_score : Int32} {m_this_ahead_0_home : Int32} {m_this_ahead_0_off : Nat → Int32} {m_this_ahead_1_watch : Int32} {m_this_ahead_1_score : Int32} {m_this_ahead_1_home : Int32} {m_this_ahead_1_off : Nat → Int32} {m_this_ahead_2_watch : Int32} {m_this_ahead_2_score : Int32} {m_this_ahead_2_home : Int32} {m_this_ahead_2_off : Nat → Int32} {m_this_ahead_3_watch : Int32} {m_this_ahead_3_score : Int32} {m_this_ahead_3_home : Int32} {m_this_ahead_3_off : Nat → Int32} {m_this_ahead_4_watch : Int32} {m_this_ahead_4_score : Int32} {m_this_ahead_4_home : Int32} {m_this_ahead_4_off : Nat → Int32} (hf : f_X1_duelOf p1 x_a0_count x_a0_end f_a0_buoys f_a0_currents f_a0_kinds f_a0_lanes f_a0_lights x_a0_now_watch x_a0_now_score x_a0_now_home f_a0_now_off x_a0_rules_count f_a0_rules_begins f_a0_rules_deeds f_a0_rules_facts f_a0_rules_kinds f_a0_rules_lefts f_a0_rules_rights f_a0_rules_steps f_a0_trims f_this_acts f_this_ahead_0_off x_this_ahead_1_watch x_this_ahead_1_score x_this_ahead_1_home f_this_ahead_1_off x_this_ahead_2_watch x_this_ahead_2_score x_this_ahead_2_home f_this_ahead_2_off x_this_ahead_3_watch x_this_ahead_3_score x_this_ahead_3_home f_this_ahead_3_off x_this_ahead_4_watch x_this_ahead_4_score x_this_ahead_4_home f_this_ahead_4_off = some (r, m_a0_rules_facts, m_this_length, m_this_acts, m_this_ahead_0_watch, m_this_ahead_0_score, m_this_ahead_0_home, m_this_ahead_0_off, m_this_ahead_1_watch, m_this_ahead_1_score, m_this_ahead_1_home, m_this_ahead_1_off, m_this_ahead_2_watch, m_this_ahead_2_score, m_this_ahead_2_home, m_this_ahead_2_off, m_this_ahead_3_watch, m_this_ahead_3_score, m_this_ahead_3_home, m_this_ahead_3_off, m_this_ahead_4_watch, m_this_ahead_4_score, m_this_ahead_4_home, m_this_ahead_4_off)) : mFi l G yX1_duelOf cX1_duelOf 3 .int 10 [.ref h_this, .ref h_a0, .int p1] [(h_a0, ob 3 [.ref h_a0_kinds, .ref h_a0_trims, .ref h_a0_lanes, .ref h_a0_lights, .ref h_a0_currents, .ref h_a0_buoys, .ref h_a0_now, .ref h_a0_rules, .ref h_a0_reports, .int x_a0_count, .int x_a0_end, .int x_a0_z]), (h_a0_buoys, ia G 6 f_a0_buoys), (h_a0_currents, ia G 6 f_a0_currents), (h_a0_kinds, ia G 6 f_a0_kinds), (h_a0_lanes, ia G 6 f_a0_lanes), (h_a0_lights, ia G 16 f_a0_lights), (h_a0_now, ob 6 [.ref h_a0_now_off, .int x_a0_now_watch, .int x_a0_now_score, .int x_a0_now_home]), (h_a0_now_off, ia G 6 f_a0_now_off), (h_a0_rules, ob 5 [.ref h_a0_rules_kinds, .ref h_a0_rules_deeds, .ref h_a0_rules_begins, .ref h_a0_rules_steps, .ref h_a0_rules_lefts, .ref h_a0_rules_rights, .ref h_a0_rules_facts, .int x_a0_rules_count, .int x_a0_rules_size]), (h_a0_rules_begins, ia G 9 f_a0_rules_begins), (h_a0_rules_deeds, ia G 8 f_a0_rules_deeds), (h_a0_rules_facts, ia G 5 f_a0_rules_facts), (h_a0_rules_kinds, ia G 8 f_a0_rules_kinds), (h_a0_rules_lefts, ia G 200 f_a0_rules_lefts), (h_a0_rules_rights, ia G 200 f_a0_rules_rights), (h_a0_rules_steps, ia G 200 f_a0_rules_steps), (h_a0_trims, ia G 6 f_a0_trims), (h_this, ob 1 [.ref h_this_ahead, .ref h_this_acts, .ref h_this_first, .int x_this_length, .int x_this_wanted, .int x_this_best, .int x_this_ways, .int x_this_fewest, .int x_this_everHome]), (h_this_acts, ia G 4 f_this_acts), (h_this_ahead, ra G 5 (rl5 h_this_ahead_0 h_this_ahead_1 h_this_ahead_2 h_this_ahead_3 h_this_ahead_4)), (h_this_ahead_0, ob 6 [.ref h_this_ahead_0_off, .int x_this_ahead_0_watch, .int x_this_ahead_0_score, .int x_this_ahead_0_home]), (h_this_ahead_0_off, ia G 6 f_this_ahead_0_off), (h_this_ahead_1, ob 6 [.ref h_this_ahead_1_off, .int x_this_ahead_1_watch, .int x_this_ahead_1_score, .int x_this_ahead_1_home]), (h_this_ahead_1_off, ia G 6 f_this_ahead_1_off), (h_this_ahead_2, ob 6 [.ref h_this_ahead_2_off, .int x_this_ahead_2_watch, .int x_this_ahead_2_score, .int x_this_ahead_2_home]), (h_this_ahead_2_off, ia G 6 f_this_ahead_2_off), (h_this_ahead_3, ob 6 [.ref h_this_ahead_3_off, .int x_this_ahead_3_watch, .int x_this_ahead_3_score, .int x_this_ahead_3_home]), (h_this_ahead_3_off, ia G 6 f_this_ahead_3_off), (h_this_ahead_4, ob 6 [.ref h_this_ahead_4_off, .int x_this_ahead_4_watch, .int x_this_ahead_4_score, .int x_this_ahead_4_home]), (h_this_ahead_4_off, ia G 6 f_this_ahead_4_off)] r [(h_a0, ob 3 [.ref h_a0_kinds, .ref h_a0_trims, .ref h_a0_lanes, .ref h_a0_lights, .ref h_a0_currents, .ref h_a0_buoys, .ref h_a0_now, .ref h_a0_rules, .ref h_a0_reports, .int x_a0_count, .int x_a0_end, .int x_a0_z]), (h_a0_buoys, ia G 6 f_a0_buoys), (h_a0_currents, ia G 6 f_a0_currents), (h_a0_kinds, ia G 6 f_a0_kinds), (h_a0_lanes, ia G 6 f_a0_lanes), (h_a0_lights, ia G 16 f_a0_lights), (h_a0_now, ob 6 [.ref h_a0_now_off, .int x_a0_now_watch, .int x_a0_now_score, .int x_a0_now_home]), (h_a0_now_off, ia G 6 f_a0_now_off), (h_a0_rules, ob 5 [.ref h_a0_rules_kinds, .ref h_a0_rules_deeds, .ref h_a0_rules_begins, .ref h_a0_rules_steps, .ref h_a0_rules_lefts, .ref h_a0_rules_rights, .ref h_a0_rules_facts, .int x_a0_rules_count, .int x_a0_rules_size]), (h_a0_rules_begins, ia G 9 f_a0_rules_begins), (h_a0_rules_deeds, ia G 8 f_a0_rules_deeds), (h_a0_rules_facts, ia G 5 m_a0_rules_facts), (h_a0_rules_kinds, ia G 8 f_a0_rules_kinds), (h_a0_rules_lefts, ia G 200 f_a0_rules_lefts), (h_a0_rules_rights, ia G 200 f_a0_rules_rights), (h_a0_rules_steps, ia G 200 f_a0_rules_steps), (h_a0_trims, ia G 6 f_a0_trims), (h_this, ob 1 [.ref h_this_ahead, .ref h_this_acts, .ref h_this_first, .int m_this_length, .int x_this_wanted, .int x_this_best, .int x_this_ways, .int x_this_fewest, .int x_this_everHome]), (h_this_acts, ia G 4 m_this_acts), (h_this_ahead, ra G 5 (rl5 h_this_ahead_0 h_this_ahead_1 h_this_ahead_2 h_this_ahead_3 h_this_ahead_4)), (h_this_ahead_0, ob 6 [.ref h_this_ahead_0_off, .int m_this_ahead_0_watch, .int m_this_ahead_0_score, .int m_this_ahead_0_home]), (h_this_ahead_0_off, ia G 6 m_this_ahead_0_off), (h_this_ahead_1, ob 6 [.ref h_this_ahead_1_off, .int m_this_ahead_1_watch, .int m_this_ahead_1_score, .int m_this_ahead_1_home]), (h_this_ahead_1_off, ia G 6 m_this_ahead_1_off), (h_this_ahead_2, ob 6 [.ref h_this_ahead_2_off, .int m_this_ahead_2_watch, .int m_this_ahead_2_score, .int m_this_ahead_2_home]), (h_this_ahead_2_off, ia G 6 m_this_ahead_2_off), (h_this_ahead_3, ob 6 [.ref h_this_ahead_3_off, .int m_this_ahead_3_watch, .int m_this_ahead_3_score, .int m_this_ahead_3_home]), (h_this_ahead_3_off, ia G 6 m_this_ahead_3_off), (h_this_ahead_4, ob 6 [.ref h_this_ahead_4_off, .int m_this_ahead_4_watch, .int m_this_ahead_4_score, .int m_this_ahead_4_home]), (h_this_ahead_4_off, ia G 6 m_this_ahead_4_off)] := by
  refine mFi.of (by decide +kernel) (Nat.le_of_ble_eq_true rfl) ?_
  intro p e s m below meth c A C hr hlk h ls hl
  obtain ⟨hx, hb, hml, hown, hts⟩ := id C
  replace hl : lv_has ls 3 [(0, .ref h_this), (1, .ref h_a0), (2, .int p1)] := hl
  unfold f_X1_duelOf at hf
  refine lv_aload_n hx hb dX1_duelOf_0 rfl (lv_at hl 0 rfl) ?_
  refine lv_aload_n hx hb dX1_duelOf_1 rfl (lv_at hl 1 rfl) ?_
  refine lv_iload_n hx hb dX1_duelOf_2 rfl (lv_at hl 2 rfl) ?_
  replace hf := bd5_inv hf
  obtain ⟨y1, y2, y3, y4, g5, hc6, hf⟩ := hf
  refine r_cvV (ws' := [(h_a0, ob 3 [.ref h_a0_kinds, .ref h_a0_trims, .ref h_a0_lanes, .ref h_a0_lights, .ref h_a0_currents, .ref h_a0_buoys, .ref h_a0_now, .ref h_a0_rules, .ref h_a0_reports, .int x_a0_count, .int x_a0_end, .int x_a0_z]), (h_a0_buoys, ia G 6 f_a0_buoys), (h_a0_currents, ia G 6 f_a0_currents), (h_a0_kinds, ia G 6 f_a0_kinds), (h_a0_lanes, ia G 6 f_a0_lanes), (h_a0_lights, ia G 16 f_a0_lights), (h_a0_now, ob 6 [.ref h_a0_now_off, .int x_a0_now_watch, .int x_a0_now_score, .int x_a0_now_home]), (h_a0_now_off, ia G 6 f_a0_now_off), (h_a0_rules, ob 5 [.ref h_a0_rules_kinds, .ref h_a0_rules_deeds, .ref h_a0_rules_begins, .ref h_a0_rules_steps, .ref h_a0_rules_lefts, .ref h_a0_rules_rights, .ref h_a0_rules_facts, .int x_a0_rules_count, .int x_a0_rules_size]), (h_a0_rules_begins, ia G 9 f_a0_rules_begins), (h_a0_rules_deeds, ia G 8 f_a0_rules_deeds), (h_a0_rules_facts, ia G 5 f_a0_rules_facts), (h_a0_rules_kinds, ia G 8 f_a0_rules_kinds), (h_a0_rules_lefts, ia G 200 f_a0_rules_lefts), (h_a0_rules_rights, ia G 200 f_a0_rules_rights), (h_a0_rules_steps, ia G 200 f_a0_rules_steps), (h_a0_trims, ia G 6 f_a0_trims), (h_this, ob 1 [.ref h_this_ahead, .ref h_this_acts, .ref h_this_first, .int y1, .int x_this_wanted, .int x_this_best, .int x_this_ways, .int x_this_fewest, .int x_this_everHome]), (h_this_acts, ia G 4 f_this_acts), (h_this_ahead, ra G 5 (rl5 h_this_ahead_0 h_this_ahead_1 h_this_ahead_2 h_this_ahead_3 h_this_ahead_4)), (h_this_ahead_0, ob 6 [.ref h_this_ahead_0_off, .int y2, .int y3, .int y4]), (h_this_ahead_0_off, ia G 6 g5), (h_this_ahead_1, ob 6 [.ref h_this_ahead_1_off, .int x_this_ahead_1_watch, .int x_this_ahead_1_score, .int x_this_ahead_1_home]), (h_this_ahead_1_off, ia G 6 f_this_ahead_1_off), (h_this_ahead_2, ob 6 [.ref h_this_ahead_2_off, .int x_this_ahead_2_watch, .int x_this_ahead_2_score, .int x_this_ahead_2_home]), (h_this_ahead_2_off, ia G 6 f_this_ahead_2_off), (h_this_ahead_3, ob 6 [.ref h_this_ahead_3_off, .int x_this_ahead_3_watch, .int x_this_ahead_3_score, .int x_this_ahead_3_home]), (h_this_ahead_3_off, ia G 6 f_this_ahead_3_off), (h_this_ahead_4, ob 6 [.ref h_this_ahead_4_off, .int x_this_ahead_4_watch, .int x_this_ahead_4_score, .int x_this_ahead_4_home]), (h_this_ahead_4_off, ia G 6 f_this_ahead_4_off)]) C h (c_X1_begin hc6) mv_X1_69 rfl 17 rfl [0, 6, 7, 17, 19, 20, 21, 22, 24, 26, 28] rfl rfl rfl rfl rfl hl.1 rfl (Nat.le_of_ble_eq_true rfl) (rok (by decide)) dX1_duelOf_3 (fun H locs h => ?_)
  refine lv_aload_n hx hb dX1_duelOf_6 rfl (lv_at hl 0 rfl) ?_
  refine lv_aload_n hx hb dX1_duelOf_7 rfl (lv_at hl 1 rfl) ?_
  refine lv_iconst (v := (0 : Int32)) hx hb dX1_duelOf_8 rfl ?_
  replace hf := bd19_inv hf
  obtain ⟨r7, g8, g9, y10, y11, y12, g13, y14, y15, y16, g17, y18, y19, y20, g21, y22, y23, y24, g25, hc26, hf⟩ := hf
  refine r_ciV (ws' := [(h_a0, ob 3 [.ref h_a0_kinds, .ref h_a0_trims, .ref h_a0_lanes, .ref h_a0_lights, .ref h_a0_currents, .ref h_a0_buoys, .ref h_a0_now, .ref h_a0_rules, .ref h_a0_reports, .int x_a0_count, .int x_a0_end, .int x_a0_z]), (h_a0_buoys, ia G 6 f_a0_buoys), (h_a0_currents, ia G 6 f_a0_currents), (h_a0_kinds, ia G 6 f_a0_kinds), (h_a0_lanes, ia G 6 f_a0_lanes), (h_a0_lights, ia G 16 f_a0_lights), (h_a0_now, ob 6 [.ref h_a0_now_off, .int x_a0_now_watch, .int x_a0_now_score, .int x_a0_now_home]), (h_a0_now_off, ia G 6 f_a0_now_off), (h_a0_rules, ob 5 [.ref h_a0_rules_kinds, .ref h_a0_rules_deeds, .ref h_a0_rules_begins, .ref h_a0_rules_steps, .ref h_a0_rules_lefts, .ref h_a0_rules_rights, .ref h_a0_rules_facts, .int x_a0_rules_count, .int x_a0_rules_size]), (h_a0_rules_begins, ia G 9 f_a0_rules_begins), (h_a0_rules_deeds, ia G 8 f_a0_rules_deeds), (h_a0_rules_facts, ia G 5 g8), (h_a0_rules_kinds, ia G 8 f_a0_rules_kinds), (h_a0_rules_lefts, ia G 200 f_a0_rules_lefts), (h_a0_rules_rights, ia G 200 f_a0_rules_rights), (h_a0_rules_steps, ia G 200 f_a0_rules_steps), (h_a0_trims, ia G 6 f_a0_trims), (h_this, ob 1 [.ref h_this_ahead, .ref h_this_acts, .ref h_this_first, .int y1, .int x_this_wanted, .int x_this_best, .int x_this_ways, .int x_this_fewest, .int x_this_everHome]), (h_this_acts, ia G 4 g9), (h_this_ahead, ra G 5 (rl5 h_this_ahead_0 h_this_ahead_1 h_this_ahead_2 h_this_ahead_3 h_this_ahead_4)), (h_this_ahead_0, ob 6 [.ref h_this_ahead_0_off, .int y2, .int y3, .int y4]), (h_this_ahead_0_off, ia G 6 g5), (h_this_ahead_1, ob 6 [.ref h_this_ahead_1_off, .int y10, .int y11, .int y12]), (h_this_ahead_1_off, ia G 6 g13), (h_this_ahead_2, ob 6 [.ref h_this_ahead_2_off, .int y14, .int y15, .int y16]), (h_this_ahead_2_off, ia G 6 g17), (h_this_ahead_3, ob 6 [.ref h_this_ahead_3_off, .int y18, .int y19, .int y20]), (h_this_ahead_3_off, ia G 6 g21), (h_this_ahead_4, ob 6 [.ref h_this_ahead_4_off, .int y22, .int y23, .int y24]), (h_this_ahead_4_off, ia G 6 g25)]) C h (c_X1_duel_0 hc26) mv_X1_110 rfl 17 rfl [0, 1, 2, 3, 4, 5, 8, 9, 10, 11, 12, 13, 14, 15, 16, 17, 18, 19, 20, 21, 22, 23, 24, 25, 26, 27, 28, 29] rfl rfl rfl rfl rfl hl.1 rfl (Nat.le_of_ble_eq_true rfl) (rok (by decide)) dX1_duelOf_9 (fun H locs h => ?_)
  cases hf
  exact r_iret C h hr hlk rfl dX1_duelOf_12
def f_X8_game (p0 : Int32) (x_this_planner_length : Int32) (f_this_planner_acts : Nat → Int32) (x_this_planner_ahead_0_watch : Int32) (x_this_planner_ahead_0_score : Int32) (x_this_planner_ahead_0_home : Int32) (f_this_planner_ahead_0_off : Nat → Int32) (x_this_planner_ahead_1_watch : Int32) (x_this_planner_ahead_1_score : Int32) (x_this_planner_ahead_1_home : Int32) (f_this_planner_ahead_1_off : Nat → Int32) (x_this_planner_ahead_2_watch : Int32) (x_this_planner_ahead_2_score : Int32) (x_this_planner_ahead_2_home : Int32) (f_this_planner_ahead_2_off : Nat → Int32) (x_this_planner_ahead_3_watch : Int32) (x_this_planner_ahead_3_score : Int32) (x_this_planner_ahead_3_home : Int32) (f_this_planner_ahead_3_off : Nat → Int32) (x_this_planner_ahead_4_watch : Int32) (x_this_planner_ahead_4_score : Int32) (x_this_planner_ahead_4_home : Int32) (f_this_planner_ahead_4_off : Nat → Int32) (x_this_rock_count : Int32) (x_this_rock_end : Int32) (f_this_rock_buoys : Nat → Int32) (f_this_rock_currents : Nat → Int32) (f_this_rock_kinds : Nat → Int32) (f_this_rock_lanes : Nat → Int32) (f_this_rock_lights : Nat → Int32) (x_this_rock_now_watch : Int32) (x_this_rock_now_score : Int32) (x_this_rock_now_home : Int32) (f_this_rock_now_off : Nat → Int32) (x_this_rock_rules_count : Int32) (f_this_rock_rules_begins : Nat → Int32) (f_this_rock_rules_deeds : Nat → Int32) (f_this_rock_rules_facts : Nat → Int32) (f_this_rock_rules_kinds : Nat → Int32) (f_this_rock_rules_lefts : Nat → Int32) (f_this_rock_rules_rights : Nat → Int32) (f_this_rock_rules_steps : Nat → Int32) (f_this_rock_trims : Nat → Int32) : Option (Int32 × Int32 × (Nat → Int32) × Int32 × Int32 × Int32 × (Nat → Int32) × Int32 × Int32 × Int32 × (Nat → Int32) × Int32 × Int32 × Int32 × (Nat → Int32) × Int32 × Int32 × Int32 × (Nat → Int32) × Int32 × Int32 × Int32 × (Nat → Int32) × (Nat → Int32)) := bd1 (f_X8_within p0 (1 : Int32) (4 : Int32)) (fun r1 => (if r1 = 0 then some ((-1 : Int32), x_this_planner_length, f_this_planner_acts, x_this_planner_ahead_0_watch, x_this_planner_ahead_0_score, x_this_planner_ahead_0_home, f_this_planner_ahead_0_off, x_this_planner_ahead_1_watch, x_this_planner_ahead_1_score, x_this_planner_ahead_1_home, f_this_planner_ahead_1_off, x_this_planner_ahead_2_watch, x_this_planner_ahead_2_score, x_this_planner_ahead_2_home, f_this_planner_ahead_2_off, x_this_planner_ahead_3_watch, x_this_planner_ahead_3_score, x_this_planner_ahead_3_home, f_this_planner_ahead_3_off, x_this_planner_ahead_4_watch, x_this_planner_ahead_4_score, x_this_planner_ahead_4_home, f_this_planner_ahead_4_off, f_this_rock_rules_facts) else bd24 (f_X1_duelOf p0 x_this_rock_count x_this_rock_end f_this_rock_buoys f_this_rock_currents f_this_rock_kinds f_this_rock_lanes f_this_rock_lights x_this_rock_now_watch x_this_rock_now_score x_this_rock_now_home f_this_rock_now_off x_this_rock_rules_count f_this_rock_rules_begins f_this_rock_rules_deeds f_this_rock_rules_facts f_this_rock_rules_kinds f_this_rock_rules_lefts f_this_rock_rules_rights f_this_rock_rules_steps f_this_rock_trims f_this_planner_acts f_this_planner_ahead_0_off x_this_planner_ahead_1_watch x_this_planner_ahead_1_score x_this_planner_ahead_1_home f_this_planner_ahead_1_off x_this_planner_ahead_2_watch x_this_planner_ahead_2_score x_this_planner_ahead_2_home f_this_planner_ahead_2_off x_this_planner_ahead_3_watch x_this_planner_ahead_3_score x_this_planner_ahead_3_home f_this_planner_ahead_3_off x_this_planner_ahead_4_watch x_this_planner_ahead_4_score x_this_planner_ahead_4_home f_this_planner_ahead_4_off) (fun r4 g5 y6 g7 y8 y9 y10 g11 y12 y13 y14 g15 y16 y17 y18 g19 y20 y21 y22 g23 y24 y25 y26 g27 => some (r4, y6, g7, y8, y9, y10, g11, y12, y13, y14, g15, y16, y17, y18, g19, y20, y21, y22, g23, y24, y25, y26, g27, g5))))
set_option maxRecDepth 100000 in
set_option maxHeartbeats 4000000 in
theorem c_X8_game {l : Launch} {G : Gt} {h_this h_this_rock h_this_kept h_this_trial h_this_planner h_this_reader h_this_draft h_this_host h_this_thing h_this_tape h_this_rows h_this_planner_ahead h_this_planner_acts h_this_planner_first h_this_planner_ahead_0 h_this_planner_ahead_1 h_this_planner_ahead_2 h_this_planner_ahead_3 h_this_planner_ahead_4 h_this_planner_ahead_0_off h_this_planner_ahead_1_off h_this_planner_ahead_2_off h_this_planner_ahead_3_off h_this_planner_ahead_4_off h_this_rock_kinds h_this_rock_trims h_this_rock_lanes h_this_rock_lights h_this_rock_currents h_this_rock_buoys h_this_rock_now h_this_rock_rules h_this_rock_reports h_this_rock_now_off h_this_rock_rules_kinds h_this_rock_rules_deeds h_this_rock_rules_begins h_this_rock_rules_steps h_this_rock_rules_lefts h_this_rock_rules_rights h_this_rock_rules_facts : Nat} {p0 : Int32} {x_this_tapeCount : Int32} {x_this_rowCount : Int32} {x_this_isKept : Int32} {x_this_planner_length : Int32} {x_this_planner_wanted : Int32} {x_this_planner_best : Int32} {x_this_planner_ways : Int32} {x_this_planner_fewest : Int32} {x_this_planner_everHome : Int32} {f_this_planner_acts : Nat → Int32} {x_this_planner_ahead_0_watch : Int32} {x_this_planner_ahead_0_score : Int32} {x_this_planner_ahead_0_home : Int32} {f_this_planner_ahead_0_off : Nat → Int32} {x_this_planner_ahead_1_watch : Int32} {x_this_planner_ahead_1_score : Int32} {x_this_planner_ahead_1_home : Int32} {f_this_planner_ahead_1_off : Nat → Int32} {x_this_planner_ahead_2_watch : Int32} {x_this_planner_ahead_2_score : Int32} {x_this_planner_ahead_2_home : Int32} {f_this_planner_ahead_2_off : Nat → Int32} {x_this_planner_ahead_3_watch : Int32} {x_this_planner_ahead_3_score : Int32} {x_this_planner_ahead_3_home : Int32} {f_this_planner_ahead_3_off : Nat → Int32} {x_this_planner_ahead_4_watch : Int32} {x_this_planner_ahead_4_score : Int32} {x_this_planner_ahead_4_home : Int32} {f_this_planner_ahead_4_off : Nat → Int32} {x_this_rock_count : Int32} {x_this_rock_end : Int32} {x_this_rock_z : Int32} {f_this_rock_buoys : Nat → Int32} {f_this_rock_currents : Nat → Int32} {f_this_rock_kinds : Nat → Int32} {f_this_rock_lanes : Nat → Int32} {f_this_rock_lights : Nat → Int32} {x_this_rock_now_watch : Int32} {x_this_rock_now_score : Int32} {x_this_rock_now_home : Int32} {f_this_rock_now_off : Nat → Int32} {x_this_rock_rules_count : Int32} {x_this_rock_rules_size : Int32} {f_this_rock_rules_begins : Nat → Int32} {f_this_rock_rules_deeds : Nat → Int32} {f_this_rock_rules_facts : Nat → Int32} {f_this_rock_rules_kinds : Nat → Int32} {f_this_rock_rules_lefts : Nat → Int32} {f_this_rock_rules_rights : Nat → Int32} {f_this_rock_rules_steps : Nat → Int32} {f_this_rock_trims : Nat → Int32} {r : Int32} {m_this_planner_length : Int32} {m_this_planner_acts : Nat → Int32} {m_this_planner_ahead_0_watch : Int32} {m_this_planner_ahead_0_score : Int32} {m_this_planner_ahead_0_home : Int32} {m_this_planner_ahead_0_off : Nat → Int32} {m_this_planner_ahead_1_watch : Int32} {m_this_planner_ahead_1_score : Int32} {m_this_planner_ahead_1_home : Int32} {m_this_planner_ahead_1_off : Nat → Int32} {m_this_planner_ahead_2_watch : Int32} {m_this_planner_ahead_2_score : Int32} {m_this_planner_ahead_2_home : Int32} {m_this_planner_ahead_2_off : Nat → Int32} {m_this_planner_ahead_3_watch : Int32} {m_this_planner_ahead_3_score : Int32} {m_this_planner_ahead_3_home : Int32} {m_this_planner_ahead_3_off : Nat → Int32} {m_this_planner_ahead_4_watch : Int32} {m_this_planner_ahead_4_score : Int32} {m_this_planner_ahead_4_home : Int32} {m_this_planner_ahead_4_off : Nat → Int32} {m_this_rock_rules_facts : Nat → Int32} (hf : f_X8_game p0 x_this_planner_length f_this_planner_acts x_this_planner_ahead_0_watch x_this_planner_ahead_0_score x_this_planner_ahead_0_home f_this_planner_ahead_0_off x_this_planner_ahead_1_watch x_this_planner_ahead_1_score x_this_planner_ahead_1_home f_this_planner_ahead_1_off x_this_planner_ahead_2_watch x_this_planner_ahead_2_score x_this_planner_ahead_2_home f_this_planner_ahead_2_off x_this_planner_ahead_3_watch x_this_planner_ahead_3_score x_this_planner_ahead_3_home f_this_planner_ahead_3_off x_this_planner_ahead_4_watch x_this_planner_ahead_4_score x_this_planner_ahead_4_home f_this_planner_ahead_4_off x_this_rock_count x_this_rock_end f_this_rock_buoys f_this_rock_currents f_this_rock_kinds f_this_rock_lanes f_this_rock_lights x_this_rock_now_watch x_this_rock_now_score x_this_rock_now_home f_this_rock_now_off x_this_rock_rules_count f_this_rock_rules_begins f_this_rock_rules_deeds f_this_rock_rules_facts f_this_rock_rules_kinds f_this_rock_rules_lefts f_this_rock_rules_rights f_this_rock_rules_steps f_this_rock_trims = some (r, m_this_planner_length, m_this_planner_acts, m_this_planner_ahead_0_watch, m_this_planner_ahead_0_score, m_this_planner_ahead_0_home, m_this_planner_ahead_0_off, m_this_planner_ahead_1_watch, m_this_planner_ahead_1_score, m_this_planner_ahead_1_home, m_this_planner_ahead_1_off, m_this_planner_ahead_2_watch, m_this_planner_ahead_2_score, m_this_planner_ahead_2_home, m_this_planner_ahead_2_off, m_this_planner_ahead_3_watch, m_this_planner_ahead_3_score, m_this_planner_ahead_3_home, m_this_planner_ahead_3_off, m_this_planner_ahead_4_watch, m_this_planner_ahead_4_score, m_this_planner_ahead_4_home, m_this_planner_ahead_4_off, m_this_rock_rules_facts)) : mFi l G yX8_game cX8_game 2 .int 11 [.ref h_this, .int p0] [(h_this, ob 8 [.ref h_this_rock, .ref h_this_kept, .ref h_this_trial, .ref h_this_planner, .ref h_this_reader, .ref h_this_draft, .ref h_this_host, .ref h_this_thing, .ref h_this_tape, .ref h_this_rows, .int x_this_tapeCount, .int x_this_rowCount, .int x_this_isKept]), (h_this_planner, ob 1 [.ref h_this_planner_ahead, .ref h_this_planner_acts, .ref h_this_planner_first, .int x_this_planner_length, .int x_this_planner_wanted, .int x_this_planner_best, .int x_this_planner_ways, .int x_this_planner_fewest, .int x_this_planner_everHome]), (h_this_planner_acts, ia G 4 f_this_planner_acts), (h_this_planner_ahead, ra G 5 (rl5 h_this_planner_ahead_0 h_this_planner_ahead_1 h_this_planner_ahead_2 h_this_planner_ahead_3 h_this_planner_ahead_4)), (h_this_planner_ahead_0, ob 6 [.ref h_this_planner_ahead_0_off, .int x_this_planner_ahead_0_watch, .int x_this_planner_ahead_0_score, .int x_this_planner_ahead_0_home]), (h_this_planner_ahead_0_off, ia G 6 f_this_planner_ahead_0_off), (h_this_planner_ahead_1, ob 6 [.ref h_this_planner_ahead_1_off, .int x_this_planner_ahead_1_watch, .int x_this_planner_ahead_1_score, .int x_this_planner_ahead_1_home]), (h_this_planner_ahead_1_off, ia G 6 f_this_planner_ahead_1_off), (h_this_planner_ahead_2, ob 6 [.ref h_this_planner_ahead_2_off, .int x_this_planner_ahead_2_watch, .int x_this_planner_ahead_2_score, .int x_this_planner_ahead_2_home]), (h_this_planner_ahead_2_off, ia G 6 f_this_planner_ahead_2_off), (h_this_planner_ahead_3, ob 6 [.ref h_this_planner_ahead_3_off, .int x_this_planner_ahead_3_watch, .int x_this_planner_ahead_3_score, .int x_this_planner_ahead_3_home]), (h_this_planner_ahead_3_off, ia G 6 f_this_planner_ahead_3_off), (h_this_planner_ahead_4, ob 6 [.ref h_this_planner_ahead_4_off, .int x_this_planner_ahead_4_watch, .int x_this_planner_ahead_4_score, .int x_this_planner_ahead_4_home]), (h_this_planner_ahead_4_off, ia G 6 f_this_planner_ahead_4_off), (h_this_rock, ob 3 [.ref h_this_rock_kinds, .ref h_this_rock_trims, .ref h_this_rock_lanes, .ref h_this_rock_lights, .ref h_this_rock_currents, .ref h_this_rock_buoys, .ref h_this_rock_now, .ref h_this_rock_rules, .ref h_this_rock_reports, .int x_this_rock_count, .int x_this_rock_end, .int x_this_rock_z]), (h_this_rock_buoys, ia G 6 f_this_rock_buoys), (h_this_rock_currents, ia G 6 f_this_rock_currents), (h_this_rock_kinds, ia G 6 f_this_rock_kinds), (h_this_rock_lanes, ia G 6 f_this_rock_lanes), (h_this_rock_lights, ia G 16 f_this_rock_lights), (h_this_rock_now, ob 6 [.ref h_this_rock_now_off, .int x_this_rock_now_watch, .int x_this_rock_now_score, .int x_this_rock_now_home]), (h_this_rock_now_off, ia G 6 f_this_rock_now_off), (h_this_rock_rules, ob 5 [.ref h_this_rock_rules_kinds, .ref h_this_rock_rules_deeds, .ref h_this_rock_rules_begins, .ref h_this_rock_rules_steps, .ref h_this_rock_rules_lefts, .ref h_this_rock_rules_rights, .ref h_this_rock_rules_facts, .int x_this_rock_rules_count, .int x_this_rock_rules_size]), (h_this_rock_rules_begins, ia G 9 f_this_rock_rules_begins), (h_this_rock_rules_deeds, ia G 8 f_this_rock_rules_deeds), (h_this_rock_rules_facts, ia G 5 f_this_rock_rules_facts), (h_this_rock_rules_kinds, ia G 8 f_this_rock_rules_kinds), (h_this_rock_rules_lefts, ia G 200 f_this_rock_rules_lefts), (h_this_rock_rules_rights, ia G 200 f_this_rock_rules_rights), (h_this_rock_rules_steps, ia G 200 f_this_rock_rules_steps), (h_this_rock_trims, ia G 6 f_this_rock_trims)] r [(h_this, ob 8 [.ref h_this_rock, .ref h_this_kept, .ref h_this_trial, .ref h_this_planner, .ref h_this_reader, .ref h_this_draft, .ref h_this_host, .ref h_this_thing, .ref h_this_tape, .ref h_this_rows, .int x_this_tapeCount, .int x_this_rowCount, .int x_this_isKept]), (h_this_planner, ob 1 [.ref h_this_planner_ahead, .ref h_this_planner_acts, .ref h_this_planner_first, .int m_this_planner_length, .int x_this_planner_wanted, .int x_this_planner_best, .int x_this_planner_ways, .int x_this_planner_fewest, .int x_this_planner_everHome]), (h_this_planner_acts, ia G 4 m_this_planner_acts), (h_this_planner_ahead, ra G 5 (rl5 h_this_planner_ahead_0 h_this_planner_ahead_1 h_this_planner_ahead_2 h_this_planner_ahead_3 h_this_planner_ahead_4)), (h_this_planner_ahead_0, ob 6 [.ref h_this_planner_ahead_0_off, .int m_this_planner_ahead_0_watch, .int m_this_planner_ahead_0_score, .int m_this_planner_ahead_0_home]), (h_this_planner_ahead_0_off, ia G 6 m_this_planner_ahead_0_off), (h_this_planner_ahead_1, ob 6 [.ref h_this_planner_ahead_1_off, .int m_this_planner_ahead_1_watch, .int m_this_planner_ahead_1_score, .int m_this_planner_ahead_1_home]), (h_this_planner_ahead_1_off, ia G 6 m_this_planner_ahead_1_off), (h_this_planner_ahead_2, ob 6 [.ref h_this_planner_ahead_2_off, .int m_this_planner_ahead_2_watch, .int m_this_planner_ahead_2_score, .int m_this_planner_ahead_2_home]), (h_this_planner_ahead_2_off, ia G 6 m_this_planner_ahead_2_off), (h_this_planner_ahead_3, ob 6 [.ref h_this_planner_ahead_3_off, .int m_this_planner_ahead_3_watch, .int m_this_planner_ahead_3_score, .int m_this_planner_ahead_3_home]), (h_this_planner_ahead_3_off, ia G 6 m_this_planner_ahead_3_off), (h_this_planner_ahead_4, ob 6 [.ref h_this_planner_ahead_4_off, .int m_this_planner_ahead_4_watch, .int m_this_planner_ahead_4_score, .int m_this_planner_ahead_4_home]), (h_this_planner_ahead_4_off, ia G 6 m_this_planner_ahead_4_off), (h_this_rock, ob 3 [.ref h_this_rock_kinds, .ref h_this_rock_trims, .ref h_this_rock_lanes, .ref h_this_rock_lights, .ref h_this_rock_currents, .ref h_this_rock_buoys, .ref h_this_rock_now, .ref h_this_rock_rules, .ref h_this_rock_reports, .int x_this_rock_count, .int x_this_rock_end, .int x_this_rock_z]), (h_this_rock_buoys, ia G 6 f_this_rock_buoys), (h_this_rock_currents, ia G 6 f_this_rock_currents), (h_this_rock_kinds, ia G 6 f_this_rock_kinds), (h_this_rock_lanes, ia G 6 f_this_rock_lanes), (h_this_rock_lights, ia G 16 f_this_rock_lights), (h_this_rock_now, ob 6 [.ref h_this_rock_now_off, .int x_this_rock_now_watch, .int x_this_rock_now_score, .int x_this_rock_now_home]), (h_this_rock_now_off, ia G 6 f_this_rock_now_off), (h_this_rock_rules, ob 5 [.ref h_this_rock_rules_kinds, .ref h_this_rock_rules_deeds, .ref h_this_rock_rules_begins, .ref h_this_rock_rules_steps, .ref h_this_rock_rules_lefts, .ref h_this_rock_rules_rights, .ref h_this_rock_rules_facts, .int x_this_rock_rules_count, .int x_this_rock_rules_size]), (h_this_rock_rules_begins, ia G 9 f_this_rock_rules_begins), (h_this_rock_rules_deeds, ia G 8 f_this_rock_rules_deeds), (h_this_rock_rules_facts, ia G 5 m_this_rock_rules_facts), (h_this_rock_rules_kinds, ia G 8 f_this_rock_rules_kinds), (h_this_rock_rules_lefts, ia G 200 f_this_rock_rules_lefts), (h_this_rock_rules_rights, ia G 200 f_this_rock_rules_rights), (h_this_rock_rules_steps, ia G 200 f_this_rock_rules_steps), (h_this_rock_trims, ia G 6 f_this_rock_trims)] := by
  refine mFi.of (by decide +kernel) (Nat.le_of_ble_eq_true rfl) ?_
  intro p e s m below meth c A C hr hlk h ls hl
  obtain ⟨hx, hb, hml, hown, hts⟩ := id C
  replace hl : lv_has ls 2 [(0, .ref h_this), (1, .int p0)] := hl
  unfold f_X8_game at hf
  refine lv_iload_n hx hb dX8_game_0 rfl (lv_at hl 1 rfl) ?_
  refine lv_iconst (v := (1 : Int32)) hx hb dX8_game_1 rfl ?_
  refine lv_iconst (v := (4 : Int32)) hx hb dX8_game_2 rfl ?_
  replace hf := bd1_inv hf
  obtain ⟨r1, hc2, hf⟩ := hf
  refine r_ciS0 C h (c_X8_within hc2) ms_X8_79 rfl [] rfl rfl hl.1 rfl (Nat.le_of_ble_eq_true rfl) (rok (by decide)) dX8_game_3 (fun H locs h => ?_)
  refine lv_if_eq (tgt := 24) hx hb dX8_game_6 rfl (fun c3 => ?_) (fun c3 => ?_)
  · replace hf := ifp c3 hf
    refine lv_iconst (v := (-1 : Int32)) hx hb dX8_game_24 rfl ?_
    cases hf
    exact r_iret C h hr hlk rfl dX8_game_25
  · replace hf := ifn c3 hf
    refine lv_aload_n hx hb dX8_game_9 rfl (lv_at hl 0 rfl) ?_
    refine r_get C h fk_X8_29 0 rfl rfl dX8_game_10 ?_
    refine lv_aload_n hx hb dX8_game_13 rfl (lv_at hl 0 rfl) ?_
    refine r_get C h fk_X8_10 0 rfl rfl dX8_game_14 ?_
    refine lv_iload_n hx hb dX8_game_17 rfl (lv_at hl 1 rfl) ?_
    replace hf := bd24_inv hf
    obtain ⟨r4, g5, y6, g7, y8, y9, y10, g11, y12, y13, y14, g15, y16, y17, y18, g19, y20, y21, y22, g23, y24, y25, y26, g27, hc28, hf⟩ := hf
    refine r_ciV (ws' := [(h_this, ob 8 [.ref h_this_rock, .ref h_this_kept, .ref h_this_trial, .ref h_this_planner, .ref h_this_reader, .ref h_this_draft, .ref h_this_host, .ref h_this_thing, .ref h_this_tape, .ref h_this_rows, .int x_this_tapeCount, .int x_this_rowCount, .int x_this_isKept]), (h_this_planner, ob 1 [.ref h_this_planner_ahead, .ref h_this_planner_acts, .ref h_this_planner_first, .int y6, .int x_this_planner_wanted, .int x_this_planner_best, .int x_this_planner_ways, .int x_this_planner_fewest, .int x_this_planner_everHome]), (h_this_planner_acts, ia G 4 g7), (h_this_planner_ahead, ra G 5 (rl5 h_this_planner_ahead_0 h_this_planner_ahead_1 h_this_planner_ahead_2 h_this_planner_ahead_3 h_this_planner_ahead_4)), (h_this_planner_ahead_0, ob 6 [.ref h_this_planner_ahead_0_off, .int y8, .int y9, .int y10]), (h_this_planner_ahead_0_off, ia G 6 g11), (h_this_planner_ahead_1, ob 6 [.ref h_this_planner_ahead_1_off, .int y12, .int y13, .int y14]), (h_this_planner_ahead_1_off, ia G 6 g15), (h_this_planner_ahead_2, ob 6 [.ref h_this_planner_ahead_2_off, .int y16, .int y17, .int y18]), (h_this_planner_ahead_2_off, ia G 6 g19), (h_this_planner_ahead_3, ob 6 [.ref h_this_planner_ahead_3_off, .int y20, .int y21, .int y22]), (h_this_planner_ahead_3_off, ia G 6 g23), (h_this_planner_ahead_4, ob 6 [.ref h_this_planner_ahead_4_off, .int y24, .int y25, .int y26]), (h_this_planner_ahead_4_off, ia G 6 g27), (h_this_rock, ob 3 [.ref h_this_rock_kinds, .ref h_this_rock_trims, .ref h_this_rock_lanes, .ref h_this_rock_lights, .ref h_this_rock_currents, .ref h_this_rock_buoys, .ref h_this_rock_now, .ref h_this_rock_rules, .ref h_this_rock_reports, .int x_this_rock_count, .int x_this_rock_end, .int x_this_rock_z]), (h_this_rock_buoys, ia G 6 f_this_rock_buoys), (h_this_rock_currents, ia G 6 f_this_rock_currents), (h_this_rock_kinds, ia G 6 f_this_rock_kinds), (h_this_rock_lanes, ia G 6 f_this_rock_lanes), (h_this_rock_lights, ia G 16 f_this_rock_lights), (h_this_rock_now, ob 6 [.ref h_this_rock_now_off, .int x_this_rock_now_watch, .int x_this_rock_now_score, .int x_this_rock_now_home]), (h_this_rock_now_off, ia G 6 f_this_rock_now_off), (h_this_rock_rules, ob 5 [.ref h_this_rock_rules_kinds, .ref h_this_rock_rules_deeds, .ref h_this_rock_rules_begins, .ref h_this_rock_rules_steps, .ref h_this_rock_rules_lefts, .ref h_this_rock_rules_rights, .ref h_this_rock_rules_facts, .int x_this_rock_rules_count, .int x_this_rock_rules_size]), (h_this_rock_rules_begins, ia G 9 f_this_rock_rules_begins), (h_this_rock_rules_deeds, ia G 8 f_this_rock_rules_deeds), (h_this_rock_rules_facts, ia G 5 g5), (h_this_rock_rules_kinds, ia G 8 f_this_rock_rules_kinds), (h_this_rock_rules_lefts, ia G 200 f_this_rock_rules_lefts), (h_this_rock_rules_rights, ia G 200 f_this_rock_rules_rights), (h_this_rock_rules_steps, ia G 200 f_this_rock_rules_steps), (h_this_rock_trims, ia G 6 f_this_rock_trims)]) C h (c_X1_duelOf hc28) mv_X8_237 rfl 1 rfl [14, 15, 16, 17, 18, 19, 20, 21, 22, 23, 24, 25, 26, 27, 28, 29, 30, 1, 2, 3, 4, 5, 6, 7, 8, 9, 10, 11, 12, 13] rfl rfl rfl rfl rfl hl.1 rfl (Nat.le_of_ble_eq_true rfl) (rok (by decide)) dX8_game_18 (fun H locs h => ?_)
    refine lv_goto (tgt := 25) hx hb dX8_game_21 rfl ?_
    cases hf
    exact r_iret C h hr hlk rfl dX8_game_25
def f_X8_play (p0 : Int32) (x_this_planner_length : Int32) (f_this_planner_acts : Nat → Int32) (x_this_planner_ahead_0_watch : Int32) (x_this_planner_ahead_0_score : Int32) (x_this_planner_ahead_0_home : Int32) (f_this_planner_ahead_0_off : Nat → Int32) (x_this_planner_ahead_1_watch : Int32) (x_this_planner_ahead_1_score : Int32) (x_this_planner_ahead_1_home : Int32) (f_this_planner_ahead_1_off : Nat → Int32) (x_this_planner_ahead_2_watch : Int32) (x_this_planner_ahead_2_score : Int32) (x_this_planner_ahead_2_home : Int32) (f_this_planner_ahead_2_off : Nat → Int32) (x_this_planner_ahead_3_watch : Int32) (x_this_planner_ahead_3_score : Int32) (x_this_planner_ahead_3_home : Int32) (f_this_planner_ahead_3_off : Nat → Int32) (x_this_planner_ahead_4_watch : Int32) (x_this_planner_ahead_4_score : Int32) (x_this_planner_ahead_4_home : Int32) (f_this_planner_ahead_4_off : Nat → Int32) (x_this_rock_count : Int32) (x_this_rock_end : Int32) (f_this_rock_buoys : Nat → Int32) (f_this_rock_currents : Nat → Int32) (f_this_rock_kinds : Nat → Int32) (f_this_rock_lanes : Nat → Int32) (f_this_rock_lights : Nat → Int32) (x_this_rock_now_watch : Int32) (x_this_rock_now_score : Int32) (x_this_rock_now_home : Int32) (f_this_rock_now_off : Nat → Int32) (x_this_rock_rules_count : Int32) (f_this_rock_rules_begins : Nat → Int32) (f_this_rock_rules_deeds : Nat → Int32) (f_this_rock_rules_facts : Nat → Int32) (f_this_rock_rules_kinds : Nat → Int32) (f_this_rock_rules_lefts : Nat → Int32) (f_this_rock_rules_rights : Nat → Int32) (f_this_rock_rules_steps : Nat → Int32) (f_this_rock_trims : Nat → Int32) : Option (Int32 × Int32 × (Nat → Int32) × Int32 × Int32 × Int32 × (Nat → Int32) × Int32 × Int32 × Int32 × (Nat → Int32) × Int32 × Int32 × Int32 × (Nat → Int32) × Int32 × Int32 × Int32 × (Nat → Int32) × Int32 × Int32 × Int32 × (Nat → Int32) × (Nat → Int32)) := bd1 (f_X8_within p0 (1 : Int32) (4 : Int32)) (fun r1 => (if r1 = 0 then some ((-1 : Int32), x_this_planner_length, f_this_planner_acts, x_this_planner_ahead_0_watch, x_this_planner_ahead_0_score, x_this_planner_ahead_0_home, f_this_planner_ahead_0_off, x_this_planner_ahead_1_watch, x_this_planner_ahead_1_score, x_this_planner_ahead_1_home, f_this_planner_ahead_1_off, x_this_planner_ahead_2_watch, x_this_planner_ahead_2_score, x_this_planner_ahead_2_home, f_this_planner_ahead_2_off, x_this_planner_ahead_3_watch, x_this_planner_ahead_3_score, x_this_planner_ahead_3_home, f_this_planner_ahead_3_off, x_this_planner_ahead_4_watch, x_this_planner_ahead_4_score, x_this_planner_ahead_4_home, f_this_planner_ahead_4_off, f_this_rock_rules_facts) else bd1 (f_X3_isOver x_this_rock_now_watch x_this_rock_end) (fun r4 => (if r4 = 0 then bd24 (f_X1_duelOf p0 x_this_rock_count x_this_rock_end f_this_rock_buoys f_this_rock_currents f_this_rock_kinds f_this_rock_lanes f_this_rock_lights x_this_rock_now_watch x_this_rock_now_score x_this_rock_now_home f_this_rock_now_off x_this_rock_rules_count f_this_rock_rules_begins f_this_rock_rules_deeds f_this_rock_rules_facts f_this_rock_rules_kinds f_this_rock_rules_lefts f_this_rock_rules_rights f_this_rock_rules_steps f_this_rock_trims f_this_planner_acts f_this_planner_ahead_0_off x_this_planner_ahead_1_watch x_this_planner_ahead_1_score x_this_planner_ahead_1_home f_this_planner_ahead_1_off x_this_planner_ahead_2_watch x_this_planner_ahead_2_score x_this_planner_ahead_2_home f_this_planner_ahead_2_off x_this_planner_ahead_3_watch x_this_planner_ahead_3_score x_this_planner_ahead_3_home f_this_planner_ahead_3_off x_this_planner_ahead_4_watch x_this_planner_ahead_4_score x_this_planner_ahead_4_home f_this_planner_ahead_4_off) (fun r7 g8 y9 g10 y11 y12 y13 g14 y15 y16 y17 g18 y19 y20 y21 g22 y23 y24 y25 g26 y27 y28 y29 g30 => some (g10 0, y9, g10, y11, y12, y13, g14, y15, y16, y17, g18, y19, y20, y21, g22, y23, y24, y25, g26, y27, y28, y29, g30, g8)) else some ((-3 : Int32), x_this_planner_length, f_this_planner_acts, x_this_planner_ahead_0_watch, x_this_planner_ahead_0_score, x_this_planner_ahead_0_home, f_this_planner_ahead_0_off, x_this_planner_ahead_1_watch, x_this_planner_ahead_1_score, x_this_planner_ahead_1_home, f_this_planner_ahead_1_off, x_this_planner_ahead_2_watch, x_this_planner_ahead_2_score, x_this_planner_ahead_2_home, f_this_planner_ahead_2_off, x_this_planner_ahead_3_watch, x_this_planner_ahead_3_score, x_this_planner_ahead_3_home, f_this_planner_ahead_3_off, x_this_planner_ahead_4_watch, x_this_planner_ahead_4_score, x_this_planner_ahead_4_home, f_this_planner_ahead_4_off, f_this_rock_rules_facts)))))
set_option maxRecDepth 100000 in
set_option maxHeartbeats 4000000 in
theorem c_X8_play {l : Launch} {G : Gt} {h_this h_this_rock h_this_kept h_this_trial h_this_planner h_this_reader h_this_draft h_this_host h_this_thing h_this_tape h_this_rows h_this_planner_ahead h_this_planner_acts h_this_planner_first h_this_planner_ahead_0 h_this_planner_ahead_1 h_this_planner_ahead_2 h_this_planner_ahead_3 h_this_planner_ahead_4 h_this_planner_ahead_0_off h_this_planner_ahead_1_off h_this_planner_ahead_2_off h_this_planner_ahead_3_off h_this_planner_ahead_4_off h_this_rock_kinds h_this_rock_trims h_this_rock_lanes h_this_rock_lights h_this_rock_currents h_this_rock_buoys h_this_rock_now h_this_rock_rules h_this_rock_reports h_this_rock_now_off h_this_rock_rules_kinds h_this_rock_rules_deeds h_this_rock_rules_begins h_this_rock_rules_steps h_this_rock_rules_lefts h_this_rock_rules_rights h_this_rock_rules_facts : Nat} {p0 : Int32} {x_this_tapeCount : Int32} {x_this_rowCount : Int32} {x_this_isKept : Int32} {x_this_planner_length : Int32} {x_this_planner_wanted : Int32} {x_this_planner_best : Int32} {x_this_planner_ways : Int32} {x_this_planner_fewest : Int32} {x_this_planner_everHome : Int32} {f_this_planner_acts : Nat → Int32} {x_this_planner_ahead_0_watch : Int32} {x_this_planner_ahead_0_score : Int32} {x_this_planner_ahead_0_home : Int32} {f_this_planner_ahead_0_off : Nat → Int32} {x_this_planner_ahead_1_watch : Int32} {x_this_planner_ahead_1_score : Int32} {x_this_planner_ahead_1_home : Int32} {f_this_planner_ahead_1_off : Nat → Int32} {x_this_planner_ahead_2_watch : Int32} {x_this_planner_ahead_2_score : Int32} {x_this_planner_ahead_2_home : Int32} {f_this_planner_ahead_2_off : Nat → Int32} {x_this_planner_ahead_3_watch : Int32} {x_this_planner_ahead_3_score : Int32} {x_this_planner_ahead_3_home : Int32} {f_this_planner_ahead_3_off : Nat → Int32} {x_this_planner_ahead_4_watch : Int32} {x_this_planner_ahead_4_score : Int32} {x_this_planner_ahead_4_home : Int32} {f_this_planner_ahead_4_off : Nat → Int32} {x_this_rock_count : Int32} {x_this_rock_end : Int32} {x_this_rock_z : Int32} {f_this_rock_buoys : Nat → Int32} {f_this_rock_currents : Nat → Int32} {f_this_rock_kinds : Nat → Int32} {f_this_rock_lanes : Nat → Int32} {f_this_rock_lights : Nat → Int32} {x_this_rock_now_watch : Int32} {x_this_rock_now_score : Int32} {x_this_rock_now_home : Int32} {f_this_rock_now_off : Nat → Int32} {x_this_rock_rules_count : Int32} {x_this_rock_rules_size : Int32} {f_this_rock_rules_begins : Nat → Int32} {f_this_rock_rules_deeds : Nat → Int32} {f_this_rock_rules_facts : Nat → Int32} {f_this_rock_rules_kinds : Nat → Int32} {f_this_rock_rules_lefts : Nat → Int32} {f_this_rock_rules_rights : Nat → Int32} {f_this_rock_rules_steps : Nat → Int32} {f_this_rock_trims : Nat → Int32} {r : Int32} {m_this_planner_length : Int32} {m_this_planner_acts : Nat → Int32} {m_this_planner_ahead_0_watch : Int32} {m_this_planner_ahead_0_score : Int32} {m_this_planner_ahead_0_home : Int32} {m_this_planner_ahead_0_off : Nat → Int32} {m_this_planner_ahead_1_watch : Int32} {m_this_planner_ahead_1_score : Int32} {m_this_planner_ahead_1_home : Int32} {m_this_planner_ahead_1_off : Nat → Int32} {m_this_planner_ahead_2_watch : Int32} {m_this_planner_ahead_2_score : Int32} {m_this_planner_ahead_2_home : Int32} {m_this_planner_ahead_2_off : Nat → Int32} {m_this_planner_ahead_3_watch : Int32} {m_this_planner_ahead_3_score : Int32} {m_this_planner_ahead_3_home : Int32} {m_this_planner_ahead_3_off : Nat → Int32} {m_this_planner_ahead_4_watch : Int32} {m_this_planner_ahead_4_score : Int32} {m_this_planner_ahead_4_home : Int32} {m_this_planner_ahead_4_off : Nat → Int32} {m_this_rock_rules_facts : Nat → Int32} (hf : f_X8_play p0 x_this_planner_length f_this_planner_acts x_this_planner_ahead_0_watch x_this_planner_ahead_0_score x_this_planner_ahead_0_home f_this_planner_ahead_0_off x_this_planner_ahead_1_watch x_this_planner_ahead_1_score x_this_planner_ahead_1_home f_this_planner_ahead_1_off x_this_planner_ahead_2_watch x_this_planner_ahead_2_score x_this_planner_ahead_2_home f_this_planner_ahead_2_off x_this_planner_ahead_3_watch x_this_planner_ahead_3_score x_this_planner_ahead_3_home f_this_planner_ahead_3_off x_this_planner_ahead_4_watch x_this_planner_ahead_4_score x_this_planner_ahead_4_home f_this_planner_ahead_4_off x_this_rock_count x_this_rock_end f_this_rock_buoys f_this_rock_currents f_this_rock_kinds f_this_rock_lanes f_this_rock_lights x_this_rock_now_watch x_this_rock_now_score x_this_rock_now_home f_this_rock_now_off x_this_rock_rules_count f_this_rock_rules_begins f_this_rock_rules_deeds f_this_rock_rules_facts f_this_rock_rules_kinds f_this_rock_rules_lefts f_this_rock_rules_rights f_this_rock_rules_steps f_this_rock_trims = some (r, m_this_planner_length, m_this_planner_acts, m_this_planner_ahead_0_watch, m_this_planner_ahead_0_score, m_this_planner_ahead_0_home, m_this_planner_ahead_0_off, m_this_planner_ahead_1_watch, m_this_planner_ahead_1_score, m_this_planner_ahead_1_home, m_this_planner_ahead_1_off, m_this_planner_ahead_2_watch, m_this_planner_ahead_2_score, m_this_planner_ahead_2_home, m_this_planner_ahead_2_off, m_this_planner_ahead_3_watch, m_this_planner_ahead_3_score, m_this_planner_ahead_3_home, m_this_planner_ahead_3_off, m_this_planner_ahead_4_watch, m_this_planner_ahead_4_score, m_this_planner_ahead_4_home, m_this_planner_ahead_4_off, m_this_rock_rules_facts)) : mFi l G yX8_play cX8_play 2 .int 11 [.ref h_this, .int p0] [(h_this, ob 8 [.ref h_this_rock, .ref h_this_kept, .ref h_this_trial, .ref h_this_planner, .ref h_this_reader, .ref h_this_draft, .ref h_this_host, .ref h_this_thing, .ref h_this_tape, .ref h_this_rows, .int x_this_tapeCount, .int x_this_rowCount, .int x_this_isKept]), (h_this_planner, ob 1 [.ref h_this_planner_ahead, .ref h_this_planner_acts, .ref h_this_planner_first, .int x_this_planner_length, .int x_this_planner_wanted, .int x_this_planner_best, .int x_this_planner_ways, .int x_this_planner_fewest, .int x_this_planner_everHome]), (h_this_planner_acts, ia G 4 f_this_planner_acts), (h_this_planner_ahead, ra G 5 (rl5 h_this_planner_ahead_0 h_this_planner_ahead_1 h_this_planner_ahead_2 h_this_planner_ahead_3 h_this_planner_ahead_4)), (h_this_planner_ahead_0, ob 6 [.ref h_this_planner_ahead_0_off, .int x_this_planner_ahead_0_watch, .int x_this_planner_ahead_0_score, .int x_this_planner_ahead_0_home]), (h_this_planner_ahead_0_off, ia G 6 f_this_planner_ahead_0_off), (h_this_planner_ahead_1, ob 6 [.ref h_this_planner_ahead_1_off, .int x_this_planner_ahead_1_watch, .int x_this_planner_ahead_1_score, .int x_this_planner_ahead_1_home]), (h_this_planner_ahead_1_off, ia G 6 f_this_planner_ahead_1_off), (h_this_planner_ahead_2, ob 6 [.ref h_this_planner_ahead_2_off, .int x_this_planner_ahead_2_watch, .int x_this_planner_ahead_2_score, .int x_this_planner_ahead_2_home]), (h_this_planner_ahead_2_off, ia G 6 f_this_planner_ahead_2_off), (h_this_planner_ahead_3, ob 6 [.ref h_this_planner_ahead_3_off, .int x_this_planner_ahead_3_watch, .int x_this_planner_ahead_3_score, .int x_this_planner_ahead_3_home]), (h_this_planner_ahead_3_off, ia G 6 f_this_planner_ahead_3_off), (h_this_planner_ahead_4, ob 6 [.ref h_this_planner_ahead_4_off, .int x_this_planner_ahead_4_watch, .int x_this_planner_ahead_4_score, .int x_this_planner_ahead_4_home]), (h_this_planner_ahead_4_off, ia G 6 f_this_planner_ahead_4_off), (h_this_rock, ob 3 [.ref h_this_rock_kinds, .ref h_this_rock_trims, .ref h_this_rock_lanes, .ref h_this_rock_lights, .ref h_this_rock_currents, .ref h_this_rock_buoys, .ref h_this_rock_now, .ref h_this_rock_rules, .ref h_this_rock_reports, .int x_this_rock_count, .int x_this_rock_end, .int x_this_rock_z]), (h_this_rock_buoys, ia G 6 f_this_rock_buoys), (h_this_rock_currents, ia G 6 f_this_rock_currents), (h_this_rock_kinds, ia G 6 f_this_rock_kinds), (h_this_rock_lanes, ia G 6 f_this_rock_lanes), (h_this_rock_lights, ia G 16 f_this_rock_lights), (h_this_rock_now, ob 6 [.ref h_this_rock_now_off, .int x_this_rock_now_watch, .int x_this_rock_now_score, .int x_this_rock_now_home]), (h_this_rock_now_off, ia G 6 f_this_rock_now_off), (h_this_rock_rules, ob 5 [.ref h_this_rock_rules_kinds, .ref h_this_rock_rules_deeds, .ref h_this_rock_rules_begins, .ref h_this_rock_rules_steps, .ref h_this_rock_rules_lefts, .ref h_this_rock_rules_rights, .ref h_this_rock_rules_facts, .int x_this_rock_rules_count, .int x_this_rock_rules_size]), (h_this_rock_rules_begins, ia G 9 f_this_rock_rules_begins), (h_this_rock_rules_deeds, ia G 8 f_this_rock_rules_deeds), (h_this_rock_rules_facts, ia G 5 f_this_rock_rules_facts), (h_this_rock_rules_kinds, ia G 8 f_this_rock_rules_kinds), (h_this_rock_rules_lefts, ia G 200 f_this_rock_rules_lefts), (h_this_rock_rules_rights, ia G 200 f_this_rock_rules_rights), (h_this_rock_rules_steps, ia G 200 f_this_rock_rules_steps), (h_this_rock_trims, ia G 6 f_this_rock_trims)] r [(h_this, ob 8 [.ref h_this_rock, .ref h_this_kept, .ref h_this_trial, .ref h_this_planner, .ref h_this_reader, .ref h_this_draft, .ref h_this_host, .ref h_this_thing, .ref h_this_tape, .ref h_this_rows, .int x_this_tapeCount, .int x_this_rowCount, .int x_this_isKept]), (h_this_planner, ob 1 [.ref h_this_planner_ahead, .ref h_this_planner_acts, .ref h_this_planner_first, .int m_this_planner_length, .int x_this_planner_wanted, .int x_this_planner_best, .int x_this_planner_ways, .int x_this_planner_fewest, .int x_this_planner_everHome]), (h_this_planner_acts, ia G 4 m_this_planner_acts), (h_this_planner_ahead, ra G 5 (rl5 h_this_planner_ahead_0 h_this_planner_ahead_1 h_this_planner_ahead_2 h_this_planner_ahead_3 h_this_planner_ahead_4)), (h_this_planner_ahead_0, ob 6 [.ref h_this_planner_ahead_0_off, .int m_this_planner_ahead_0_watch, .int m_this_planner_ahead_0_score, .int m_this_planner_ahead_0_home]), (h_this_planner_ahead_0_off, ia G 6 m_this_planner_ahead_0_off), (h_this_planner_ahead_1, ob 6 [.ref h_this_planner_ahead_1_off, .int m_this_planner_ahead_1_watch, .int m_this_planner_ahead_1_score, .int m_this_planner_ahead_1_home]), (h_this_planner_ahead_1_off, ia G 6 m_this_planner_ahead_1_off), (h_this_planner_ahead_2, ob 6 [.ref h_this_planner_ahead_2_off, .int m_this_planner_ahead_2_watch, .int m_this_planner_ahead_2_score, .int m_this_planner_ahead_2_home]), (h_this_planner_ahead_2_off, ia G 6 m_this_planner_ahead_2_off), (h_this_planner_ahead_3, ob 6 [.ref h_this_planner_ahead_3_off, .int m_this_planner_ahead_3_watch, .int m_this_planner_ahead_3_score, .int m_this_planner_ahead_3_home]), (h_this_planner_ahead_3_off, ia G 6 m_this_planner_ahead_3_off), (h_this_planner_ahead_4, ob 6 [.ref h_this_planner_ahead_4_off, .int m_this_planner_ahead_4_watch, .int m_this_planner_ahead_4_score, .int m_this_planner_ahead_4_home]), (h_this_planner_ahead_4_off, ia G 6 m_this_planner_ahead_4_off), (h_this_rock, ob 3 [.ref h_this_rock_kinds, .ref h_this_rock_trims, .ref h_this_rock_lanes, .ref h_this_rock_lights, .ref h_this_rock_currents, .ref h_this_rock_buoys, .ref h_this_rock_now, .ref h_this_rock_rules, .ref h_this_rock_reports, .int x_this_rock_count, .int x_this_rock_end, .int x_this_rock_z]), (h_this_rock_buoys, ia G 6 f_this_rock_buoys), (h_this_rock_currents, ia G 6 f_this_rock_currents), (h_this_rock_kinds, ia G 6 f_this_rock_kinds), (h_this_rock_lanes, ia G 6 f_this_rock_lanes), (h_this_rock_lights, ia G 16 f_this_rock_lights), (h_this_rock_now, ob 6 [.ref h_this_rock_now_off, .int x_this_rock_now_watch, .int x_this_rock_now_score, .int x_this_rock_now_home]), (h_this_rock_now_off, ia G 6 f_this_rock_now_off), (h_this_rock_rules, ob 5 [.ref h_this_rock_rules_kinds, .ref h_this_rock_rules_deeds, .ref h_this_rock_rules_begins, .ref h_this_rock_rules_steps, .ref h_this_rock_rules_lefts, .ref h_this_rock_rules_rights, .ref h_this_rock_rules_facts, .int x_this_rock_rules_count, .int x_this_rock_rules_size]), (h_this_rock_rules_begins, ia G 9 f_this_rock_rules_begins), (h_this_rock_rules_deeds, ia G 8 f_this_rock_rules_deeds), (h_this_rock_rules_facts, ia G 5 m_this_rock_rules_facts), (h_this_rock_rules_kinds, ia G 8 f_this_rock_rules_kinds), (h_this_rock_rules_lefts, ia G 200 f_this_rock_rules_lefts), (h_this_rock_rules_rights, ia G 200 f_this_rock_rules_rights), (h_this_rock_rules_steps, ia G 200 f_this_rock_rules_steps), (h_this_rock_trims, ia G 6 f_this_rock_trims)] := by
  refine mFi.of (by decide +kernel) (Nat.le_of_ble_eq_true rfl) ?_
  intro p e s m below meth c A C hr hlk h ls hl
  obtain ⟨hx, hb, hml, hown, hts⟩ := id C
  replace hl : lv_has ls 2 [(0, .ref h_this), (1, .int p0)] := hl
  unfold f_X8_play at hf
  refine lv_iload_n hx hb dX8_play_0 rfl (lv_at hl 1 rfl) ?_
  refine lv_iconst (v := (1 : Int32)) hx hb dX8_play_1 rfl ?_
  refine lv_iconst (v := (4 : Int32)) hx hb dX8_play_2 rfl ?_
  replace hf := bd1_inv hf
  obtain ⟨r1, hc2, hf⟩ := hf
  refine r_ciS0 C h (c_X8_within hc2) ms_X8_79 rfl [] rfl rfl hl.1 rfl (Nat.le_of_ble_eq_true rfl) (rok (by decide)) dX8_play_3 (fun H locs h => ?_)
  refine lv_if_ne (tgt := 11) hx hb dX8_play_6 rfl (fun c3 => ?_) (fun c3 => ?_)
  · replace hf := ifn c3 hf
    refine lv_aload_n hx hb dX8_play_11 rfl (lv_at hl 0 rfl) ?_
    refine r_get C h fk_X8_10 0 rfl rfl dX8_play_12 ?_
    refine lv_aload_n hx hb dX8_play_15 rfl (lv_at hl 0 rfl) ?_
    refine r_get C h fk_X8_10 0 rfl rfl dX8_play_16 ?_
    refine r_get C h fk_X8_94 14 rfl rfl dX8_play_19 ?_
    replace hf := bd1_inv hf
    obtain ⟨r4, hc5, hf⟩ := hf
    refine r_ciV0 C h (c_X3_isOver hc5) mv_X8_159 rfl 14 rfl [20, 14] rfl rfl hl.1 rfl (Nat.le_of_ble_eq_true rfl) (rok (by decide)) dX8_play_22 (fun H locs h => ?_)
    refine lv_if_eq (tgt := 31) hx hb dX8_play_25 rfl (fun c6 => ?_) (fun c6 => ?_)
    · replace hf := ifp c6 hf
      refine lv_aload_n hx hb dX8_play_31 rfl (lv_at hl 0 rfl) ?_
      refine r_get C h fk_X8_29 0 rfl rfl dX8_play_32 ?_
      refine lv_aload_n hx hb dX8_play_35 rfl (lv_at hl 0 rfl) ?_
      refine r_get C h fk_X8_10 0 rfl rfl dX8_play_36 ?_
      refine lv_iload_n hx hb dX8_play_39 rfl (lv_at hl 1 rfl) ?_
      replace hf := bd24_inv hf
      obtain ⟨r7, g8, y9, g10, y11, y12, y13, g14, y15, y16, y17, g18, y19, y20, y21, g22, y23, y24, y25, g26, y27, y28, y29, g30, hc31, hf⟩ := hf
      refine r_ciV (ws' := [(h_this, ob 8 [.ref h_this_rock, .ref h_this_kept, .ref h_this_trial, .ref h_this_planner, .ref h_this_reader, .ref h_this_draft, .ref h_this_host, .ref h_this_thing, .ref h_this_tape, .ref h_this_rows, .int x_this_tapeCount, .int x_this_rowCount, .int x_this_isKept]), (h_this_planner, ob 1 [.ref h_this_planner_ahead, .ref h_this_planner_acts, .ref h_this_planner_first, .int y9, .int x_this_planner_wanted, .int x_this_planner_best, .int x_this_planner_ways, .int x_this_planner_fewest, .int x_this_planner_everHome]), (h_this_planner_acts, ia G 4 g10), (h_this_planner_ahead, ra G 5 (rl5 h_this_planner_ahead_0 h_this_planner_ahead_1 h_this_planner_ahead_2 h_this_planner_ahead_3 h_this_planner_ahead_4)), (h_this_planner_ahead_0, ob 6 [.ref h_this_planner_ahead_0_off, .int y11, .int y12, .int y13]), (h_this_planner_ahead_0_off, ia G 6 g14), (h_this_planner_ahead_1, ob 6 [.ref h_this_planner_ahead_1_off, .int y15, .int y16, .int y17]), (h_this_planner_ahead_1_off, ia G 6 g18), (h_this_planner_ahead_2, ob 6 [.ref h_this_planner_ahead_2_off, .int y19, .int y20, .int y21]), (h_this_planner_ahead_2_off, ia G 6 g22), (h_this_planner_ahead_3, ob 6 [.ref h_this_planner_ahead_3_off, .int y23, .int y24, .int y25]), (h_this_planner_ahead_3_off, ia G 6 g26), (h_this_planner_ahead_4, ob 6 [.ref h_this_planner_ahead_4_off, .int y27, .int y28, .int y29]), (h_this_planner_ahead_4_off, ia G 6 g30), (h_this_rock, ob 3 [.ref h_this_rock_kinds, .ref h_this_rock_trims, .ref h_this_rock_lanes, .ref h_this_rock_lights, .ref h_this_rock_currents, .ref h_this_rock_buoys, .ref h_this_rock_now, .ref h_this_rock_rules, .ref h_this_rock_reports, .int x_this_rock_count, .int x_this_rock_end, .int x_this_rock_z]), (h_this_rock_buoys, ia G 6 f_this_rock_buoys), (h_this_rock_currents, ia G 6 f_this_rock_currents), (h_this_rock_kinds, ia G 6 f_this_rock_kinds), (h_this_rock_lanes, ia G 6 f_this_rock_lanes), (h_this_rock_lights, ia G 16 f_this_rock_lights), (h_this_rock_now, ob 6 [.ref h_this_rock_now_off, .int x_this_rock_now_watch, .int x_this_rock_now_score, .int x_this_rock_now_home]), (h_this_rock_now_off, ia G 6 f_this_rock_now_off), (h_this_rock_rules, ob 5 [.ref h_this_rock_rules_kinds, .ref h_this_rock_rules_deeds, .ref h_this_rock_rules_begins, .ref h_this_rock_rules_steps, .ref h_this_rock_rules_lefts, .ref h_this_rock_rules_rights, .ref h_this_rock_rules_facts, .int x_this_rock_rules_count, .int x_this_rock_rules_size]), (h_this_rock_rules_begins, ia G 9 f_this_rock_rules_begins), (h_this_rock_rules_deeds, ia G 8 f_this_rock_rules_deeds), (h_this_rock_rules_facts, ia G 5 g8), (h_this_rock_rules_kinds, ia G 8 f_this_rock_rules_kinds), (h_this_rock_rules_lefts, ia G 200 f_this_rock_rules_lefts), (h_this_rock_rules_rights, ia G 200 f_this_rock_rules_rights), (h_this_rock_rules_steps, ia G 200 f_this_rock_rules_steps), (h_this_rock_trims, ia G 6 f_this_rock_trims)]) C h (c_X1_duelOf hc31) mv_X8_237 rfl 1 rfl [14, 15, 16, 17, 18, 19, 20, 21, 22, 23, 24, 25, 26, 27, 28, 29, 30, 1, 2, 3, 4, 5, 6, 7, 8, 9, 10, 11, 12, 13] rfl rfl rfl rfl rfl hl.1 rfl (Nat.le_of_ble_eq_true rfl) (rok (by decide)) dX8_play_40 (fun H locs h => ?_)
      refine lv_pop hx hb dX8_play_43 rfl ?_
      refine lv_aload_n hx hb dX8_play_44 rfl (lv_at hl 0 rfl) ?_
      refine r_get C h fk_X8_29 0 rfl rfl dX8_play_45 ?_
      refine r_get C h fk_X8_241 1 rfl rfl dX8_play_48 ?_
      refine lv_iconst (v := (0 : Int32)) hx hb dX8_play_51 rfl ?_
      refine r_ialdL C h 2 rfl (vlit rfl) 0 rfl dX8_play_52 ?_
      cases hf
      exact r_iret C h hr hlk rfl dX8_play_53
    · replace hf := ifn c6 hf
      refine lv_bipush (v := (-3 : Int32)) hx hb dX8_play_28 rfl ?_
      cases hf
      exact r_iret C h hr hlk rfl dX8_play_30
  · replace hf := ifp c3 hf
    refine lv_iconst (v := (-1 : Int32)) hx hb dX8_play_9 rfl ?_
    cases hf
    exact r_iret C h hr hlk rfl dX8_play_10
def f_X2_file (p0 : Int32) (p1 : Int32) (p2 : Int32) (p3 : Int32) (x_this_count : Int32) (f_this_askeds : Nat → Int32) (f_this_behinds : Nat → Int32) (f_this_leasts : Nat → Int32) (f_this_mosts : Nat → Int32) : Option (Int32 × Int32 × (Nat → Int32) × (Nat → Int32) × (Nat → Int32) × (Nat → Int32)) := chkI x_this_count 6 (chkI x_this_count 6 (chkI x_this_count 6 (chkI x_this_count 6 (lt1 (x_this_count + (1 : Int32)) (fun (t5 : Int32) => some (x_this_count, t5, upd f_this_askeds x_this_count.toNatClampNeg p1, upd f_this_behinds x_this_count.toNatClampNeg p0, upd f_this_leasts x_this_count.toNatClampNeg p2, upd f_this_mosts x_this_count.toNatClampNeg p3))))))
set_option maxRecDepth 100000 in
set_option maxHeartbeats 4000000 in
theorem c_X2_file {l : Launch} {G : Gt} {h_this h_this_behinds h_this_askeds h_this_leasts h_this_mosts : Nat} {p0 : Int32} {p1 : Int32} {p2 : Int32} {p3 : Int32} {x_this_count : Int32} {f_this_askeds : Nat → Int32} {f_this_behinds : Nat → Int32} {f_this_leasts : Nat → Int32} {f_this_mosts : Nat → Int32} {r : Int32} {m_this_count : Int32} {m_this_askeds : Nat → Int32} {m_this_behinds : Nat → Int32} {m_this_leasts : Nat → Int32} {m_this_mosts : Nat → Int32} (hf : f_X2_file p0 p1 p2 p3 x_this_count f_this_askeds f_this_behinds f_this_leasts f_this_mosts = some (r, m_this_count, m_this_askeds, m_this_behinds, m_this_leasts, m_this_mosts)) : mFi l G yX2_file cX2_file 6 .int 0 [.ref h_this, .int p0, .int p1, .int p2, .int p3] [(h_this, ob 2 [.ref h_this_behinds, .ref h_this_askeds, .ref h_this_leasts, .ref h_this_mosts, .int x_this_count]), (h_this_askeds, ia G 6 f_this_askeds), (h_this_behinds, ia G 6 f_this_behinds), (h_this_leasts, ia G 6 f_this_leasts), (h_this_mosts, ia G 6 f_this_mosts)] r [(h_this, ob 2 [.ref h_this_behinds, .ref h_this_askeds, .ref h_this_leasts, .ref h_this_mosts, .int m_this_count]), (h_this_askeds, ia G 6 m_this_askeds), (h_this_behinds, ia G 6 m_this_behinds), (h_this_leasts, ia G 6 m_this_leasts), (h_this_mosts, ia G 6 m_this_mosts)] := by
  refine mFi.of (by decide +kernel) (Nat.le_of_ble_eq_true rfl) ?_
  intro p e s m below meth c A C hr hlk h ls hl
  obtain ⟨hx, hb, hml, hown, hts⟩ := id C
  replace hl : lv_has ls 6 [(0, .ref h_this), (1, .int p0), (2, .int p1), (3, .int p2), (4, .int p3)] := hl
  unfold f_X2_file at hf
  refine lv_aload_n hx hb dX2_file_0 rfl (lv_at hl 0 rfl) ?_
  refine r_get C h fk_X2_24 0 rfl rfl dX2_file_1 ?_
  refine lv_istore (lv' := [(5, .int x_this_count), (0, .ref h_this), (1, .int p0), (2, .int p1), (3, .int p2), (4, .int p3)]) hx hb dX2_file_4 hl (by decide) rfl (fun ls hl => ?_)
  refine lv_aload_n hx hb dX2_file_6 rfl (lv_at hl 1 rfl) ?_
  refine r_get C h fk_X2_9 0 rfl rfl dX2_file_7 ?_
  refine lv_iload hx hb dX2_file_10 (lv_at hl 0 rfl) ?_
  refine lv_iload_n hx hb dX2_file_12 rfl (lv_at hl 2 rfl) ?_
  replace hf := chkI_inv hf
  obtain ⟨hi1, hf⟩ := hf
  refine r_iast (ws' := [(h_this, ob 2 [.ref h_this_behinds, .ref h_this_askeds, .ref h_this_leasts, .ref h_this_mosts, .int x_this_count]), (h_this_askeds, ia G 6 f_this_askeds), (h_this_behinds, ia G 6 (upd f_this_behinds x_this_count.toNatClampNeg p0)), (h_this_leasts, ia G 6 f_this_leasts), (h_this_mosts, ia G 6 f_this_mosts)]) C h 2 rfl hi1 dX2_file_13 rfl (fun H locs h => ?_)
  refine lv_aload_n hx hb dX2_file_14 rfl (lv_at hl 1 rfl) ?_
  refine r_get C h fk_X2_15 0 rfl rfl dX2_file_15 ?_
  refine lv_iload hx hb dX2_file_18 (lv_at hl 0 rfl) ?_
  refine lv_iload_n hx hb dX2_file_20 rfl (lv_at hl 3 rfl) ?_
  replace hf := chkI_inv hf
  obtain ⟨hi2, hf⟩ := hf
  refine r_iast (ws' := [(h_this, ob 2 [.ref h_this_behinds, .ref h_this_askeds, .ref h_this_leasts, .ref h_this_mosts, .int x_this_count]), (h_this_askeds, ia G 6 (upd f_this_askeds x_this_count.toNatClampNeg p1)), (h_this_behinds, ia G 6 (upd f_this_behinds x_this_count.toNatClampNeg p0)), (h_this_leasts, ia G 6 f_this_leasts), (h_this_mosts, ia G 6 f_this_mosts)]) C h 1 rfl hi2 dX2_file_21 rfl (fun H locs h => ?_)
  refine lv_aload_n hx hb dX2_file_22 rfl (lv_at hl 1 rfl) ?_
  refine r_get C h fk_X2_18 0 rfl rfl dX2_file_23 ?_
  refine lv_iload hx hb dX2_file_26 (lv_at hl 0 rfl) ?_
  refine lv_iload_n hx hb dX2_file_28 rfl (lv_at hl 4 rfl) ?_
  replace hf := chkI_inv hf
  obtain ⟨hi3, hf⟩ := hf
  refine r_iast (ws' := [(h_this, ob 2 [.ref h_this_behinds, .ref h_this_askeds, .ref h_this_leasts, .ref h_this_mosts, .int x_this_count]), (h_this_askeds, ia G 6 (upd f_this_askeds x_this_count.toNatClampNeg p1)), (h_this_behinds, ia G 6 (upd f_this_behinds x_this_count.toNatClampNeg p0)), (h_this_leasts, ia G 6 (upd f_this_leasts x_this_count.toNatClampNeg p2)), (h_this_mosts, ia G 6 f_this_mosts)]) C h 3 rfl hi3 dX2_file_29 rfl (fun H locs h => ?_)
  refine lv_aload_n hx hb dX2_file_30 rfl (lv_at hl 1 rfl) ?_
  refine r_get C h fk_X2_21 0 rfl rfl dX2_file_31 ?_
  refine lv_iload hx hb dX2_file_34 (lv_at hl 0 rfl) ?_
  refine lv_iload hx hb dX2_file_36 (lv_at hl 5 rfl) ?_
  replace hf := chkI_inv hf
  obtain ⟨hi4, hf⟩ := hf
  refine r_iast (ws' := [(h_this, ob 2 [.ref h_this_behinds, .ref h_this_askeds, .ref h_this_leasts, .ref h_this_mosts, .int x_this_count]), (h_this_askeds, ia G 6 (upd f_this_askeds x_this_count.toNatClampNeg p1)), (h_this_behinds, ia G 6 (upd f_this_behinds x_this_count.toNatClampNeg p0)), (h_this_leasts, ia G 6 (upd f_this_leasts x_this_count.toNatClampNeg p2)), (h_this_mosts, ia G 6 (upd f_this_mosts x_this_count.toNatClampNeg p3))]) C h 4 rfl hi4 dX2_file_38 rfl (fun H locs h => ?_)
  refine lv_aload_n hx hb dX2_file_39 rfl (lv_at hl 1 rfl) ?_
  refine lv_dup hx hb dX2_file_40 rfl ?_
  refine r_get C h fk_X2_24 0 rfl rfl dX2_file_41 ?_
  refine lv_iconst (v := (1 : Int32)) hx hb dX2_file_44 rfl ?_
  refine lv_iadd hx hb dX2_file_45 ?_
  refine lv_topi (fun t5 et5 => ?_)
  replace hf := lt1_inv et5 hf
  refine r_put (ws' := [(h_this, ob 2 [.ref h_this_behinds, .ref h_this_askeds, .ref h_this_leasts, .ref h_this_mosts, .int t5]), (h_this_askeds, ia G 6 (upd f_this_askeds x_this_count.toNatClampNeg p1)), (h_this_behinds, ia G 6 (upd f_this_behinds x_this_count.toNatClampNeg p0)), (h_this_leasts, ia G 6 (upd f_this_leasts x_this_count.toNatClampNeg p2)), (h_this_mosts, ia G 6 (upd f_this_mosts x_this_count.toNatClampNeg p3))]) C h fw_X2_24 0 rfl rfl rfl (Nat.le_of_ble_eq_true rfl) dX2_file_46 rfl (fun H locs h => ?_)
  refine lv_iload hx hb dX2_file_49 (lv_at hl 0 rfl) ?_
  cases hf
  exact r_iret C h hr hlk rfl dX2_file_51
def f_X8_report_b32 (p0 : Int32) (p1 : Int32) (p2 : Int32) (p3 : Int32) (x_this_rock_reports_count : Int32) (f_this_rock_reports_askeds : Nat → Int32) (f_this_rock_reports_behinds : Nat → Int32) (f_this_rock_reports_leasts : Nat → Int32) (f_this_rock_reports_mosts : Nat → Int32) (s0 : Int32) : Option (Int32 × Int32 × (Nat → Int32) × (Nat → Int32) × (Nat → Int32) × (Nat → Int32)) := bd1 (f_X8_within p2 (0 : Int32) s0) (fun r8 => (if r8 = 0 then some ((-1 : Int32), x_this_rock_reports_count, f_this_rock_reports_askeds, f_this_rock_reports_behinds, f_this_rock_reports_leasts, f_this_rock_reports_mosts) else bd1 (f_X8_within p3 p2 s0) (fun r11 => (if r11 = 0 then some ((-1 : Int32), x_this_rock_reports_count, f_this_rock_reports_askeds, f_this_rock_reports_behinds, f_this_rock_reports_leasts, f_this_rock_reports_mosts) else (if x_this_rock_reports_count < (6 : Int32) then bd6 (f_X2_file p0 p1 p2 p3 x_this_rock_reports_count f_this_rock_reports_askeds f_this_rock_reports_behinds f_this_rock_reports_leasts f_this_rock_reports_mosts) (fun r15 y16 g17 g18 g19 g20 => some (r15, y16, g17, g18, g19, g20)) else some ((-2 : Int32), x_this_rock_reports_count, f_this_rock_reports_askeds, f_this_rock_reports_behinds, f_this_rock_reports_leasts, f_this_rock_reports_mosts))))))
def f_X8_report (p0 : Int32) (p1 : Int32) (p2 : Int32) (p3 : Int32) (x_this_rock_reports_count : Int32) (f_this_rock_reports_askeds : Nat → Int32) (f_this_rock_reports_behinds : Nat → Int32) (f_this_rock_reports_leasts : Nat → Int32) (f_this_rock_reports_mosts : Nat → Int32) : Option (Int32 × Int32 × (Nat → Int32) × (Nat → Int32) × (Nat → Int32) × (Nat → Int32)) := bd1 (f_X8_within p0 (0 : Int32) (15 : Int32)) (fun r1 => (if r1 = 0 then some ((-1 : Int32), x_this_rock_reports_count, f_this_rock_reports_askeds, f_this_rock_reports_behinds, f_this_rock_reports_leasts, f_this_rock_reports_mosts) else bd1 (f_X8_within p1 (0 : Int32) (1 : Int32)) (fun r4 => (if r4 = 0 then some ((-1 : Int32), x_this_rock_reports_count, f_this_rock_reports_askeds, f_this_rock_reports_behinds, f_this_rock_reports_leasts, f_this_rock_reports_mosts) else (if p1 = 0 then f_X8_report_b32 p0 p1 p2 p3 x_this_rock_reports_count f_this_rock_reports_askeds f_this_rock_reports_behinds f_this_rock_reports_leasts f_this_rock_reports_mosts (99 : Int32) else f_X8_report_b32 p0 p1 p2 p3 x_this_rock_reports_count f_this_rock_reports_askeds f_this_rock_reports_behinds f_this_rock_reports_leasts f_this_rock_reports_mosts (16 : Int32))))))
set_option maxRecDepth 100000 in
set_option maxHeartbeats 4000000 in
theorem c_X8_report {l : Launch} {G : Gt} {h_this h_this_rock h_this_kept h_this_trial h_this_planner h_this_reader h_this_draft h_this_host h_this_thing h_this_tape h_this_rows h_this_rock_kinds h_this_rock_trims h_this_rock_lanes h_this_rock_lights h_this_rock_currents h_this_rock_buoys h_this_rock_now h_this_rock_rules h_this_rock_reports h_this_rock_reports_behinds h_this_rock_reports_askeds h_this_rock_reports_leasts h_this_rock_reports_mosts : Nat} {p0 : Int32} {p1 : Int32} {p2 : Int32} {p3 : Int32} {x_this_tapeCount : Int32} {x_this_rowCount : Int32} {x_this_isKept : Int32} {x_this_rock_count : Int32} {x_this_rock_end : Int32} {x_this_rock_z : Int32} {x_this_rock_reports_count : Int32} {f_this_rock_reports_askeds : Nat → Int32} {f_this_rock_reports_behinds : Nat → Int32} {f_this_rock_reports_leasts : Nat → Int32} {f_this_rock_reports_mosts : Nat → Int32} {r : Int32} {m_this_rock_reports_count : Int32} {m_this_rock_reports_askeds : Nat → Int32} {m_this_rock_reports_behinds : Nat → Int32} {m_this_rock_reports_leasts : Nat → Int32} {m_this_rock_reports_mosts : Nat → Int32} (hf : f_X8_report p0 p1 p2 p3 x_this_rock_reports_count f_this_rock_reports_askeds f_this_rock_reports_behinds f_this_rock_reports_leasts f_this_rock_reports_mosts = some (r, m_this_rock_reports_count, m_this_rock_reports_askeds, m_this_rock_reports_behinds, m_this_rock_reports_leasts, m_this_rock_reports_mosts)) : mFi l G yX8_report cX8_report 6 .int 1 [.ref h_this, .int p0, .int p1, .int p2, .int p3] [(h_this, ob 8 [.ref h_this_rock, .ref h_this_kept, .ref h_this_trial, .ref h_this_planner, .ref h_this_reader, .ref h_this_draft, .ref h_this_host, .ref h_this_thing, .ref h_this_tape, .ref h_this_rows, .int x_this_tapeCount, .int x_this_rowCount, .int x_this_isKept]), (h_this_rock, ob 3 [.ref h_this_rock_kinds, .ref h_this_rock_trims, .ref h_this_rock_lanes, .ref h_this_rock_lights, .ref h_this_rock_currents, .ref h_this_rock_buoys, .ref h_this_rock_now, .ref h_this_rock_rules, .ref h_this_rock_reports, .int x_this_rock_count, .int x_this_rock_end, .int x_this_rock_z]), (h_this_rock_reports, ob 2 [.ref h_this_rock_reports_behinds, .ref h_this_rock_reports_askeds, .ref h_this_rock_reports_leasts, .ref h_this_rock_reports_mosts, .int x_this_rock_reports_count]), (h_this_rock_reports_askeds, ia G 6 f_this_rock_reports_askeds), (h_this_rock_reports_behinds, ia G 6 f_this_rock_reports_behinds), (h_this_rock_reports_leasts, ia G 6 f_this_rock_reports_leasts), (h_this_rock_reports_mosts, ia G 6 f_this_rock_reports_mosts)] r [(h_this, ob 8 [.ref h_this_rock, .ref h_this_kept, .ref h_this_trial, .ref h_this_planner, .ref h_this_reader, .ref h_this_draft, .ref h_this_host, .ref h_this_thing, .ref h_this_tape, .ref h_this_rows, .int x_this_tapeCount, .int x_this_rowCount, .int x_this_isKept]), (h_this_rock, ob 3 [.ref h_this_rock_kinds, .ref h_this_rock_trims, .ref h_this_rock_lanes, .ref h_this_rock_lights, .ref h_this_rock_currents, .ref h_this_rock_buoys, .ref h_this_rock_now, .ref h_this_rock_rules, .ref h_this_rock_reports, .int x_this_rock_count, .int x_this_rock_end, .int x_this_rock_z]), (h_this_rock_reports, ob 2 [.ref h_this_rock_reports_behinds, .ref h_this_rock_reports_askeds, .ref h_this_rock_reports_leasts, .ref h_this_rock_reports_mosts, .int m_this_rock_reports_count]), (h_this_rock_reports_askeds, ia G 6 m_this_rock_reports_askeds), (h_this_rock_reports_behinds, ia G 6 m_this_rock_reports_behinds), (h_this_rock_reports_leasts, ia G 6 m_this_rock_reports_leasts), (h_this_rock_reports_mosts, ia G 6 m_this_rock_reports_mosts)] := by
  refine mFi.of (by decide +kernel) (Nat.le_of_ble_eq_true rfl) ?_
  intro p e s m below meth c A C hr hlk h ls hl
  obtain ⟨hx, hb, hml, hown, hts⟩ := id C
  replace hl : lv_has ls 6 [(0, .ref h_this), (1, .int p0), (2, .int p1), (3, .int p2), (4, .int p3)] := hl
  unfold f_X8_report at hf
  refine with_K G A 6 (fun K hK1 hK2 => ?_)
  have B32 : ∀ (s0 : Int32), f_X8_report_b32 p0 p1 p2 p3 x_this_rock_reports_count f_this_rock_reports_askeds f_this_rock_reports_behinds f_this_rock_reports_leasts f_this_rock_reports_mosts s0 = some (r, m_this_rock_reports_count, m_this_rock_reports_askeds, m_this_rock_reports_behinds, m_this_rock_reports_leasts, m_this_rock_reports_mosts) → K 32 [.int s0] [(h_this, ob 8 [.ref h_this_rock, .ref h_this_kept, .ref h_this_trial, .ref h_this_planner, .ref h_this_reader, .ref h_this_draft, .ref h_this_host, .ref h_this_thing, .ref h_this_tape, .ref h_this_rows, .int x_this_tapeCount, .int x_this_rowCount, .int x_this_isKept]), (h_this_rock, ob 3 [.ref h_this_rock_kinds, .ref h_this_rock_trims, .ref h_this_rock_lanes, .ref h_this_rock_lights, .ref h_this_rock_currents, .ref h_this_rock_buoys, .ref h_this_rock_now, .ref h_this_rock_rules, .ref h_this_rock_reports, .int x_this_rock_count, .int x_this_rock_end, .int x_this_rock_z]), (h_this_rock_reports, ob 2 [.ref h_this_rock_reports_behinds, .ref h_this_rock_reports_askeds, .ref h_this_rock_reports_leasts, .ref h_this_rock_reports_mosts, .int x_this_rock_reports_count]), (h_this_rock_reports_askeds, ia G 6 f_this_rock_reports_askeds), (h_this_rock_reports_behinds, ia G 6 f_this_rock_reports_behinds), (h_this_rock_reports_leasts, ia G 6 f_this_rock_reports_leasts), (h_this_rock_reports_mosts, ia G 6 f_this_rock_reports_mosts)] [(0, .ref h_this), (1, .int p0), (2, .int p1), (3, .int p2), (4, .int p3)] := by
    intro s0 hf
    unfold f_X8_report_b32 at hf
    refine hK1 _ _ _ _ (fun H locs ls h hl => ?_)
    refine lv_istore (lv' := [(5, .int s0), (0, .ref h_this), (1, .int p0), (2, .int p1), (3, .int p2), (4, .int p3)]) hx hb dX8_report_32 hl (by decide) rfl (fun ls hl => ?_)
    refine lv_iload_n hx hb dX8_report_34 rfl (lv_at hl 4 rfl) ?_
    refine lv_iconst (v := (0 : Int32)) hx hb dX8_report_35 rfl ?_
    refine lv_iload hx hb dX8_report_36 (lv_at hl 0 rfl) ?_
    replace hf := bd1_inv hf
    obtain ⟨r8, hc9, hf⟩ := hf
    refine r_ciS0 C h (c_X8_within hc9) ms_X8_79 rfl [] rfl rfl hl.1 rfl (Nat.le_of_ble_eq_true rfl) (rok (by decide)) dX8_report_38 (fun H locs h => ?_)
    refine lv_if_eq (tgt := 55) hx hb dX8_report_41 rfl (fun c10 => ?_) (fun c10 => ?_)
    · replace hf := ifp c10 hf
      refine lv_iconst (v := (-1 : Int32)) hx hb dX8_report_55 rfl ?_
      cases hf
      exact r_iret C h hr hlk rfl dX8_report_56
    · replace hf := ifn c10 hf
      refine lv_iload hx hb dX8_report_44 (lv_at hl 5 rfl) ?_
      refine lv_iload_n hx hb dX8_report_46 rfl (lv_at hl 4 rfl) ?_
      refine lv_iload hx hb dX8_report_47 (lv_at hl 0 rfl) ?_
      replace hf := bd1_inv hf
      obtain ⟨r11, hc12, hf⟩ := hf
      refine r_ciS0 C h (c_X8_within hc12) ms_X8_79 rfl [] rfl rfl hl.1 rfl (Nat.le_of_ble_eq_true rfl) (rok (by decide)) dX8_report_49 (fun H locs h => ?_)
      refine lv_if_ne (tgt := 57) hx hb dX8_report_52 rfl (fun c13 => ?_) (fun c13 => ?_)
      · replace hf := ifn c13 hf
        refine lv_aload_n hx hb dX8_report_57 rfl (lv_at hl 1 rfl) ?_
        refine r_get C h fk_X8_10 0 rfl rfl dX8_report_58 ?_
        refine r_get C h fk_X8_244 1 rfl rfl dX8_report_61 ?_
        refine r_get C h fk_X8_248 2 rfl rfl dX8_report_64 ?_
        refine lv_bipush (v := (6 : Int32)) hx hb dX8_report_67 rfl ?_
        refine lv_icmp_lt (tgt := 75) hx hb dX8_report_69 rfl (fun c14 => ?_) (fun c14 => ?_)
        · replace hf := ifp c14 hf
          refine lv_aload_n hx hb dX8_report_75 rfl (lv_at hl 1 rfl) ?_
          refine r_get C h fk_X8_10 0 rfl rfl dX8_report_76 ?_
          refine r_get C h fk_X8_244 1 rfl rfl dX8_report_79 ?_
          refine lv_iload_n hx hb dX8_report_82 rfl (lv_at hl 2 rfl) ?_
          refine lv_iload_n hx hb dX8_report_83 rfl (lv_at hl 3 rfl) ?_
          refine lv_iload_n hx hb dX8_report_84 rfl (lv_at hl 4 rfl) ?_
          refine lv_iload hx hb dX8_report_85 (lv_at hl 5 rfl) ?_
          replace hf := bd6_inv hf
          obtain ⟨r15, y16, g17, g18, g19, g20, hc21, hf⟩ := hf
          refine r_ciV (ws' := [(h_this, ob 8 [.ref h_this_rock, .ref h_this_kept, .ref h_this_trial, .ref h_this_planner, .ref h_this_reader, .ref h_this_draft, .ref h_this_host, .ref h_this_thing, .ref h_this_tape, .ref h_this_rows, .int x_this_tapeCount, .int x_this_rowCount, .int x_this_isKept]), (h_this_rock, ob 3 [.ref h_this_rock_kinds, .ref h_this_rock_trims, .ref h_this_rock_lanes, .ref h_this_rock_lights, .ref h_this_rock_currents, .ref h_this_rock_buoys, .ref h_this_rock_now, .ref h_this_rock_rules, .ref h_this_rock_reports, .int x_this_rock_count, .int x_this_rock_end, .int x_this_rock_z]), (h_this_rock_reports, ob 2 [.ref h_this_rock_reports_behinds, .ref h_this_rock_reports_askeds, .ref h_this_rock_reports_leasts, .ref h_this_rock_reports_mosts, .int y16]), (h_this_rock_reports_askeds, ia G 6 g17), (h_this_rock_reports_behinds, ia G 6 g18), (h_this_rock_reports_leasts, ia G 6 g19), (h_this_rock_reports_mosts, ia G 6 g20)]) C h (c_X2_file hc21) mv_X8_251 rfl 2 rfl [2, 3, 4, 5, 6] rfl rfl rfl rfl rfl hl.1 rfl (Nat.le_of_ble_eq_true rfl) (rok (by decide)) dX8_report_87 (fun H locs h => ?_)
          cases hf
          exact r_iret C h hr hlk rfl dX8_report_90
        · replace hf := ifn c14 hf
          refine lv_bipush (v := (-2 : Int32)) hx hb dX8_report_72 rfl ?_
          cases hf
          exact r_iret C h hr hlk rfl dX8_report_74
      · replace hf := ifp c13 hf
        refine lv_iconst (v := (-1 : Int32)) hx hb dX8_report_55 rfl ?_
        cases hf
        exact r_iret C h hr hlk rfl dX8_report_56
  refine lv_iload_n hx hb dX8_report_0 rfl (lv_at hl 1 rfl) ?_
  refine lv_iconst (v := (0 : Int32)) hx hb dX8_report_1 rfl ?_
  refine lv_bipush (v := (15 : Int32)) hx hb dX8_report_2 rfl ?_
  replace hf := bd1_inv hf
  obtain ⟨r1, hc2, hf⟩ := hf
  refine r_ciS0 C h (c_X8_within hc2) ms_X8_79 rfl [] rfl rfl hl.1 rfl (Nat.le_of_ble_eq_true rfl) (rok (by decide)) dX8_report_4 (fun H locs h => ?_)
  refine lv_if_eq (tgt := 19) hx hb dX8_report_7 rfl (fun c3 => ?_) (fun c3 => ?_)
  · replace hf := ifp c3 hf
    refine lv_iconst (v := (-1 : Int32)) hx hb dX8_report_19 rfl ?_
    cases hf
    exact r_iret C h hr hlk rfl dX8_report_20
  · replace hf := ifn c3 hf
    refine lv_iload_n hx hb dX8_report_10 rfl (lv_at hl 2 rfl) ?_
    refine lv_iconst (v := (0 : Int32)) hx hb dX8_report_11 rfl ?_
    refine lv_iconst (v := (1 : Int32)) hx hb dX8_report_12 rfl ?_
    replace hf := bd1_inv hf
    obtain ⟨r4, hc5, hf⟩ := hf
    refine r_ciS0 C h (c_X8_within hc5) ms_X8_79 rfl [] rfl rfl hl.1 rfl (Nat.le_of_ble_eq_true rfl) (rok (by decide)) dX8_report_13 (fun H locs h => ?_)
    refine lv_if_ne (tgt := 21) hx hb dX8_report_16 rfl (fun c6 => ?_) (fun c6 => ?_)
    · replace hf := ifn c6 hf
      refine lv_iload_n hx hb dX8_report_21 rfl (lv_at hl 2 rfl) ?_
      refine lv_if_ne (tgt := 30) hx hb dX8_report_22 rfl (fun c7 => ?_) (fun c7 => ?_)
      · replace hf := ifn c7 hf
        refine lv_bipush (v := (16 : Int32)) hx hb dX8_report_30 rfl ?_
        exact hK2 _ _ _ _ (B32 (16 : Int32) hf) _ _ _ h (lv_sub hl [0, 1, 2, 3, 4] rfl)
      · replace hf := ifp c7 hf
        refine lv_bipush (v := (99 : Int32)) hx hb dX8_report_25 rfl ?_
        refine lv_goto (tgt := 32) hx hb dX8_report_27 rfl ?_
        exact hK2 _ _ _ _ (B32 (99 : Int32) hf) _ _ _ h (lv_sub hl [0, 1, 2, 3, 4] rfl)
    · replace hf := ifp c6 hf
      refine lv_iconst (v := (-1 : Int32)) hx hb dX8_report_19 rfl ?_
      cases hf
      exact r_iret C h hr hlk rfl dX8_report_20
def f_X8_forget (x_this_rock_reports_count : Int32) : Option (Int32 × Int32) := some (x_this_rock_reports_count, (0 : Int32))
set_option maxRecDepth 100000 in
set_option maxHeartbeats 4000000 in
theorem c_X8_forget {l : Launch} {G : Gt} {h_this h_this_rock h_this_kept h_this_trial h_this_planner h_this_reader h_this_draft h_this_host h_this_thing h_this_tape h_this_rows h_this_rock_kinds h_this_rock_trims h_this_rock_lanes h_this_rock_lights h_this_rock_currents h_this_rock_buoys h_this_rock_now h_this_rock_rules h_this_rock_reports h_this_rock_reports_behinds h_this_rock_reports_askeds h_this_rock_reports_leasts h_this_rock_reports_mosts : Nat} {x_this_tapeCount : Int32} {x_this_rowCount : Int32} {x_this_isKept : Int32} {x_this_rock_count : Int32} {x_this_rock_end : Int32} {x_this_rock_z : Int32} {x_this_rock_reports_count : Int32} {r : Int32} {m_this_rock_reports_count : Int32} (hf : f_X8_forget x_this_rock_reports_count = some (r, m_this_rock_reports_count)) : mFi l G yX8_forget cX8_forget 2 .int 0 [.ref h_this] [(h_this, ob 8 [.ref h_this_rock, .ref h_this_kept, .ref h_this_trial, .ref h_this_planner, .ref h_this_reader, .ref h_this_draft, .ref h_this_host, .ref h_this_thing, .ref h_this_tape, .ref h_this_rows, .int x_this_tapeCount, .int x_this_rowCount, .int x_this_isKept]), (h_this_rock, ob 3 [.ref h_this_rock_kinds, .ref h_this_rock_trims, .ref h_this_rock_lanes, .ref h_this_rock_lights, .ref h_this_rock_currents, .ref h_this_rock_buoys, .ref h_this_rock_now, .ref h_this_rock_rules, .ref h_this_rock_reports, .int x_this_rock_count, .int x_this_rock_end, .int x_this_rock_z]), (h_this_rock_reports, ob 2 [.ref h_this_rock_reports_behinds, .ref h_this_rock_reports_askeds, .ref h_this_rock_reports_leasts, .ref h_this_rock_reports_mosts, .int x_this_rock_reports_count])] r [(h_this, ob 8 [.ref h_this_rock, .ref h_this_kept, .ref h_this_trial, .ref h_this_planner, .ref h_this_reader, .ref h_this_draft, .ref h_this_host, .ref h_this_thing, .ref h_this_tape, .ref h_this_rows, .int x_this_tapeCount, .int x_this_rowCount, .int x_this_isKept]), (h_this_rock, ob 3 [.ref h_this_rock_kinds, .ref h_this_rock_trims, .ref h_this_rock_lanes, .ref h_this_rock_lights, .ref h_this_rock_currents, .ref h_this_rock_buoys, .ref h_this_rock_now, .ref h_this_rock_rules, .ref h_this_rock_reports, .int x_this_rock_count, .int x_this_rock_end, .int x_this_rock_z]), (h_this_rock_reports, ob 2 [.ref h_this_rock_reports_behinds, .ref h_this_rock_reports_askeds, .ref h_this_rock_reports_leasts, .ref h_this_rock_reports_mosts, .int m_this_rock_reports_count])] := by
  refine mFi.of (by decide +kernel) (Nat.le_of_ble_eq_true rfl) ?_
  intro p e s m below meth c A C hr hlk h ls hl
  obtain ⟨hx, hb, hml, hown, hts⟩ := id C
  replace hl : lv_has ls 2 [(0, .ref h_this)] := hl
  unfold f_X8_forget at hf
  refine lv_aload_n hx hb dX8_forget_0 rfl (lv_at hl 0 rfl) ?_
  refine r_get C h fk_X8_10 0 rfl rfl dX8_forget_1 ?_
  refine r_get C h fk_X8_244 1 rfl rfl dX8_forget_4 ?_
  refine r_get C h fk_X8_248 2 rfl rfl dX8_forget_7 ?_
  refine lv_istore_n (lv' := [(1, .int x_this_rock_reports_count), (0, .ref h_this)]) hx hb dX8_forget_10 rfl hl (by decide) rfl (fun ls hl => ?_)
  refine lv_aload_n hx hb dX8_forget_11 rfl (lv_at hl 1 rfl) ?_
  refine r_get C h fk_X8_10 0 rfl rfl dX8_forget_12 ?_
  refine r_get C h fk_X8_244 1 rfl rfl dX8_forget_15 ?_
  refine lv_iconst (v := (0 : Int32)) hx hb dX8_forget_18 rfl ?_
  refine r_put (ws' := [(h_this, ob 8 [.ref h_this_rock, .ref h_this_kept, .ref h_this_trial, .ref h_this_planner, .ref h_this_reader, .ref h_this_draft, .ref h_this_host, .ref h_this_thing, .ref h_this_tape, .ref h_this_rows, .int x_this_tapeCount, .int x_this_rowCount, .int x_this_isKept]), (h_this_rock, ob 3 [.ref h_this_rock_kinds, .ref h_this_rock_trims, .ref h_this_rock_lanes, .ref h_this_rock_lights, .ref h_this_rock_currents, .ref h_this_rock_buoys, .ref h_this_rock_now, .ref h_this_rock_rules, .ref h_this_rock_reports, .int x_this_rock_count, .int x_this_rock_end, .int x_this_rock_z]), (h_this_rock_reports, ob 2 [.ref h_this_rock_reports_behinds, .ref h_this_rock_reports_askeds, .ref h_this_rock_reports_leasts, .ref h_this_rock_reports_mosts, .int (0 : Int32)])]) C h fw_X8_248 2 rfl rfl rfl (Nat.le_of_ble_eq_true rfl) dX8_forget_19 rfl (fun H locs h => ?_)
  refine lv_iload_n hx hb dX8_forget_22 rfl (lv_at hl 0 rfl) ?_
  cases hf
  exact r_iret C h hr hlk rfl dX8_forget_23
def f_X2_kindOf (p0 : Int32) : Option (Int32) := some ((1 : Int32) + (p0 / (100 : Int32)))
set_option maxRecDepth 100000 in
set_option maxHeartbeats 4000000 in
theorem c_X2_kindOf {l : Launch} {G : Gt} {p0 : Int32} {r : Int32} (hf : f_X2_kindOf p0 = some r) : mFi l G yX2_kindOf cX2_kindOf 1 .int 0 [.int p0] ([] : va_W) r ([] : va_W) := by
  refine mFi.of (by decide +kernel) (Nat.le_of_ble_eq_true rfl) ?_
  intro p e s m below meth c A C hr hlk h ls hl
  obtain ⟨hx, hb, hml, hown, hts⟩ := id C
  replace hl : lv_has ls 1 [(0, .int p0)] := hl
  unfold f_X2_kindOf at hf
  refine lv_iconst (v := (1 : Int32)) hx hb dX2_kindOf_0 rfl ?_
  refine lv_iload_n hx hb dX2_kindOf_1 rfl (lv_at hl 0 rfl) ?_
  refine lv_bipush (v := (100 : Int32)) hx hb dX2_kindOf_2 rfl ?_
  refine lv_idiv hx hb dX2_kindOf_4 (by decide) ?_
  refine lv_iadd hx hb dX2_kindOf_5 ?_
  cases hf
  exact r_iret C h hr hlk rfl dX2_kindOf_6
def f_X2_offOf (p0 : Int32) : Option (Int32) := some ((9 : Int32) * ((p0 - p0 / (10 : Int32) * (10 : Int32)) + (1 : Int32)))
set_option maxRecDepth 100000 in
set_option maxHeartbeats 4000000 in
theorem c_X2_offOf {l : Launch} {G : Gt} {p0 : Int32} {r : Int32} (hf : f_X2_offOf p0 = some r) : mFi l G yX2_offOf cX2_offOf 1 .int 0 [.int p0] ([] : va_W) r ([] : va_W) := by
  refine mFi.of (by decide +kernel) (Nat.le_of_ble_eq_true rfl) ?_
  intro p e s m below meth c A C hr hlk h ls hl
  obtain ⟨hx, hb, hml, hown, hts⟩ := id C
  replace hl : lv_has ls 1 [(0, .int p0)] := hl
  unfold f_X2_offOf at hf
  refine lv_bipush (v := (9 : Int32)) hx hb dX2_offOf_0 rfl ?_
  refine lv_iload_n hx hb dX2_offOf_2 rfl (lv_at hl 0 rfl) ?_
  refine lv_bipush (v := (10 : Int32)) hx hb dX2_offOf_3 rfl ?_
  refine lv_irem hx hb dX2_offOf_5 (by decide) ?_
  refine lv_iconst (v := (1 : Int32)) hx hb dX2_offOf_6 rfl ?_
  refine lv_iadd hx hb dX2_offOf_7 ?_
  refine lv_imul hx hb dX2_offOf_8 ?_
  cases hf
  exact r_iret C h hr hlk rfl dX2_offOf_9
def f_X2_latest_L4 (x_this_count : Int32) (f_this_behinds : Nat → Int32) : Nat → Int32 → Int32 → Option (Int32)
  | 0, _, _ => none
  | n + 1, v1, v2 => (if x_this_count ≤ v2 then some v1 else chkI v2 6 (lt1 (imax v1 (f_this_behinds v2.toNatClampNeg)) (fun (t3 : Int32) => lt1 (v2 + (1 : Int32)) (fun (t4 : Int32) => (f_X2_latest_L4 x_this_count f_this_behinds n) t3 t4))))
def f_X2_latest (x_this_count : Int32) (f_this_behinds : Nat → Int32) : Option (Int32) := f_X2_latest_L4 x_this_count f_this_behinds 1000 (-1 : Int32) (0 : Int32)
set_option maxRecDepth 100000 in
set_option maxHeartbeats 4000000 in
theorem c_X2_latest {l : Launch} {G : Gt} {h_this h_this_behinds h_this_askeds h_this_leasts h_this_mosts : Nat} {x_this_count : Int32} {f_this_behinds : Nat → Int32} {r : Int32} (hf : f_X2_latest x_this_count f_this_behinds = some r) : mFi l G yX2_latest cX2_latest 3 .int 1 [.ref h_this] [(h_this, ob 2 [.ref h_this_behinds, .ref h_this_askeds, .ref h_this_leasts, .ref h_this_mosts, .int x_this_count]), (h_this_behinds, ia G 6 f_this_behinds)] r [(h_this, ob 2 [.ref h_this_behinds, .ref h_this_askeds, .ref h_this_leasts, .ref h_this_mosts, .int x_this_count]), (h_this_behinds, ia G 6 f_this_behinds)] := by
  refine mFi.of (by decide +kernel) (Nat.le_of_ble_eq_true rfl) ?_
  intro p e s m below meth c A C hr hlk h ls hl
  obtain ⟨hx, hb, hml, hown, hts⟩ := id C
  replace hl : lv_has ls 3 [(0, .ref h_this)] := hl
  unfold f_X2_latest at hf
  refine with_K G A 3 (fun K hK1 hK2 => ?_)
  have L4 : ∀ (n : Nat) (v1 : Int32) (v2 : Int32), f_X2_latest_L4 x_this_count f_this_behinds n v1 v2 = some r → K 4 ([] : List Value) [(h_this, ob 2 [.ref h_this_behinds, .ref h_this_askeds, .ref h_this_leasts, .ref h_this_mosts, .int x_this_count]), (h_this_behinds, ia G 6 f_this_behinds)] [(0, .ref h_this), (1, .int v1), (2, .int v2)] := by
    intro n
    induction n with
    | zero =>
      intro v1 v2 hf
      replace hf : (none : Option _) = some _ := hf
      cases hf
    | succ n ih =>
      intro v1 v2 hf
      rw [f_X2_latest_L4] at hf
      refine hK1 _ _ _ _ (fun H locs ls h hl => ?_)
      refine lv_iload_n hx hb dX2_latest_4 rfl (lv_at hl 2 rfl) ?_
      refine lv_aload_n hx hb dX2_latest_5 rfl (lv_at hl 0 rfl) ?_
      refine r_get C h fk_X2_24 0 rfl rfl dX2_latest_6 ?_
      refine lv_icmp_ge (tgt := 29) hx hb dX2_latest_9 rfl (fun c1 => ?_) (fun c1 => ?_)
      · replace hf := ifp c1 hf
        refine lv_iload_n hx hb dX2_latest_29 rfl (lv_at hl 1 rfl) ?_
        cases hf
        exact r_iret C h hr hlk rfl dX2_latest_30
      · replace hf := ifn c1 hf
        refine lv_iload_n hx hb dX2_latest_12 rfl (lv_at hl 1 rfl) ?_
        refine lv_aload_n hx hb dX2_latest_13 rfl (lv_at hl 0 rfl) ?_
        refine r_get C h fk_X2_9 0 rfl rfl dX2_latest_14 ?_
        refine lv_iload_n hx hb dX2_latest_17 rfl (lv_at hl 2 rfl) ?_
        replace hf := chkI_inv hf
        obtain ⟨hi2, hf⟩ := hf
        refine r_iald C h 1 rfl hi2 dX2_latest_18 ?_
        refine r_imax C mx_X2_34 hl.1 (Nat.le_of_ble_eq_true rfl) (Nat.le_of_ble_eq_true rfl) dX2_latest_19 ?_
        refine lv_topi (fun t3 et3 => ?_)
        replace hf := lt1_inv et3 hf
        refine lv_istore_n (lv' := [(1, .int t3), (0, .ref h_this), (2, .int v2)]) hx hb dX2_latest_22 rfl hl (by decide) rfl (fun ls hl => ?_)
        obtain ⟨t4, et4⟩ : ∃ y : Int32, y = v2 + (1 : Int32) := ⟨_, rfl⟩
        replace hf := lt1_inv et4 hf
        refine lv_iinc (v := t4) (lv' := [(2, .int t4), (1, .int t3), (0, .ref h_this)]) hx hb dX2_latest_23 hl (k := 2) rfl (by rw [et4]; rfl) (by decide) rfl (fun ls hl => ?_)
        refine lv_goto (tgt := 4) hx hb dX2_latest_26 rfl ?_
        exact hK2 _ _ _ _ (ih t3 t4 hf) _ _ _ h (lv_sub hl [2, 1, 0] rfl)
  refine lv_iconst (v := (-1 : Int32)) hx hb dX2_latest_0 rfl ?_
  refine lv_istore_n (lv' := [(1, .int (-1 : Int32)), (0, .ref h_this)]) hx hb dX2_latest_1 rfl hl (by decide) rfl (fun ls hl => ?_)
  refine lv_iconst (v := (0 : Int32)) hx hb dX2_latest_2 rfl ?_
  refine lv_istore_n (lv' := [(2, .int (0 : Int32)), (1, .int (-1 : Int32)), (0, .ref h_this)]) hx hb dX2_latest_3 rfl hl (by decide) rfl (fun ls hl => ?_)
  exact hK2 _ _ _ _ (L4 1000 (-1 : Int32) (0 : Int32) hf) _ _ _ h (lv_sub hl [2, 1, 0] rfl)
def f_X2_wrongBehind_b67 (rec6 : Int32 → Int32 → Option (Int32)) (v4 : Int32) (v5 : Int32) : Option (Int32) := lt1 (v4 ||| ((1 : Int32) <<< (v5 &&& 31))) (fun (t9 : Int32) => lt1 (v5 + (1 : Int32)) (fun (t10 : Int32) => rec6 t9 t10))
def f_X2_wrongBehind_b30 (rec6 : Int32 → Int32 → Option (Int32)) (p0 : Int32) (f_this_behinds : Nat → Int32) (f_this_leasts : Nat → Int32) (f_this_mosts : Nat → Int32) (v4 : Int32) (v5 : Int32) (s0 : Int32) : Option (Int32) := chkI v5 6 ((if (f_this_behinds v5.toNatClampNeg) = p0 then chkI v5 6 ((if s0 < (f_this_leasts v5.toNatClampNeg) then f_X2_wrongBehind_b67 rec6 v4 v5 else chkI v5 6 ((if s0 ≤ (f_this_mosts v5.toNatClampNeg) then lt1 (v5 + (1 : Int32)) (fun (t13 : Int32) => rec6 v4 t13) else f_X2_wrongBehind_b67 rec6 v4 v5)))) else lt1 (v5 + (1 : Int32)) (fun (t6 : Int32) => rec6 v4 t6)))
def f_X2_wrongBehind_L6 (p0 : Int32) (p1 : Int32) (p2 : Int32) (x_this_count : Int32) (f_this_askeds : Nat → Int32) (f_this_behinds : Nat → Int32) (f_this_leasts : Nat → Int32) (f_this_mosts : Nat → Int32) : Nat → Int32 → Int32 → Option (Int32)
  | 0, _, _ => none
  | n + 1, v4, v5 => (if x_this_count ≤ v5 then some v4 else chkI v5 6 ((if (f_this_askeds v5.toNatClampNeg) = 0 then f_X2_wrongBehind_b30 (f_X2_wrongBehind_L6 p0 p1 p2 x_this_count f_this_askeds f_this_behinds f_this_leasts f_this_mosts n) p0 f_this_behinds f_this_leasts f_this_mosts v4 v5 p1 else f_X2_wrongBehind_b30 (f_X2_wrongBehind_L6 p0 p1 p2 x_this_count f_this_askeds f_this_behinds f_this_leasts f_this_mosts n) p0 f_this_behinds f_this_leasts f_this_mosts v4 v5 p2)))
def f_X2_wrongBehind (p0 : Int32) (p1 : Int32) (p2 : Int32) (x_this_count : Int32) (f_this_askeds : Nat → Int32) (f_this_behinds : Nat → Int32) (f_this_leasts : Nat → Int32) (f_this_mosts : Nat → Int32) : Option (Int32) := f_X2_wrongBehind_L6 p0 p1 p2 x_this_count f_this_askeds f_this_behinds f_this_leasts f_this_mosts 1000 (0 : Int32) (0 : Int32)
set_option maxRecDepth 100000 in
set_option maxHeartbeats 4000000 in
theorem c_X2_wrongBehind {l : Launch} {G : Gt} {h_this h_this_behinds h_this_askeds h_this_leasts h_this_mosts : Nat} {p0 : Int32} {p1 : Int32} {p2 : Int32} {x_this_count : Int32} {f_this_askeds : Nat → Int32} {f_this_behinds : Nat → Int32} {f_this_leasts : Nat → Int32} {f_this_mosts : Nat → Int32} {r : Int32} (hf : f_X2_wrongBehind p0 p1 p2 x_this_count f_this_askeds f_this_behinds f_this_leasts f_this_mosts = some r) : mFi l G yX2_wrongBehind cX2_wrongBehind 7 .int 0 [.ref h_this, .int p0, .int p1, .int p2] [(h_this, ob 2 [.ref h_this_behinds, .ref h_this_askeds, .ref h_this_leasts, .ref h_this_mosts, .int x_this_count]), (h_this_askeds, ia G 6 f_this_askeds), (h_this_behinds, ia G 6 f_this_behinds), (h_this_leasts, ia G 6 f_this_leasts), (h_this_mosts, ia G 6 f_this_mosts)] r [(h_this, ob 2 [.ref h_this_behinds, .ref h_this_askeds, .ref h_this_leasts, .ref h_this_mosts, .int x_this_count]), (h_this_askeds, ia G 6 f_this_askeds), (h_this_behinds, ia G 6 f_this_behinds), (h_this_leasts, ia G 6 f_this_leasts), (h_this_mosts, ia G 6 f_this_mosts)] := by
  refine mFi.of (by decide +kernel) (Nat.le_of_ble_eq_true rfl) ?_
  intro p e s m below meth c A C hr hlk h ls hl
  obtain ⟨hx, hb, hml, hown, hts⟩ := id C
  replace hl : lv_has ls 7 [(0, .ref h_this), (1, .int p0), (2, .int p1), (3, .int p2)] := hl
  unfold f_X2_wrongBehind at hf
  refine with_K G A 7 (fun K hK1 hK2 => ?_)
  have B67 : ∀ (rec6 : Int32 → Int32 → Option (Int32)) (hrec6 : ∀ (v4 : Int32) (v5 : Int32), rec6 v4 v5 = some r → K 6 ([] : List Value) [(h_this, ob 2 [.ref h_this_behinds, .ref h_this_askeds, .ref h_this_leasts, .ref h_this_mosts, .int x_this_count]), (h_this_askeds, ia G 6 f_this_askeds), (h_this_behinds, ia G 6 f_this_behinds), (h_this_leasts, ia G 6 f_this_leasts), (h_this_mosts, ia G 6 f_this_mosts)] [(0, .ref h_this), (1, .int p0), (2, .int p1), (3, .int p2), (4, .int v4), (5, .int v5)]) (v4 : Int32) (v5 : Int32), f_X2_wrongBehind_b67 rec6 v4 v5 = some r → K 67 ([] : List Value) [(h_this, ob 2 [.ref h_this_behinds, .ref h_this_askeds, .ref h_this_leasts, .ref h_this_mosts, .int x_this_count]), (h_this_askeds, ia G 6 f_this_askeds), (h_this_behinds, ia G 6 f_this_behinds), (h_this_leasts, ia G 6 f_this_leasts), (h_this_mosts, ia G 6 f_this_mosts)] [(0, .ref h_this), (1, .int p0), (2, .int p1), (3, .int p2), (4, .int v4), (5, .int v5)] := by
    intro rec6 hrec6 v4 v5 hf
    unfold f_X2_wrongBehind_b67 at hf
    refine hK1 _ _ _ _ (fun H locs ls h hl => ?_)
    refine lv_iload hx hb dX2_wrongBehind_67 (lv_at hl 4 rfl) ?_
    refine lv_iconst (v := (1 : Int32)) hx hb dX2_wrongBehind_69 rfl ?_
    refine lv_iload hx hb dX2_wrongBehind_70 (lv_at hl 5 rfl) ?_
    refine lv_ishl hx hb dX2_wrongBehind_72 ?_
    refine lv_ior hx hb dX2_wrongBehind_73 ?_
    refine lv_topi (fun t9 et9 => ?_)
    replace hf := lt1_inv et9 hf
    refine lv_istore (lv' := [(4, .int t9), (0, .ref h_this), (1, .int p0), (2, .int p1), (3, .int p2), (5, .int v5)]) hx hb dX2_wrongBehind_74 hl (by decide) rfl (fun ls hl => ?_)
    obtain ⟨t10, et10⟩ : ∃ y : Int32, y = v5 + (1 : Int32) := ⟨_, rfl⟩
    replace hf := lt1_inv et10 hf
    refine lv_iinc (v := t10) (lv' := [(5, .int t10), (4, .int t9), (0, .ref h_this), (1, .int p0), (2, .int p1), (3, .int p2)]) hx hb dX2_wrongBehind_76 hl (k := 5) rfl (by rw [et10]; rfl) (by decide) rfl (fun ls hl => ?_)
    refine lv_goto (tgt := 6) hx hb dX2_wrongBehind_79 rfl ?_
    exact hK2 _ _ _ _ (hrec6 t9 t10 hf) _ _ _ h (lv_sub hl [2, 3, 4, 5, 1, 0] rfl)
  have B30 : ∀ (rec6 : Int32 → Int32 → Option (Int32)) (hrec6 : ∀ (v4 : Int32) (v5 : Int32), rec6 v4 v5 = some r → K 6 ([] : List Value) [(h_this, ob 2 [.ref h_this_behinds, .ref h_this_askeds, .ref h_this_leasts, .ref h_this_mosts, .int x_this_count]), (h_this_askeds, ia G 6 f_this_askeds), (h_this_behinds, ia G 6 f_this_behinds), (h_this_leasts, ia G 6 f_this_leasts), (h_this_mosts, ia G 6 f_this_mosts)] [(0, .ref h_this), (1, .int p0), (2, .int p1), (3, .int p2), (4, .int v4), (5, .int v5)]) (v4 : Int32) (v5 : Int32) (s0 : Int32), f_X2_wrongBehind_b30 rec6 p0 f_this_behinds f_this_leasts f_this_mosts v4 v5 s0 = some r → K 30 [.int s0] [(h_this, ob 2 [.ref h_this_behinds, .ref h_this_askeds, .ref h_this_leasts, .ref h_this_mosts, .int x_this_count]), (h_this_askeds, ia G 6 f_this_askeds), (h_this_behinds, ia G 6 f_this_behinds), (h_this_leasts, ia G 6 f_this_leasts), (h_this_mosts, ia G 6 f_this_mosts)] [(0, .ref h_this), (1, .int p0), (2, .int p1), (3, .int p2), (4, .int v4), (5, .int v5)] := by
    intro rec6 hrec6 v4 v5 s0 hf
    unfold f_X2_wrongBehind_b30 at hf
    refine hK1 _ _ _ _ (fun H locs ls h hl => ?_)
    refine lv_istore (lv' := [(6, .int s0), (0, .ref h_this), (1, .int p0), (2, .int p1), (3, .int p2), (4, .int v4), (5, .int v5)]) hx hb dX2_wrongBehind_30 hl (by decide) rfl (fun ls hl => ?_)
    refine lv_aload_n hx hb dX2_wrongBehind_32 rfl (lv_at hl 1 rfl) ?_
    refine r_get C h fk_X2_9 0 rfl rfl dX2_wrongBehind_33 ?_
    refine lv_iload hx hb dX2_wrongBehind_36 (lv_at hl 6 rfl) ?_
    replace hf := chkI_inv hf
    obtain ⟨hi4, hf⟩ := hf
    refine r_iald C h 2 rfl hi4 dX2_wrongBehind_38 ?_
    refine lv_iload_n hx hb dX2_wrongBehind_39 rfl (lv_at hl 2 rfl) ?_
    refine lv_icmp_ne (tgt := 76) hx hb dX2_wrongBehind_40 rfl (fun c5 => ?_) (fun c5 => ?_)
    · replace hf := ifn c5 hf
      obtain ⟨t6, et6⟩ : ∃ y : Int32, y = v5 + (1 : Int32) := ⟨_, rfl⟩
      replace hf := lt1_inv et6 hf
      refine lv_iinc (v := t6) (lv' := [(5, .int t6), (6, .int s0), (0, .ref h_this), (1, .int p0), (2, .int p1), (3, .int p2), (4, .int v4)]) hx hb dX2_wrongBehind_76 hl (k := 6) rfl (by rw [et6]; rfl) (by decide) rfl (fun ls hl => ?_)
      refine lv_goto (tgt := 6) hx hb dX2_wrongBehind_79 rfl ?_
      exact hK2 _ _ _ _ (hrec6 v4 t6 hf) _ _ _ h (lv_sub hl [2, 3, 4, 5, 6, 0] rfl)
    · replace hf := ifp c5 hf
      refine lv_iload hx hb dX2_wrongBehind_43 (lv_at hl 0 rfl) ?_
      refine lv_aload_n hx hb dX2_wrongBehind_45 rfl (lv_at hl 1 rfl) ?_
      refine r_get C h fk_X2_18 0 rfl rfl dX2_wrongBehind_46 ?_
      refine lv_iload hx hb dX2_wrongBehind_49 (lv_at hl 6 rfl) ?_
      replace hf := chkI_inv hf
      obtain ⟨hi7, hf⟩ := hf
      refine r_iald C h 3 rfl hi7 dX2_wrongBehind_51 ?_
      refine lv_icmp_lt (tgt := 67) hx hb dX2_wrongBehind_52 rfl (fun c8 => ?_) (fun c8 => ?_)
      · replace hf := ifp c8 hf
        exact hK2 _ _ _ _ (B67 _ hrec6 v4 v5 hf) _ _ _ h (lv_sub hl [1, 2, 3, 4, 5, 6] rfl)
      · replace hf := ifn c8 hf
        refine lv_iload hx hb dX2_wrongBehind_55 (lv_at hl 0 rfl) ?_
        refine lv_aload_n hx hb dX2_wrongBehind_57 rfl (lv_at hl 1 rfl) ?_
        refine r_get C h fk_X2_21 0 rfl rfl dX2_wrongBehind_58 ?_
        refine lv_iload hx hb dX2_wrongBehind_61 (lv_at hl 6 rfl) ?_
        replace hf := chkI_inv hf
        obtain ⟨hi11, hf⟩ := hf
        refine r_iald C h 4 rfl hi11 dX2_wrongBehind_63 ?_
        refine lv_icmp_le (tgt := 76) hx hb dX2_wrongBehind_64 rfl (fun c12 => ?_) (fun c12 => ?_)
        · replace hf := ifp c12 hf
          obtain ⟨t13, et13⟩ : ∃ y : Int32, y = v5 + (1 : Int32) := ⟨_, rfl⟩
          replace hf := lt1_inv et13 hf
          refine lv_iinc (v := t13) (lv' := [(5, .int t13), (6, .int s0), (0, .ref h_this), (1, .int p0), (2, .int p1), (3, .int p2), (4, .int v4)]) hx hb dX2_wrongBehind_76 hl (k := 6) rfl (by rw [et13]; rfl) (by decide) rfl (fun ls hl => ?_)
          refine lv_goto (tgt := 6) hx hb dX2_wrongBehind_79 rfl ?_
          exact hK2 _ _ _ _ (hrec6 v4 t13 hf) _ _ _ h (lv_sub hl [2, 3, 4, 5, 6, 0] rfl)
        · replace hf := ifn c12 hf
          exact hK2 _ _ _ _ (B67 _ hrec6 v4 v5 hf) _ _ _ h (lv_sub hl [1, 2, 3, 4, 5, 6] rfl)
  have L6 : ∀ (n : Nat) (v4 : Int32) (v5 : Int32), f_X2_wrongBehind_L6 p0 p1 p2 x_this_count f_this_askeds f_this_behinds f_this_leasts f_this_mosts n v4 v5 = some r → K 6 ([] : List Value) [(h_this, ob 2 [.ref h_this_behinds, .ref h_this_askeds, .ref h_this_leasts, .ref h_this_mosts, .int x_this_count]), (h_this_askeds, ia G 6 f_this_askeds), (h_this_behinds, ia G 6 f_this_behinds), (h_this_leasts, ia G 6 f_this_leasts), (h_this_mosts, ia G 6 f_this_mosts)] [(0, .ref h_this), (1, .int p0), (2, .int p1), (3, .int p2), (4, .int v4), (5, .int v5)] := by
    intro n
    induction n with
    | zero =>
      intro v4 v5 hf
      replace hf : (none : Option _) = some _ := hf
      cases hf
    | succ n ih =>
      intro v4 v5 hf
      rw [f_X2_wrongBehind_L6] at hf
      refine hK1 _ _ _ _ (fun H locs ls h hl => ?_)
      refine lv_iload hx hb dX2_wrongBehind_6 (lv_at hl 5 rfl) ?_
      refine lv_aload_n hx hb dX2_wrongBehind_8 rfl (lv_at hl 0 rfl) ?_
      refine r_get C h fk_X2_24 0 rfl rfl dX2_wrongBehind_9 ?_
      refine lv_icmp_ge (tgt := 82) hx hb dX2_wrongBehind_12 rfl (fun c1 => ?_) (fun c1 => ?_)
      · replace hf := ifp c1 hf
        refine lv_iload hx hb dX2_wrongBehind_82 (lv_at hl 4 rfl) ?_
        cases hf
        exact r_iret C h hr hlk rfl dX2_wrongBehind_84
      · replace hf := ifn c1 hf
        refine lv_aload_n hx hb dX2_wrongBehind_15 rfl (lv_at hl 0 rfl) ?_
        refine r_get C h fk_X2_15 0 rfl rfl dX2_wrongBehind_16 ?_
        refine lv_iload hx hb dX2_wrongBehind_19 (lv_at hl 5 rfl) ?_
        replace hf := chkI_inv hf
        obtain ⟨hi2, hf⟩ := hf
        refine r_iald C h 1 rfl hi2 dX2_wrongBehind_21 ?_
        refine lv_if_ne (tgt := 29) hx hb dX2_wrongBehind_22 rfl (fun c3 => ?_) (fun c3 => ?_)
        · replace hf := ifn c3 hf
          refine lv_iload_n hx hb dX2_wrongBehind_29 rfl (lv_at hl 3 rfl) ?_
          exact hK2 _ _ _ _ (B30 _ ih v4 v5 p2 hf) _ _ _ h (lv_sub hl [0, 1, 2, 3, 4, 5] rfl)
        · replace hf := ifp c3 hf
          refine lv_iload_n hx hb dX2_wrongBehind_25 rfl (lv_at hl 2 rfl) ?_
          refine lv_goto (tgt := 30) hx hb dX2_wrongBehind_26 rfl ?_
          exact hK2 _ _ _ _ (B30 _ ih v4 v5 p1 hf) _ _ _ h (lv_sub hl [0, 1, 2, 3, 4, 5] rfl)
  refine lv_iconst (v := (0 : Int32)) hx hb dX2_wrongBehind_0 rfl ?_
  refine lv_istore (lv' := [(4, .int (0 : Int32)), (0, .ref h_this), (1, .int p0), (2, .int p1), (3, .int p2)]) hx hb dX2_wrongBehind_1 hl (by decide) rfl (fun ls hl => ?_)
  refine lv_iconst (v := (0 : Int32)) hx hb dX2_wrongBehind_3 rfl ?_
  refine lv_istore (lv' := [(5, .int (0 : Int32)), (4, .int (0 : Int32)), (0, .ref h_this), (1, .int p0), (2, .int p1), (3, .int p2)]) hx hb dX2_wrongBehind_4 hl (by decide) rfl (fun ls hl => ?_)
  exact hK2 _ _ _ _ (L6 1000 (0 : Int32) (0 : Int32) hf) _ _ _ h (lv_sub hl [2, 3, 4, 5, 1, 0] rfl)
def f_X2_trimOf (p0 : Int32) : Option (Int32) := some ((p0 / (10 : Int32)) - (p0 / (10 : Int32)) / (10 : Int32) * (10 : Int32))
set_option maxRecDepth 100000 in
set_option maxHeartbeats 4000000 in
theorem c_X2_trimOf {l : Launch} {G : Gt} {p0 : Int32} {r : Int32} (hf : f_X2_trimOf p0 = some r) : mFi l G yX2_trimOf cX2_trimOf 1 .int 0 [.int p0] ([] : va_W) r ([] : va_W) := by
  refine mFi.of (by decide +kernel) (Nat.le_of_ble_eq_true rfl) ?_
  intro p e s m below meth c A C hr hlk h ls hl
  obtain ⟨hx, hb, hml, hown, hts⟩ := id C
  replace hl : lv_has ls 1 [(0, .int p0)] := hl
  unfold f_X2_trimOf at hf
  refine lv_iload_n hx hb dX2_trimOf_0 rfl (lv_at hl 0 rfl) ?_
  refine lv_bipush (v := (10 : Int32)) hx hb dX2_trimOf_1 rfl ?_
  refine lv_idiv hx hb dX2_trimOf_3 (by decide) ?_
  refine lv_bipush (v := (10 : Int32)) hx hb dX2_trimOf_4 rfl ?_
  refine lv_irem hx hb dX2_trimOf_6 (by decide) ?_
  cases hf
  exact r_iret C h hr hlk rfl dX2_trimOf_7
def f_X2_wrongFor_b79 (rec31 : Int32 → Int32 → Int32 → Int32 → Int32 → Int32 → Option (Int32)) (n_a1 : Nat) (f_a1 : Nat → Int32) (v3 : Int32) (v4 : Int32) (v5 : Int32) (v6 : Int32) (v7 : Int32) (v8 : Int32) : Option (Int32) := chkI v8 n_a1 (bd1 (f_X8_nearsAlone v3 (f_a1 v8.toNatClampNeg) v8) (fun r14 => lt1 (imax (0 : Int32) (v4 - r14)) (fun (t16 : Int32) => lt1 (v8 + (1 : Int32)) (fun (t17 : Int32) => rec31 v3 t16 v5 v6 v7 t17))))
def f_X2_wrongFor_L31 (p0 : Int32) (n_a1 : Nat) (f_a1 : Nat → Int32) (x_this_count : Int32) (f_this_askeds : Nat → Int32) (f_this_behinds : Nat → Int32) (f_this_leasts : Nat → Int32) (f_this_mosts : Nat → Int32) : Nat → Int32 → Int32 → Int32 → Int32 → Int32 → Int32 → Option (Int32)
  | 0, _, _, _, _, _, _ => none
  | n + 1, v3, v4, v5, v6, v7, v8 => (if v5 < v8 then some v7 else bd1 (f_X2_wrongBehind v8 v4 v6 x_this_count f_this_askeds f_this_behinds f_this_leasts f_this_mosts) (fun r9 => lt1 (v7 ||| r9) (fun (t11 : Int32) => (if v4 < (1 : Int32) then f_X2_wrongFor_b79 (f_X2_wrongFor_L31 p0 n_a1 f_a1 x_this_count f_this_askeds f_this_behinds f_this_leasts f_this_mosts n) n_a1 f_a1 v3 v4 v5 v6 t11 v8 else bd1 (f_X2_trimOf p0) (fun r18 => chkI v8 n_a1 (bd1 (f_X8_reachesAlone v3 r18 (f_a1 v8.toNatClampNeg)) (fun r21 => (if r21 < v4 then f_X2_wrongFor_b79 (f_X2_wrongFor_L31 p0 n_a1 f_a1 x_this_count f_this_askeds f_this_behinds f_this_leasts f_this_mosts n) n_a1 f_a1 v3 v4 v5 v6 t11 v8 else lt1 (v6 + (1 : Int32)) (fun (t24 : Int32) => f_X2_wrongFor_b79 (f_X2_wrongFor_L31 p0 n_a1 f_a1 x_this_count f_this_askeds f_this_behinds f_this_leasts f_this_mosts n) n_a1 f_a1 v3 v4 v5 t24 t11 v8)))))))))
def f_X2_wrongFor (p0 : Int32) (n_a1 : Nat) (f_a1 : Nat → Int32) (x_this_count : Int32) (f_this_askeds : Nat → Int32) (f_this_behinds : Nat → Int32) (f_this_leasts : Nat → Int32) (f_this_mosts : Nat → Int32) : Option (Int32) := bd1 (f_X2_kindOf p0) (fun r1 => bd1 (f_X2_offOf p0) (fun r3 => bd1 (f_X2_latest x_this_count f_this_behinds) (fun r5 => lt1 (imin r5 (15 : Int32)) (fun (t7 : Int32) => f_X2_wrongFor_L31 p0 n_a1 f_a1 x_this_count f_this_askeds f_this_behinds f_this_leasts f_this_mosts 1000 r1 r3 t7 (0 : Int32) (0 : Int32) (0 : Int32)))))
set_option maxRecDepth 100000 in
set_option maxHeartbeats 4000000 in
theorem c_X2_wrongFor {l : Launch} {G : Gt} {h_a1 h_this h_this_behinds h_this_askeds h_this_leasts h_this_mosts : Nat} {p0 : Int32} {n_a1 : Nat} {f_a1 : Nat → Int32} {x_this_count : Int32} {f_this_askeds : Nat → Int32} {f_this_behinds : Nat → Int32} {f_this_leasts : Nat → Int32} {f_this_mosts : Nat → Int32} {r : Int32} (hf : f_X2_wrongFor p0 n_a1 f_a1 x_this_count f_this_askeds f_this_behinds f_this_leasts f_this_mosts = some r) : mFi l G yX2_wrongFor cX2_wrongFor 9 .int 2 [.ref h_this, .int p0, .ref h_a1] [(h_a1, ia G n_a1 f_a1), (h_this, ob 2 [.ref h_this_behinds, .ref h_this_askeds, .ref h_this_leasts, .ref h_this_mosts, .int x_this_count]), (h_this_askeds, ia G 6 f_this_askeds), (h_this_behinds, ia G 6 f_this_behinds), (h_this_leasts, ia G 6 f_this_leasts), (h_this_mosts, ia G 6 f_this_mosts)] r [(h_a1, ia G n_a1 f_a1), (h_this, ob 2 [.ref h_this_behinds, .ref h_this_askeds, .ref h_this_leasts, .ref h_this_mosts, .int x_this_count]), (h_this_askeds, ia G 6 f_this_askeds), (h_this_behinds, ia G 6 f_this_behinds), (h_this_leasts, ia G 6 f_this_leasts), (h_this_mosts, ia G 6 f_this_mosts)] := by
  refine mFi.of (by decide +kernel) (Nat.le_of_ble_eq_true rfl) ?_
  intro p e s m below meth c A C hr hlk h ls hl
  obtain ⟨hx, hb, hml, hown, hts⟩ := id C
  replace hl : lv_has ls 9 [(0, .ref h_this), (1, .int p0), (2, .ref h_a1)] := hl
  unfold f_X2_wrongFor at hf
  refine with_K G A 9 (fun K hK1 hK2 => ?_)
  have B79 : ∀ (rec31 : Int32 → Int32 → Int32 → Int32 → Int32 → Int32 → Option (Int32)) (hrec31 : ∀ (v3 : Int32) (v4 : Int32) (v5 : Int32) (v6 : Int32) (v7 : Int32) (v8 : Int32), rec31 v3 v4 v5 v6 v7 v8 = some r → K 31 ([] : List Value) [(h_a1, ia G n_a1 f_a1), (h_this, ob 2 [.ref h_this_behinds, .ref h_this_askeds, .ref h_this_leasts, .ref h_this_mosts, .int x_this_count]), (h_this_askeds, ia G 6 f_this_askeds), (h_this_behinds, ia G 6 f_this_behinds), (h_this_leasts, ia G 6 f_this_leasts), (h_this_mosts, ia G 6 f_this_mosts)] [(0, .ref h_this), (1, .int p0), (2, .ref h_a1), (3, .int v3), (4, .int v4), (5, .int v5), (6, .int v6), (7, .int v7), (8, .int v8)]) (v3 : Int32) (v4 : Int32) (v5 : Int32) (v6 : Int32) (v7 : Int32) (v8 : Int32), f_X2_wrongFor_b79 rec31 n_a1 f_a1 v3 v4 v5 v6 v7 v8 = some r → K 79 ([] : List Value) [(h_a1, ia G n_a1 f_a1), (h_this, ob 2 [.ref h_this_behinds, .ref h_this_askeds, .ref h_this_leasts, .ref h_this_mosts, .int x_this_count]), (h_this_askeds, ia G 6 f_this_askeds), (h_this_behinds, ia G 6 f_this_behinds), (h_this_leasts, ia G 6 f_this_leasts), (h_this_mosts, ia G 6 f_this_mosts)] [(0, .ref h_this), (1, .int p0), (2, .ref h_a1), (3, .int v3), (4, .int v4), (5, .int v5), (6, .int v6), (7, .int v7), (8, .int v8)] := by
    intro rec31 hrec31 v3 v4 v5 v6 v7 v8 hf
    unfold f_X2_wrongFor_b79 at hf
    refine hK1 _ _ _ _ (fun H locs ls h hl => ?_)
    refine lv_iconst (v := (0 : Int32)) hx hb dX2_wrongFor_79 rfl ?_
    refine lv_iload hx hb dX2_wrongFor_80 (lv_at hl 4 rfl) ?_
    refine lv_iload_n hx hb dX2_wrongFor_82 rfl (lv_at hl 3 rfl) ?_
    refine lv_aload_n hx hb dX2_wrongFor_83 rfl (lv_at hl 2 rfl) ?_
    refine lv_iload hx hb dX2_wrongFor_84 (lv_at hl 8 rfl) ?_
    replace hf := chkI_inv hf
    obtain ⟨hi13, hf⟩ := hf
    refine r_iald C h 0 rfl hi13 dX2_wrongFor_86 ?_
    refine lv_iload hx hb dX2_wrongFor_87 (lv_at hl 8 rfl) ?_
    replace hf := bd1_inv hf
    obtain ⟨r14, hc15, hf⟩ := hf
    refine r_ciN0 C h (c_X8_nearsAlone hc15) mn_X2_64 rfl [] rfl rfl hl.1 rfl (Nat.le_of_ble_eq_true rfl) (rok (by decide)) dX2_wrongFor_89 (fun H locs h => ?_)
    refine lv_isub hx hb dX2_wrongFor_92 ?_
    refine r_imax C mx_X2_34 hl.1 (Nat.le_of_ble_eq_true rfl) (Nat.le_of_ble_eq_true rfl) dX2_wrongFor_93 ?_
    refine lv_topi (fun t16 et16 => ?_)
    replace hf := lt1_inv et16 hf
    refine lv_istore (lv' := [(4, .int t16), (0, .ref h_this), (1, .int p0), (2, .ref h_a1), (3, .int v3), (5, .int v5), (6, .int v6), (7, .int v7), (8, .int v8)]) hx hb dX2_wrongFor_96 hl (by decide) rfl (fun ls hl => ?_)
    obtain ⟨t17, et17⟩ : ∃ y : Int32, y = v8 + (1 : Int32) := ⟨_, rfl⟩
    replace hf := lt1_inv et17 hf
    refine lv_iinc (v := t17) (lv' := [(8, .int t17), (4, .int t16), (0, .ref h_this), (1, .int p0), (2, .ref h_a1), (3, .int v3), (5, .int v5), (6, .int v6), (7, .int v7)]) hx hb dX2_wrongFor_98 hl (k := 8) rfl (by rw [et17]; rfl) (by decide) rfl (fun ls hl => ?_)
    refine lv_goto (tgt := 31) hx hb dX2_wrongFor_101 rfl ?_
    exact hK2 _ _ _ _ (hrec31 v3 t16 v5 v6 v7 t17 hf) _ _ _ h (lv_sub hl [2, 3, 4, 5, 1, 6, 7, 8, 0] rfl)
  have L31 : ∀ (n : Nat) (v3 : Int32) (v4 : Int32) (v5 : Int32) (v6 : Int32) (v7 : Int32) (v8 : Int32), f_X2_wrongFor_L31 p0 n_a1 f_a1 x_this_count f_this_askeds f_this_behinds f_this_leasts f_this_mosts n v3 v4 v5 v6 v7 v8 = some r → K 31 ([] : List Value) [(h_a1, ia G n_a1 f_a1), (h_this, ob 2 [.ref h_this_behinds, .ref h_this_askeds, .ref h_this_leasts, .ref h_this_mosts, .int x_this_count]), (h_this_askeds, ia G 6 f_this_askeds), (h_this_behinds, ia G 6 f_this_behinds), (h_this_leasts, ia G 6 f_this_leasts), (h_this_mosts, ia G 6 f_this_mosts)] [(0, .ref h_this), (1, .int p0), (2, .ref h_a1), (3, .int v3), (4, .int v4), (5, .int v5), (6, .int v6), (7, .int v7), (8, .int v8)] := by
    intro n
    induction n with
    | zero =>
      intro v3 v4 v5 v6 v7 v8 hf
      replace hf : (none : Option _) = some _ := hf
      cases hf
    | succ n ih =>
      intro v3 v4 v5 v6 v7 v8 hf
      rw [f_X2_wrongFor_L31] at hf
      refine hK1 _ _ _ _ (fun H locs ls h hl => ?_)
      refine lv_iload hx hb dX2_wrongFor_31 (lv_at hl 8 rfl) ?_
      refine lv_iload hx hb dX2_wrongFor_33 (lv_at hl 5 rfl) ?_
      refine lv_icmp_gt (tgt := 104) hx hb dX2_wrongFor_35 rfl (fun c8 => ?_) (fun c8 => ?_)
      · replace hf := ifp c8 hf
        refine lv_iload hx hb dX2_wrongFor_104 (lv_at hl 7 rfl) ?_
        cases hf
        exact r_iret C h hr hlk rfl dX2_wrongFor_106
      · replace hf := ifn c8 hf
        refine lv_iload hx hb dX2_wrongFor_38 (lv_at hl 7 rfl) ?_
        refine lv_aload_n hx hb dX2_wrongFor_40 rfl (lv_at hl 0 rfl) ?_
        refine lv_iload hx hb dX2_wrongFor_41 (lv_at hl 8 rfl) ?_
        refine lv_iload hx hb dX2_wrongFor_43 (lv_at hl 4 rfl) ?_
        refine lv_iload hx hb dX2_wrongFor_45 (lv_at hl 6 rfl) ?_
        replace hf := bd1_inv hf
        obtain ⟨r9, hc10, hf⟩ := hf
        refine r_ciV0 C h (c_X2_wrongBehind hc10) mv_X2_54 rfl 1 rfl [1, 2, 3, 4, 5] rfl rfl hl.1 rfl (Nat.le_of_ble_eq_true rfl) (rok (by decide)) dX2_wrongFor_47 (fun H locs h => ?_)
        refine lv_ior hx hb dX2_wrongFor_50 ?_
        refine lv_topi (fun t11 et11 => ?_)
        replace hf := lt1_inv et11 hf
        refine lv_istore (lv' := [(7, .int t11), (0, .ref h_this), (1, .int p0), (2, .ref h_a1), (3, .int v3), (4, .int v4), (5, .int v5), (6, .int v6), (8, .int v8)]) hx hb dX2_wrongFor_51 hl (by decide) rfl (fun ls hl => ?_)
        refine lv_iload hx hb dX2_wrongFor_53 (lv_at hl 5 rfl) ?_
        refine lv_iconst (v := (1 : Int32)) hx hb dX2_wrongFor_55 rfl ?_
        refine lv_icmp_lt (tgt := 79) hx hb dX2_wrongFor_56 rfl (fun c12 => ?_) (fun c12 => ?_)
        · replace hf := ifp c12 hf
          exact hK2 _ _ _ _ (B79 _ ih v3 v4 v5 v6 t11 v8 hf) _ _ _ h (lv_sub hl [1, 2, 3, 4, 5, 6, 7, 0, 8] rfl)
        · replace hf := ifn c12 hf
          refine lv_iload hx hb dX2_wrongFor_59 (lv_at hl 5 rfl) ?_
          refine lv_iload_n hx hb dX2_wrongFor_61 rfl (lv_at hl 4 rfl) ?_
          refine lv_iload_n hx hb dX2_wrongFor_62 rfl (lv_at hl 2 rfl) ?_
          replace hf := bd1_inv hf
          obtain ⟨r18, hc19, hf⟩ := hf
          refine r_ciS0 C h (c_X2_trimOf hc19) ms_X2_58 rfl [] rfl rfl hl.1 rfl (Nat.le_of_ble_eq_true rfl) (rok (by decide)) dX2_wrongFor_63 (fun H locs h => ?_)
          refine lv_aload_n hx hb dX2_wrongFor_66 rfl (lv_at hl 3 rfl) ?_
          refine lv_iload hx hb dX2_wrongFor_67 (lv_at hl 8 rfl) ?_
          replace hf := chkI_inv hf
          obtain ⟨hi20, hf⟩ := hf
          refine r_iald C h 0 rfl hi20 dX2_wrongFor_69 ?_
          replace hf := bd1_inv hf
          obtain ⟨r21, hc22, hf⟩ := hf
          refine r_ciN0 C h (c_X8_reachesAlone hc22) mn_X2_61 rfl [] rfl rfl hl.1 rfl (Nat.le_of_ble_eq_true rfl) (rok (by decide)) dX2_wrongFor_70 (fun H locs h => ?_)
          refine lv_icmp_gt (tgt := 79) hx hb dX2_wrongFor_73 rfl (fun c23 => ?_) (fun c23 => ?_)
          · replace hf := ifp c23 hf
            exact hK2 _ _ _ _ (B79 _ ih v3 v4 v5 v6 t11 v8 hf) _ _ _ h (lv_sub hl [1, 2, 3, 4, 5, 6, 7, 0, 8] rfl)
          · replace hf := ifn c23 hf
            obtain ⟨t24, et24⟩ : ∃ y : Int32, y = v6 + (1 : Int32) := ⟨_, rfl⟩
            replace hf := lt1_inv et24 hf
            refine lv_iinc (v := t24) (lv' := [(6, .int t24), (7, .int t11), (0, .ref h_this), (1, .int p0), (2, .ref h_a1), (3, .int v3), (4, .int v4), (5, .int v5), (8, .int v8)]) hx hb dX2_wrongFor_76 hl (k := 7) rfl (by rw [et24]; rfl) (by decide) rfl (fun ls hl => ?_)
            exact hK2 _ _ _ _ (B79 _ ih v3 v4 v5 t24 t11 v8 hf) _ _ _ h (lv_sub hl [2, 3, 4, 5, 6, 7, 0, 1, 8] rfl)
  refine lv_iload_n hx hb dX2_wrongFor_0 rfl (lv_at hl 1 rfl) ?_
  replace hf := bd1_inv hf
  obtain ⟨r1, hc2, hf⟩ := hf
  refine r_ciS0 C h (c_X2_kindOf hc2) ms_X2_40 rfl [] rfl rfl hl.1 rfl (Nat.le_of_ble_eq_true rfl) (rok (by decide)) dX2_wrongFor_1 (fun H locs h => ?_)
  refine lv_istore_n (lv' := [(3, .int r1), (0, .ref h_this), (1, .int p0), (2, .ref h_a1)]) hx hb dX2_wrongFor_4 rfl hl (by decide) rfl (fun ls hl => ?_)
  refine lv_iload_n hx hb dX2_wrongFor_5 rfl (lv_at hl 2 rfl) ?_
  replace hf := bd1_inv hf
  obtain ⟨r3, hc4, hf⟩ := hf
  refine r_ciS0 C h (c_X2_offOf hc4) ms_X2_44 rfl [] rfl rfl hl.1 rfl (Nat.le_of_ble_eq_true rfl) (rok (by decide)) dX2_wrongFor_6 (fun H locs h => ?_)
  refine lv_istore (lv' := [(4, .int r3), (3, .int r1), (0, .ref h_this), (1, .int p0), (2, .ref h_a1)]) hx hb dX2_wrongFor_9 hl (by decide) rfl (fun ls hl => ?_)
  refine lv_aload_n hx hb dX2_wrongFor_11 rfl (lv_at hl 2 rfl) ?_
  replace hf := bd1_inv hf
  obtain ⟨r5, hc6, hf⟩ := hf
  refine r_ciV0 C h (c_X2_latest hc6) mv_X2_47 rfl 1 rfl [1, 3] rfl rfl hl.1 rfl (Nat.le_of_ble_eq_true rfl) (rok (by decide)) dX2_wrongFor_12 (fun H locs h => ?_)
  refine lv_bipush (v := (15 : Int32)) hx hb dX2_wrongFor_15 rfl ?_
  refine r_imin C mi_X2_51 hl.1 (Nat.le_of_ble_eq_true rfl) (Nat.le_of_ble_eq_true rfl) dX2_wrongFor_17 ?_
  refine lv_topi (fun t7 et7 => ?_)
  replace hf := lt1_inv et7 hf
  refine lv_istore (lv' := [(5, .int t7), (4, .int r3), (3, .int r1), (0, .ref h_this), (1, .int p0), (2, .ref h_a1)]) hx hb dX2_wrongFor_20 hl (by decide) rfl (fun ls hl => ?_)
  refine lv_iconst (v := (0 : Int32)) hx hb dX2_wrongFor_22 rfl ?_
  refine lv_istore (lv' := [(6, .int (0 : Int32)), (5, .int t7), (4, .int r3), (3, .int r1), (0, .ref h_this), (1, .int p0), (2, .ref h_a1)]) hx hb dX2_wrongFor_23 hl (by decide) rfl (fun ls hl => ?_)
  refine lv_iconst (v := (0 : Int32)) hx hb dX2_wrongFor_25 rfl ?_
  refine lv_istore (lv' := [(7, .int (0 : Int32)), (6, .int (0 : Int32)), (5, .int t7), (4, .int r3), (3, .int r1), (0, .ref h_this), (1, .int p0), (2, .ref h_a1)]) hx hb dX2_wrongFor_26 hl (by decide) rfl (fun ls hl => ?_)
  refine lv_iconst (v := (0 : Int32)) hx hb dX2_wrongFor_28 rfl ?_
  refine lv_istore (lv' := [(8, .int (0 : Int32)), (7, .int (0 : Int32)), (6, .int (0 : Int32)), (5, .int t7), (4, .int r3), (3, .int r1), (0, .ref h_this), (1, .int p0), (2, .ref h_a1)]) hx hb dX2_wrongFor_29 hl (by decide) rfl (fun ls hl => ?_)
  exact hK2 _ _ _ _ (L31 1000 r1 r3 t7 (0 : Int32) (0 : Int32) (0 : Int32) hf) _ _ _ h (lv_sub hl [6, 7, 8, 5, 4, 3, 2, 1, 0] rfl)
def f_X8_countLone_L4 (f_this_rock_lights : Nat → Int32) (x_this_rock_reports_count : Int32) (f_this_rock_reports_askeds : Nat → Int32) (f_this_rock_reports_behinds : Nat → Int32) (f_this_rock_reports_leasts : Nat → Int32) (f_this_rock_reports_mosts : Nat → Int32) : Nat → Int32 → Int32 → Option (Int32)
  | 0, _, _ => none
  | n + 1, v1, v2 => (if (500 : Int32) ≤ v2 then some v1 else bd1 (f_X2_wrongFor v2 16 f_this_rock_lights x_this_rock_reports_count f_this_rock_reports_askeds f_this_rock_reports_behinds f_this_rock_reports_leasts f_this_rock_reports_mosts) (fun r2 => (if r2 = 0 then lt1 (v1 + (1 : Int32)) (fun (t6 : Int32) => lt1 (v2 + (1 : Int32)) (fun (t7 : Int32) => (f_X8_countLone_L4 f_this_rock_lights x_this_rock_reports_count f_this_rock_reports_askeds f_this_rock_reports_behinds f_this_rock_reports_leasts f_this_rock_reports_mosts n) t6 t7)) else lt1 (v2 + (1 : Int32)) (fun (t5 : Int32) => (f_X8_countLone_L4 f_this_rock_lights x_this_rock_reports_count f_this_rock_reports_askeds f_this_rock_reports_behinds f_this_rock_reports_leasts f_this_rock_reports_mosts n) v1 t5))))
def f_X8_countLone (f_this_rock_lights : Nat → Int32) (x_this_rock_reports_count : Int32) (f_this_rock_reports_askeds : Nat → Int32) (f_this_rock_reports_behinds : Nat → Int32) (f_this_rock_reports_leasts : Nat → Int32) (f_this_rock_reports_mosts : Nat → Int32) : Option (Int32) := f_X8_countLone_L4 f_this_rock_lights x_this_rock_reports_count f_this_rock_reports_askeds f_this_rock_reports_behinds f_this_rock_reports_leasts f_this_rock_reports_mosts 1000 (0 : Int32) (0 : Int32)
set_option maxRecDepth 100000 in
set_option maxHeartbeats 4000000 in
theorem c_X8_countLone {l : Launch} {G : Gt} {h_this h_this_rock h_this_kept h_this_trial h_this_planner h_this_reader h_this_draft h_this_host h_this_thing h_this_tape h_this_rows h_this_rock_kinds h_this_rock_trims h_this_rock_lanes h_this_rock_lights h_this_rock_currents h_this_rock_buoys h_this_rock_now h_this_rock_rules h_this_rock_reports h_this_rock_reports_behinds h_this_rock_reports_askeds h_this_rock_reports_leasts h_this_rock_reports_mosts : Nat} {x_this_tapeCount : Int32} {x_this_rowCount : Int32} {x_this_isKept : Int32} {x_this_rock_count : Int32} {x_this_rock_end : Int32} {x_this_rock_z : Int32} {f_this_rock_lights : Nat → Int32} {x_this_rock_reports_count : Int32} {f_this_rock_reports_askeds : Nat → Int32} {f_this_rock_reports_behinds : Nat → Int32} {f_this_rock_reports_leasts : Nat → Int32} {f_this_rock_reports_mosts : Nat → Int32} {r : Int32} (hf : f_X8_countLone f_this_rock_lights x_this_rock_reports_count f_this_rock_reports_askeds f_this_rock_reports_behinds f_this_rock_reports_leasts f_this_rock_reports_mosts = some r) : mFi l G yX8_countLone cX8_countLone 3 .int 3 [.ref h_this] [(h_this, ob 8 [.ref h_this_rock, .ref h_this_kept, .ref h_this_trial, .ref h_this_planner, .ref h_this_reader, .ref h_this_draft, .ref h_this_host, .ref h_this_thing, .ref h_this_tape, .ref h_this_rows, .int x_this_tapeCount, .int x_this_rowCount, .int x_this_isKept]), (h_this_rock, ob 3 [.ref h_this_rock_kinds, .ref h_this_rock_trims, .ref h_this_rock_lanes, .ref h_this_rock_lights, .ref h_this_rock_currents, .ref h_this_rock_buoys, .ref h_this_rock_now, .ref h_this_rock_rules, .ref h_this_rock_reports, .int x_this_rock_count, .int x_this_rock_end, .int x_this_rock_z]), (h_this_rock_lights, ia G 16 f_this_rock_lights), (h_this_rock_reports, ob 2 [.ref h_this_rock_reports_behinds, .ref h_this_rock_reports_askeds, .ref h_this_rock_reports_leasts, .ref h_this_rock_reports_mosts, .int x_this_rock_reports_count]), (h_this_rock_reports_askeds, ia G 6 f_this_rock_reports_askeds), (h_this_rock_reports_behinds, ia G 6 f_this_rock_reports_behinds), (h_this_rock_reports_leasts, ia G 6 f_this_rock_reports_leasts), (h_this_rock_reports_mosts, ia G 6 f_this_rock_reports_mosts)] r [(h_this, ob 8 [.ref h_this_rock, .ref h_this_kept, .ref h_this_trial, .ref h_this_planner, .ref h_this_reader, .ref h_this_draft, .ref h_this_host, .ref h_this_thing, .ref h_this_tape, .ref h_this_rows, .int x_this_tapeCount, .int x_this_rowCount, .int x_this_isKept]), (h_this_rock, ob 3 [.ref h_this_rock_kinds, .ref h_this_rock_trims, .ref h_this_rock_lanes, .ref h_this_rock_lights, .ref h_this_rock_currents, .ref h_this_rock_buoys, .ref h_this_rock_now, .ref h_this_rock_rules, .ref h_this_rock_reports, .int x_this_rock_count, .int x_this_rock_end, .int x_this_rock_z]), (h_this_rock_lights, ia G 16 f_this_rock_lights), (h_this_rock_reports, ob 2 [.ref h_this_rock_reports_behinds, .ref h_this_rock_reports_askeds, .ref h_this_rock_reports_leasts, .ref h_this_rock_reports_mosts, .int x_this_rock_reports_count]), (h_this_rock_reports_askeds, ia G 6 f_this_rock_reports_askeds), (h_this_rock_reports_behinds, ia G 6 f_this_rock_reports_behinds), (h_this_rock_reports_leasts, ia G 6 f_this_rock_reports_leasts), (h_this_rock_reports_mosts, ia G 6 f_this_rock_reports_mosts)] := by
  refine mFi.of (by decide +kernel) (Nat.le_of_ble_eq_true rfl) ?_
  intro p e s m below meth c A C hr hlk h ls hl
  obtain ⟨hx, hb, hml, hown, hts⟩ := id C
  replace hl : lv_has ls 3 [(0, .ref h_this)] := hl
  unfold f_X8_countLone at hf
  refine with_K G A 3 (fun K hK1 hK2 => ?_)
  have L4 : ∀ (n : Nat) (v1 : Int32) (v2 : Int32), f_X8_countLone_L4 f_this_rock_lights x_this_rock_reports_count f_this_rock_reports_askeds f_this_rock_reports_behinds f_this_rock_reports_leasts f_this_rock_reports_mosts n v1 v2 = some r → K 4 ([] : List Value) [(h_this, ob 8 [.ref h_this_rock, .ref h_this_kept, .ref h_this_trial, .ref h_this_planner, .ref h_this_reader, .ref h_this_draft, .ref h_this_host, .ref h_this_thing, .ref h_this_tape, .ref h_this_rows, .int x_this_tapeCount, .int x_this_rowCount, .int x_this_isKept]), (h_this_rock, ob 3 [.ref h_this_rock_kinds, .ref h_this_rock_trims, .ref h_this_rock_lanes, .ref h_this_rock_lights, .ref h_this_rock_currents, .ref h_this_rock_buoys, .ref h_this_rock_now, .ref h_this_rock_rules, .ref h_this_rock_reports, .int x_this_rock_count, .int x_this_rock_end, .int x_this_rock_z]), (h_this_rock_lights, ia G 16 f_this_rock_lights), (h_this_rock_reports, ob 2 [.ref h_this_rock_reports_behinds, .ref h_this_rock_reports_askeds, .ref h_this_rock_reports_leasts, .ref h_this_rock_reports_mosts, .int x_this_rock_reports_count]), (h_this_rock_reports_askeds, ia G 6 f_this_rock_reports_askeds), (h_this_rock_reports_behinds, ia G 6 f_this_rock_reports_behinds), (h_this_rock_reports_leasts, ia G 6 f_this_rock_reports_leasts), (h_this_rock_reports_mosts, ia G 6 f_this_rock_reports_mosts)] [(0, .ref h_this), (1, .int v1), (2, .int v2)] := by
    intro n
    induction n with
    | zero =>
      intro v1 v2 hf
      replace hf : (none : Option _) = some _ := hf
      cases hf
    | succ n ih =>
      intro v1 v2 hf
      rw [f_X8_countLone_L4] at hf
      refine hK1 _ _ _ _ (fun H locs ls h hl => ?_)
      refine lv_iload_n hx hb dX8_countLone_4 rfl (lv_at hl 2 rfl) ?_
      refine lv_sipush (v := (500 : Int32)) hx hb dX8_countLone_5 rfl ?_
      refine lv_icmp_ge (tgt := 41) hx hb dX8_countLone_8 rfl (fun c1 => ?_) (fun c1 => ?_)
      · replace hf := ifp c1 hf
        refine lv_iload_n hx hb dX8_countLone_41 rfl (lv_at hl 1 rfl) ?_
        cases hf
        exact r_iret C h hr hlk rfl dX8_countLone_42
      · replace hf := ifn c1 hf
        refine lv_aload_n hx hb dX8_countLone_11 rfl (lv_at hl 0 rfl) ?_
        refine r_get C h fk_X8_10 0 rfl rfl dX8_countLone_12 ?_
        refine r_get C h fk_X8_244 1 rfl rfl dX8_countLone_15 ?_
        refine lv_iload_n hx hb dX8_countLone_18 rfl (lv_at hl 2 rfl) ?_
        refine lv_aload_n hx hb dX8_countLone_19 rfl (lv_at hl 0 rfl) ?_
        refine r_get C h fk_X8_10 0 rfl rfl dX8_countLone_20 ?_
        refine r_get C h fk_X8_138 1 rfl rfl dX8_countLone_23 ?_
        replace hf := bd1_inv hf
        obtain ⟨r2, hc3, hf⟩ := hf
        refine r_ciV0 C h (c_X2_wrongFor hc3) mv_X8_269 rfl 3 rfl [2, 3, 4, 5, 6, 7] rfl rfl hl.1 rfl (Nat.le_of_ble_eq_true rfl) (rok (by decide)) dX8_countLone_26 (fun H locs h => ?_)
        refine lv_if_ne (tgt := 35) hx hb dX8_countLone_29 rfl (fun c4 => ?_) (fun c4 => ?_)
        · replace hf := ifn c4 hf
          obtain ⟨t5, et5⟩ : ∃ y : Int32, y = v2 + (1 : Int32) := ⟨_, rfl⟩
          replace hf := lt1_inv et5 hf
          refine lv_iinc (v := t5) (lv' := [(2, .int t5), (0, .ref h_this), (1, .int v1)]) hx hb dX8_countLone_35 hl (k := 2) rfl (by rw [et5]; rfl) (by decide) rfl (fun ls hl => ?_)
          refine lv_goto (tgt := 4) hx hb dX8_countLone_38 rfl ?_
          exact hK2 _ _ _ _ (ih v1 t5 hf) _ _ _ h (lv_sub hl [1, 2, 0] rfl)
        · replace hf := ifp c4 hf
          obtain ⟨t6, et6⟩ : ∃ y : Int32, y = v1 + (1 : Int32) := ⟨_, rfl⟩
          replace hf := lt1_inv et6 hf
          refine lv_iinc (v := t6) (lv' := [(1, .int t6), (0, .ref h_this), (2, .int v2)]) hx hb dX8_countLone_32 hl (k := 1) rfl (by rw [et6]; rfl) (by decide) rfl (fun ls hl => ?_)
          obtain ⟨t7, et7⟩ : ∃ y : Int32, y = v2 + (1 : Int32) := ⟨_, rfl⟩
          replace hf := lt1_inv et7 hf
          refine lv_iinc (v := t7) (lv' := [(2, .int t7), (1, .int t6), (0, .ref h_this)]) hx hb dX8_countLone_35 hl (k := 2) rfl (by rw [et7]; rfl) (by decide) rfl (fun ls hl => ?_)
          refine lv_goto (tgt := 4) hx hb dX8_countLone_38 rfl ?_
          exact hK2 _ _ _ _ (ih t6 t7 hf) _ _ _ h (lv_sub hl [2, 1, 0] rfl)
  refine lv_iconst (v := (0 : Int32)) hx hb dX8_countLone_0 rfl ?_
  refine lv_istore_n (lv' := [(1, .int (0 : Int32)), (0, .ref h_this)]) hx hb dX8_countLone_1 rfl hl (by decide) rfl (fun ls hl => ?_)
  refine lv_iconst (v := (0 : Int32)) hx hb dX8_countLone_2 rfl ?_
  refine lv_istore_n (lv' := [(2, .int (0 : Int32)), (1, .int (0 : Int32)), (0, .ref h_this)]) hx hb dX8_countLone_3 rfl hl (by decide) rfl (fun ls hl => ?_)
  exact hK2 _ _ _ _ (L4 1000 (0 : Int32) (0 : Int32) hf) _ _ _ h (lv_sub hl [2, 1, 0] rfl)
def f_X8_firstLone_L2 (f_this_rock_lights : Nat → Int32) (x_this_rock_reports_count : Int32) (f_this_rock_reports_askeds : Nat → Int32) (f_this_rock_reports_behinds : Nat → Int32) (f_this_rock_reports_leasts : Nat → Int32) (f_this_rock_reports_mosts : Nat → Int32) : Nat → Int32 → Option (Int32)
  | 0, _ => none
  | n + 1, v1 => (if (500 : Int32) ≤ v1 then some (-3 : Int32) else bd1 (f_X2_wrongFor v1 16 f_this_rock_lights x_this_rock_reports_count f_this_rock_reports_askeds f_this_rock_reports_behinds f_this_rock_reports_leasts f_this_rock_reports_mosts) (fun r2 => (if r2 = 0 then some v1 else lt1 (v1 + (1 : Int32)) (fun (t5 : Int32) => (f_X8_firstLone_L2 f_this_rock_lights x_this_rock_reports_count f_this_rock_reports_askeds f_this_rock_reports_behinds f_this_rock_reports_leasts f_this_rock_reports_mosts n) t5))))
def f_X8_firstLone (f_this_rock_lights : Nat → Int32) (x_this_rock_reports_count : Int32) (f_this_rock_reports_askeds : Nat → Int32) (f_this_rock_reports_behinds : Nat → Int32) (f_this_rock_reports_leasts : Nat → Int32) (f_this_rock_reports_mosts : Nat → Int32) : Option (Int32) := f_X8_firstLone_L2 f_this_rock_lights x_this_rock_reports_count f_this_rock_reports_askeds f_this_rock_reports_behinds f_this_rock_reports_leasts f_this_rock_reports_mosts 1000 (0 : Int32)
set_option maxRecDepth 100000 in
set_option maxHeartbeats 4000000 in
theorem c_X8_firstLone {l : Launch} {G : Gt} {h_this h_this_rock h_this_kept h_this_trial h_this_planner h_this_reader h_this_draft h_this_host h_this_thing h_this_tape h_this_rows h_this_rock_kinds h_this_rock_trims h_this_rock_lanes h_this_rock_lights h_this_rock_currents h_this_rock_buoys h_this_rock_now h_this_rock_rules h_this_rock_reports h_this_rock_reports_behinds h_this_rock_reports_askeds h_this_rock_reports_leasts h_this_rock_reports_mosts : Nat} {x_this_tapeCount : Int32} {x_this_rowCount : Int32} {x_this_isKept : Int32} {x_this_rock_count : Int32} {x_this_rock_end : Int32} {x_this_rock_z : Int32} {f_this_rock_lights : Nat → Int32} {x_this_rock_reports_count : Int32} {f_this_rock_reports_askeds : Nat → Int32} {f_this_rock_reports_behinds : Nat → Int32} {f_this_rock_reports_leasts : Nat → Int32} {f_this_rock_reports_mosts : Nat → Int32} {r : Int32} (hf : f_X8_firstLone f_this_rock_lights x_this_rock_reports_count f_this_rock_reports_askeds f_this_rock_reports_behinds f_this_rock_reports_leasts f_this_rock_reports_mosts = some r) : mFi l G yX8_firstLone cX8_firstLone 2 .int 3 [.ref h_this] [(h_this, ob 8 [.ref h_this_rock, .ref h_this_kept, .ref h_this_trial, .ref h_this_planner, .ref h_this_reader, .ref h_this_draft, .ref h_this_host, .ref h_this_thing, .ref h_this_tape, .ref h_this_rows, .int x_this_tapeCount, .int x_this_rowCount, .int x_this_isKept]), (h_this_rock, ob 3 [.ref h_this_rock_kinds, .ref h_this_rock_trims, .ref h_this_rock_lanes, .ref h_this_rock_lights, .ref h_this_rock_currents, .ref h_this_rock_buoys, .ref h_this_rock_now, .ref h_this_rock_rules, .ref h_this_rock_reports, .int x_this_rock_count, .int x_this_rock_end, .int x_this_rock_z]), (h_this_rock_lights, ia G 16 f_this_rock_lights), (h_this_rock_reports, ob 2 [.ref h_this_rock_reports_behinds, .ref h_this_rock_reports_askeds, .ref h_this_rock_reports_leasts, .ref h_this_rock_reports_mosts, .int x_this_rock_reports_count]), (h_this_rock_reports_askeds, ia G 6 f_this_rock_reports_askeds), (h_this_rock_reports_behinds, ia G 6 f_this_rock_reports_behinds), (h_this_rock_reports_leasts, ia G 6 f_this_rock_reports_leasts), (h_this_rock_reports_mosts, ia G 6 f_this_rock_reports_mosts)] r [(h_this, ob 8 [.ref h_this_rock, .ref h_this_kept, .ref h_this_trial, .ref h_this_planner, .ref h_this_reader, .ref h_this_draft, .ref h_this_host, .ref h_this_thing, .ref h_this_tape, .ref h_this_rows, .int x_this_tapeCount, .int x_this_rowCount, .int x_this_isKept]), (h_this_rock, ob 3 [.ref h_this_rock_kinds, .ref h_this_rock_trims, .ref h_this_rock_lanes, .ref h_this_rock_lights, .ref h_this_rock_currents, .ref h_this_rock_buoys, .ref h_this_rock_now, .ref h_this_rock_rules, .ref h_this_rock_reports, .int x_this_rock_count, .int x_this_rock_end, .int x_this_rock_z]), (h_this_rock_lights, ia G 16 f_this_rock_lights), (h_this_rock_reports, ob 2 [.ref h_this_rock_reports_behinds, .ref h_this_rock_reports_askeds, .ref h_this_rock_reports_leasts, .ref h_this_rock_reports_mosts, .int x_this_rock_reports_count]), (h_this_rock_reports_askeds, ia G 6 f_this_rock_reports_askeds), (h_this_rock_reports_behinds, ia G 6 f_this_rock_reports_behinds), (h_this_rock_reports_leasts, ia G 6 f_this_rock_reports_leasts), (h_this_rock_reports_mosts, ia G 6 f_this_rock_reports_mosts)] := by
  refine mFi.of (by decide +kernel) (Nat.le_of_ble_eq_true rfl) ?_
  intro p e s m below meth c A C hr hlk h ls hl
  obtain ⟨hx, hb, hml, hown, hts⟩ := id C
  replace hl : lv_has ls 2 [(0, .ref h_this)] := hl
  unfold f_X8_firstLone at hf
  refine with_K G A 2 (fun K hK1 hK2 => ?_)
  have L2 : ∀ (n : Nat) (v1 : Int32), f_X8_firstLone_L2 f_this_rock_lights x_this_rock_reports_count f_this_rock_reports_askeds f_this_rock_reports_behinds f_this_rock_reports_leasts f_this_rock_reports_mosts n v1 = some r → K 2 ([] : List Value) [(h_this, ob 8 [.ref h_this_rock, .ref h_this_kept, .ref h_this_trial, .ref h_this_planner, .ref h_this_reader, .ref h_this_draft, .ref h_this_host, .ref h_this_thing, .ref h_this_tape, .ref h_this_rows, .int x_this_tapeCount, .int x_this_rowCount, .int x_this_isKept]), (h_this_rock, ob 3 [.ref h_this_rock_kinds, .ref h_this_rock_trims, .ref h_this_rock_lanes, .ref h_this_rock_lights, .ref h_this_rock_currents, .ref h_this_rock_buoys, .ref h_this_rock_now, .ref h_this_rock_rules, .ref h_this_rock_reports, .int x_this_rock_count, .int x_this_rock_end, .int x_this_rock_z]), (h_this_rock_lights, ia G 16 f_this_rock_lights), (h_this_rock_reports, ob 2 [.ref h_this_rock_reports_behinds, .ref h_this_rock_reports_askeds, .ref h_this_rock_reports_leasts, .ref h_this_rock_reports_mosts, .int x_this_rock_reports_count]), (h_this_rock_reports_askeds, ia G 6 f_this_rock_reports_askeds), (h_this_rock_reports_behinds, ia G 6 f_this_rock_reports_behinds), (h_this_rock_reports_leasts, ia G 6 f_this_rock_reports_leasts), (h_this_rock_reports_mosts, ia G 6 f_this_rock_reports_mosts)] [(0, .ref h_this), (1, .int v1)] := by
    intro n
    induction n with
    | zero =>
      intro v1 hf
      replace hf : (none : Option _) = some _ := hf
      cases hf
    | succ n ih =>
      intro v1 hf
      rw [f_X8_firstLone_L2] at hf
      refine hK1 _ _ _ _ (fun H locs ls h hl => ?_)
      refine lv_iload_n hx hb dX8_firstLone_2 rfl (lv_at hl 1 rfl) ?_
      refine lv_sipush (v := (500 : Int32)) hx hb dX8_firstLone_3 rfl ?_
      refine lv_icmp_ge (tgt := 38) hx hb dX8_firstLone_6 rfl (fun c1 => ?_) (fun c1 => ?_)
      · replace hf := ifp c1 hf
        refine lv_bipush (v := (-3 : Int32)) hx hb dX8_firstLone_38 rfl ?_
        cases hf
        exact r_iret C h hr hlk rfl dX8_firstLone_40
      · replace hf := ifn c1 hf
        refine lv_aload_n hx hb dX8_firstLone_9 rfl (lv_at hl 0 rfl) ?_
        refine r_get C h fk_X8_10 0 rfl rfl dX8_firstLone_10 ?_
        refine r_get C h fk_X8_244 1 rfl rfl dX8_firstLone_13 ?_
        refine lv_iload_n hx hb dX8_firstLone_16 rfl (lv_at hl 1 rfl) ?_
        refine lv_aload_n hx hb dX8_firstLone_17 rfl (lv_at hl 0 rfl) ?_
        refine r_get C h fk_X8_10 0 rfl rfl dX8_firstLone_18 ?_
        refine r_get C h fk_X8_138 1 rfl rfl dX8_firstLone_21 ?_
        replace hf := bd1_inv hf
        obtain ⟨r2, hc3, hf⟩ := hf
        refine r_ciV0 C h (c_X2_wrongFor hc3) mv_X8_269 rfl 3 rfl [2, 3, 4, 5, 6, 7] rfl rfl hl.1 rfl (Nat.le_of_ble_eq_true rfl) (rok (by decide)) dX8_firstLone_24 (fun H locs h => ?_)
        refine lv_if_ne (tgt := 32) hx hb dX8_firstLone_27 rfl (fun c4 => ?_) (fun c4 => ?_)
        · replace hf := ifn c4 hf
          obtain ⟨t5, et5⟩ : ∃ y : Int32, y = v1 + (1 : Int32) := ⟨_, rfl⟩
          replace hf := lt1_inv et5 hf
          refine lv_iinc (v := t5) (lv' := [(1, .int t5), (0, .ref h_this)]) hx hb dX8_firstLone_32 hl (k := 1) rfl (by rw [et5]; rfl) (by decide) rfl (fun ls hl => ?_)
          refine lv_goto (tgt := 2) hx hb dX8_firstLone_35 rfl ?_
          exact hK2 _ _ _ _ (ih t5 hf) _ _ _ h (lv_sub hl [1, 0] rfl)
        · replace hf := ifp c4 hf
          refine lv_iload_n hx hb dX8_firstLone_30 rfl (lv_at hl 1 rfl) ?_
          cases hf
          exact r_iret C h hr hlk rfl dX8_firstLone_31
  refine lv_iconst (v := (0 : Int32)) hx hb dX8_firstLone_0 rfl ?_
  refine lv_istore_n (lv' := [(1, .int (0 : Int32)), (0, .ref h_this)]) hx hb dX8_firstLone_1 rfl hl (by decide) rfl (fun ls hl => ?_)
  exact hK2 _ _ _ _ (L2 1000 (0 : Int32) hf) _ _ _ h (lv_sub hl [1, 0] rfl)
def f_X8_lone (p0 : Int32) (f_this_rock_lights : Nat → Int32) (x_this_rock_reports_count : Int32) (f_this_rock_reports_askeds : Nat → Int32) (f_this_rock_reports_behinds : Nat → Int32) (f_this_rock_reports_leasts : Nat → Int32) (f_this_rock_reports_mosts : Nat → Int32) : Option (Int32) := bd1 (f_X8_within p0 (0 : Int32) (3 : Int32)) (fun r1 => (if r1 = 0 then some (-1 : Int32) else (if p0 = 0 then bd1 (f_X8_countLone f_this_rock_lights x_this_rock_reports_count f_this_rock_reports_askeds f_this_rock_reports_behinds f_this_rock_reports_leasts f_this_rock_reports_mosts) (fun r16 => some r16) else bd1 (f_X8_firstLone f_this_rock_lights x_this_rock_reports_count f_this_rock_reports_askeds f_this_rock_reports_behinds f_this_rock_reports_leasts f_this_rock_reports_mosts) (fun r5 => (if r5 = (-3 : Int32) then some (-3 : Int32) else (if p0 = (1 : Int32) then bd1 (f_X2_kindOf r5) (fun r10 => some r10) else (if p0 = (2 : Int32) then bd1 (f_X2_trimOf r5) (fun r12 => some r12) else bd1 (f_X2_offOf r5) (fun r14 => some r14))))))))
set_option maxRecDepth 100000 in
set_option maxHeartbeats 4000000 in
theorem c_X8_lone {l : Launch} {G : Gt} {h_this h_this_rock h_this_kept h_this_trial h_this_planner h_this_reader h_this_draft h_this_host h_this_thing h_this_tape h_this_rows h_this_rock_kinds h_this_rock_trims h_this_rock_lanes h_this_rock_lights h_this_rock_currents h_this_rock_buoys h_this_rock_now h_this_rock_rules h_this_rock_reports h_this_rock_reports_behinds h_this_rock_reports_askeds h_this_rock_reports_leasts h_this_rock_reports_mosts : Nat} {p0 : Int32} {x_this_tapeCount : Int32} {x_this_rowCount : Int32} {x_this_isKept : Int32} {x_this_rock_count : Int32} {x_this_rock_end : Int32} {x_this_rock_z : Int32} {f_this_rock_lights : Nat → Int32} {x_this_rock_reports_count : Int32} {f_this_rock_reports_askeds : Nat → Int32} {f_this_rock_reports_behinds : Nat → Int32} {f_this_rock_reports_leasts : Nat → Int32} {f_this_rock_reports_mosts : Nat → Int32} {r : Int32} (hf : f_X8_lone p0 f_this_rock_lights x_this_rock_reports_count f_this_rock_reports_askeds f_this_rock_reports_behinds f_this_rock_reports_leasts f_this_rock_reports_mosts = some r) : mFi l G yX8_lone cX8_lone 3 .int 4 [.ref h_this, .int p0] [(h_this, ob 8 [.ref h_this_rock, .ref h_this_kept, .ref h_this_trial, .ref h_this_planner, .ref h_this_reader, .ref h_this_draft, .ref h_this_host, .ref h_this_thing, .ref h_this_tape, .ref h_this_rows, .int x_this_tapeCount, .int x_this_rowCount, .int x_this_isKept]), (h_this_rock, ob 3 [.ref h_this_rock_kinds, .ref h_this_rock_trims, .ref h_this_rock_lanes, .ref h_this_rock_lights, .ref h_this_rock_currents, .ref h_this_rock_buoys, .ref h_this_rock_now, .ref h_this_rock_rules, .ref h_this_rock_reports, .int x_this_rock_count, .int x_this_rock_end, .int x_this_rock_z]), (h_this_rock_lights, ia G 16 f_this_rock_lights), (h_this_rock_reports, ob 2 [.ref h_this_rock_reports_behinds, .ref h_this_rock_reports_askeds, .ref h_this_rock_reports_leasts, .ref h_this_rock_reports_mosts, .int x_this_rock_reports_count]), (h_this_rock_reports_askeds, ia G 6 f_this_rock_reports_askeds), (h_this_rock_reports_behinds, ia G 6 f_this_rock_reports_behinds), (h_this_rock_reports_leasts, ia G 6 f_this_rock_reports_leasts), (h_this_rock_reports_mosts, ia G 6 f_this_rock_reports_mosts)] r [(h_this, ob 8 [.ref h_this_rock, .ref h_this_kept, .ref h_this_trial, .ref h_this_planner, .ref h_this_reader, .ref h_this_draft, .ref h_this_host, .ref h_this_thing, .ref h_this_tape, .ref h_this_rows, .int x_this_tapeCount, .int x_this_rowCount, .int x_this_isKept]), (h_this_rock, ob 3 [.ref h_this_rock_kinds, .ref h_this_rock_trims, .ref h_this_rock_lanes, .ref h_this_rock_lights, .ref h_this_rock_currents, .ref h_this_rock_buoys, .ref h_this_rock_now, .ref h_this_rock_rules, .ref h_this_rock_reports, .int x_this_rock_count, .int x_this_rock_end, .int x_this_rock_z]), (h_this_rock_lights, ia G 16 f_this_rock_lights), (h_this_rock_reports, ob 2 [.ref h_this_rock_reports_behinds, .ref h_this_rock_reports_askeds, .ref h_this_rock_reports_leasts, .ref h_this_rock_reports_mosts, .int x_this_rock_reports_count]), (h_this_rock_reports_askeds, ia G 6 f_this_rock_reports_askeds), (h_this_rock_reports_behinds, ia G 6 f_this_rock_reports_behinds), (h_this_rock_reports_leasts, ia G 6 f_this_rock_reports_leasts), (h_this_rock_reports_mosts, ia G 6 f_this_rock_reports_mosts)] := by
  refine mFi.of (by decide +kernel) (Nat.le_of_ble_eq_true rfl) ?_
  intro p e s m below meth c A C hr hlk h ls hl
  obtain ⟨hx, hb, hml, hown, hts⟩ := id C
  replace hl : lv_has ls 3 [(0, .ref h_this), (1, .int p0)] := hl
  unfold f_X8_lone at hf
  refine lv_iload_n hx hb dX8_lone_0 rfl (lv_at hl 1 rfl) ?_
  refine lv_iconst (v := (0 : Int32)) hx hb dX8_lone_1 rfl ?_
  refine lv_iconst (v := (3 : Int32)) hx hb dX8_lone_2 rfl ?_
  replace hf := bd1_inv hf
  obtain ⟨r1, hc2, hf⟩ := hf
  refine r_ciS0 C h (c_X8_within hc2) ms_X8_79 rfl [] rfl rfl hl.1 rfl (Nat.le_of_ble_eq_true rfl) (rok (by decide)) dX8_lone_3 (fun H locs h => ?_)
  refine lv_if_ne (tgt := 11) hx hb dX8_lone_6 rfl (fun c3 => ?_) (fun c3 => ?_)
  · replace hf := ifn c3 hf
    refine lv_iload_n hx hb dX8_lone_11 rfl (lv_at hl 1 rfl) ?_
    refine lv_if_ne (tgt := 20) hx hb dX8_lone_12 rfl (fun c4 => ?_) (fun c4 => ?_)
    · replace hf := ifn c4 hf
      refine lv_aload_n hx hb dX8_lone_20 rfl (lv_at hl 0 rfl) ?_
      replace hf := bd1_inv hf
      obtain ⟨r5, hc6, hf⟩ := hf
      refine r_ciV0 C h (c_X8_firstLone hc6) mv_X8_257 rfl 0 rfl [0, 1, 2, 3, 4, 5, 6, 7] rfl rfl hl.1 rfl (Nat.le_of_ble_eq_true rfl) (rok (by decide)) dX8_lone_21 (fun H locs h => ?_)
      refine lv_istore_n (lv' := [(2, .int r5), (0, .ref h_this), (1, .int p0)]) hx hb dX8_lone_24 rfl hl (by decide) rfl (fun ls hl => ?_)
      refine lv_iload_n hx hb dX8_lone_25 rfl (lv_at hl 0 rfl) ?_
      refine lv_bipush (v := (-3 : Int32)) hx hb dX8_lone_26 rfl ?_
      refine lv_icmp_ne (tgt := 34) hx hb dX8_lone_28 rfl (fun c7 => ?_) (fun c7 => ?_)
      · replace hf := ifn c7 hf
        refine lv_iload_n hx hb dX8_lone_34 rfl (lv_at hl 2 rfl) ?_
        by_cases c8 : p0 = (1 : Int32)
        · replace hf := ifp c8 hf
          refine r_lk (tgt := 60) C dX8_lone_35 (by decide) (1 : Int32) c8 rfl rfl ?_
          refine lv_iload_n hx hb dX8_lone_60 rfl (lv_at hl 0 rfl) ?_
          replace hf := bd1_inv hf
          obtain ⟨r10, hc11, hf⟩ := hf
          refine r_ciS0 C h (c_X2_kindOf hc11) ms_X8_260 rfl [] rfl rfl hl.1 rfl (Nat.le_of_ble_eq_true rfl) (rok (by decide)) dX8_lone_61 (fun H locs h => ?_)
          cases hf
          exact r_iret C h hr hlk rfl dX8_lone_64
        · replace hf := ifn c8 hf
          by_cases c9 : p0 = (2 : Int32)
          · replace hf := ifp c9 hf
            refine r_lk (tgt := 65) C dX8_lone_35 (by decide) (2 : Int32) c9 rfl rfl ?_
            refine lv_iload_n hx hb dX8_lone_65 rfl (lv_at hl 0 rfl) ?_
            replace hf := bd1_inv hf
            obtain ⟨r12, hc13, hf⟩ := hf
            refine r_ciS0 C h (c_X2_trimOf hc13) ms_X8_263 rfl [] rfl rfl hl.1 rfl (Nat.le_of_ble_eq_true rfl) (rok (by decide)) dX8_lone_66 (fun H locs h => ?_)
            cases hf
            exact r_iret C h hr hlk rfl dX8_lone_69
          · replace hf := ifn c9 hf
            refine r_lkD (tgt := 70) C dX8_lone_35 (by decide) [(1 : Int32), (2 : Int32)] (by decide) (nel_c c8 (nel_c c9 nel_0)) rfl ?_
            refine lv_iload_n hx hb dX8_lone_70 rfl (lv_at hl 0 rfl) ?_
            replace hf := bd1_inv hf
            obtain ⟨r14, hc15, hf⟩ := hf
            refine r_ciS0 C h (c_X2_offOf hc15) ms_X8_266 rfl [] rfl rfl hl.1 rfl (Nat.le_of_ble_eq_true rfl) (rok (by decide)) dX8_lone_71 (fun H locs h => ?_)
            cases hf
            exact r_iret C h hr hlk rfl dX8_lone_74
      · replace hf := ifp c7 hf
        refine lv_bipush (v := (-3 : Int32)) hx hb dX8_lone_31 rfl ?_
        cases hf
        exact r_iret C h hr hlk rfl dX8_lone_33
    · replace hf := ifp c4 hf
      refine lv_aload_n hx hb dX8_lone_15 rfl (lv_at hl 0 rfl) ?_
      replace hf := bd1_inv hf
      obtain ⟨r16, hc17, hf⟩ := hf
      refine r_ciV0 C h (c_X8_countLone hc17) mv_X8_254 rfl 0 rfl [0, 1, 2, 3, 4, 5, 6, 7] rfl rfl hl.1 rfl (Nat.le_of_ble_eq_true rfl) (rok (by decide)) dX8_lone_16 (fun H locs h => ?_)
      cases hf
      exact r_iret C h hr hlk rfl dX8_lone_19
  · replace hf := ifp c3 hf
    refine lv_iconst (v := (-1 : Int32)) hx hb dX8_lone_9 rfl ?_
    cases hf
    exact r_iret C h hr hlk rfl dX8_lone_10
def f_X8_liar_L4 (f_this_rock_lights : Nat → Int32) (x_this_rock_reports_count : Int32) (f_this_rock_reports_askeds : Nat → Int32) (f_this_rock_reports_behinds : Nat → Int32) (f_this_rock_reports_leasts : Nat → Int32) (f_this_rock_reports_mosts : Nat → Int32) : Nat → Int32 → Int32 → Option (Int32)
  | 0, _, _ => none
  | n + 1, v1, v2 => (if (500 : Int32) ≤ v2 then bd1 (f_X8_leastOfSet v1) (fun r2 => some r2) else bd1 (f_X2_wrongFor v2 16 f_this_rock_lights x_this_rock_reports_count f_this_rock_reports_askeds f_this_rock_reports_behinds f_this_rock_reports_leasts f_this_rock_reports_mosts) (fun r4 => (if r4 = 0 then some (-3 : Int32) else bd1 (f_J6_bitCount_0f7a4 r4) (fun r7 => (if r7 = (1 : Int32) then lt1 (v1 ||| r4) (fun (t11 : Int32) => lt1 (v2 + (1 : Int32)) (fun (t12 : Int32) => (f_X8_liar_L4 f_this_rock_lights x_this_rock_reports_count f_this_rock_reports_askeds f_this_rock_reports_behinds f_this_rock_reports_leasts f_this_rock_reports_mosts n) t11 t12)) else lt1 (v2 + (1 : Int32)) (fun (t10 : Int32) => (f_X8_liar_L4 f_this_rock_lights x_this_rock_reports_count f_this_rock_reports_askeds f_this_rock_reports_behinds f_this_rock_reports_leasts f_this_rock_reports_mosts n) v1 t10))))))
def f_X8_liar (f_this_rock_lights : Nat → Int32) (x_this_rock_reports_count : Int32) (f_this_rock_reports_askeds : Nat → Int32) (f_this_rock_reports_behinds : Nat → Int32) (f_this_rock_reports_leasts : Nat → Int32) (f_this_rock_reports_mosts : Nat → Int32) : Option (Int32) := f_X8_liar_L4 f_this_rock_lights x_this_rock_reports_count f_this_rock_reports_askeds f_this_rock_reports_behinds f_this_rock_reports_leasts f_this_rock_reports_mosts 1000 (0 : Int32) (0 : Int32)
set_option maxRecDepth 100000 in
set_option maxHeartbeats 4000000 in
theorem c_X8_liar {l : Launch} {G : Gt} {h_this h_this_rock h_this_kept h_this_trial h_this_planner h_this_reader h_this_draft h_this_host h_this_thing h_this_tape h_this_rows h_this_rock_kinds h_this_rock_trims h_this_rock_lanes h_this_rock_lights h_this_rock_currents h_this_rock_buoys h_this_rock_now h_this_rock_rules h_this_rock_reports h_this_rock_reports_behinds h_this_rock_reports_askeds h_this_rock_reports_leasts h_this_rock_reports_mosts : Nat} {x_this_tapeCount : Int32} {x_this_rowCount : Int32} {x_this_isKept : Int32} {x_this_rock_count : Int32} {x_this_rock_end : Int32} {x_this_rock_z : Int32} {f_this_rock_lights : Nat → Int32} {x_this_rock_reports_count : Int32} {f_this_rock_reports_askeds : Nat → Int32} {f_this_rock_reports_behinds : Nat → Int32} {f_this_rock_reports_leasts : Nat → Int32} {f_this_rock_reports_mosts : Nat → Int32} {r : Int32} (hf : f_X8_liar f_this_rock_lights x_this_rock_reports_count f_this_rock_reports_askeds f_this_rock_reports_behinds f_this_rock_reports_leasts f_this_rock_reports_mosts = some r) : mFi l G yX8_liar cX8_liar 4 .int 3 [.ref h_this] [(h_this, ob 8 [.ref h_this_rock, .ref h_this_kept, .ref h_this_trial, .ref h_this_planner, .ref h_this_reader, .ref h_this_draft, .ref h_this_host, .ref h_this_thing, .ref h_this_tape, .ref h_this_rows, .int x_this_tapeCount, .int x_this_rowCount, .int x_this_isKept]), (h_this_rock, ob 3 [.ref h_this_rock_kinds, .ref h_this_rock_trims, .ref h_this_rock_lanes, .ref h_this_rock_lights, .ref h_this_rock_currents, .ref h_this_rock_buoys, .ref h_this_rock_now, .ref h_this_rock_rules, .ref h_this_rock_reports, .int x_this_rock_count, .int x_this_rock_end, .int x_this_rock_z]), (h_this_rock_lights, ia G 16 f_this_rock_lights), (h_this_rock_reports, ob 2 [.ref h_this_rock_reports_behinds, .ref h_this_rock_reports_askeds, .ref h_this_rock_reports_leasts, .ref h_this_rock_reports_mosts, .int x_this_rock_reports_count]), (h_this_rock_reports_askeds, ia G 6 f_this_rock_reports_askeds), (h_this_rock_reports_behinds, ia G 6 f_this_rock_reports_behinds), (h_this_rock_reports_leasts, ia G 6 f_this_rock_reports_leasts), (h_this_rock_reports_mosts, ia G 6 f_this_rock_reports_mosts)] r [(h_this, ob 8 [.ref h_this_rock, .ref h_this_kept, .ref h_this_trial, .ref h_this_planner, .ref h_this_reader, .ref h_this_draft, .ref h_this_host, .ref h_this_thing, .ref h_this_tape, .ref h_this_rows, .int x_this_tapeCount, .int x_this_rowCount, .int x_this_isKept]), (h_this_rock, ob 3 [.ref h_this_rock_kinds, .ref h_this_rock_trims, .ref h_this_rock_lanes, .ref h_this_rock_lights, .ref h_this_rock_currents, .ref h_this_rock_buoys, .ref h_this_rock_now, .ref h_this_rock_rules, .ref h_this_rock_reports, .int x_this_rock_count, .int x_this_rock_end, .int x_this_rock_z]), (h_this_rock_lights, ia G 16 f_this_rock_lights), (h_this_rock_reports, ob 2 [.ref h_this_rock_reports_behinds, .ref h_this_rock_reports_askeds, .ref h_this_rock_reports_leasts, .ref h_this_rock_reports_mosts, .int x_this_rock_reports_count]), (h_this_rock_reports_askeds, ia G 6 f_this_rock_reports_askeds), (h_this_rock_reports_behinds, ia G 6 f_this_rock_reports_behinds), (h_this_rock_reports_leasts, ia G 6 f_this_rock_reports_leasts), (h_this_rock_reports_mosts, ia G 6 f_this_rock_reports_mosts)] := by
  refine mFi.of (by decide +kernel) (Nat.le_of_ble_eq_true rfl) ?_
  intro p e s m below meth c A C hr hlk h ls hl
  obtain ⟨hx, hb, hml, hown, hts⟩ := id C
  replace hl : lv_has ls 4 [(0, .ref h_this)] := hl
  unfold f_X8_liar at hf
  refine with_K G A 4 (fun K hK1 hK2 => ?_)
  have L4 : ∀ (n : Nat) (v1 : Int32) (v2 : Int32), f_X8_liar_L4 f_this_rock_lights x_this_rock_reports_count f_this_rock_reports_askeds f_this_rock_reports_behinds f_this_rock_reports_leasts f_this_rock_reports_mosts n v1 v2 = some r → K 4 ([] : List Value) [(h_this, ob 8 [.ref h_this_rock, .ref h_this_kept, .ref h_this_trial, .ref h_this_planner, .ref h_this_reader, .ref h_this_draft, .ref h_this_host, .ref h_this_thing, .ref h_this_tape, .ref h_this_rows, .int x_this_tapeCount, .int x_this_rowCount, .int x_this_isKept]), (h_this_rock, ob 3 [.ref h_this_rock_kinds, .ref h_this_rock_trims, .ref h_this_rock_lanes, .ref h_this_rock_lights, .ref h_this_rock_currents, .ref h_this_rock_buoys, .ref h_this_rock_now, .ref h_this_rock_rules, .ref h_this_rock_reports, .int x_this_rock_count, .int x_this_rock_end, .int x_this_rock_z]), (h_this_rock_lights, ia G 16 f_this_rock_lights), (h_this_rock_reports, ob 2 [.ref h_this_rock_reports_behinds, .ref h_this_rock_reports_askeds, .ref h_this_rock_reports_leasts, .ref h_this_rock_reports_mosts, .int x_this_rock_reports_count]), (h_this_rock_reports_askeds, ia G 6 f_this_rock_reports_askeds), (h_this_rock_reports_behinds, ia G 6 f_this_rock_reports_behinds), (h_this_rock_reports_leasts, ia G 6 f_this_rock_reports_leasts), (h_this_rock_reports_mosts, ia G 6 f_this_rock_reports_mosts)] [(0, .ref h_this), (1, .int v1), (2, .int v2)] := by
    intro n
    induction n with
    | zero =>
      intro v1 v2 hf
      replace hf : (none : Option _) = some _ := hf
      cases hf
    | succ n ih =>
      intro v1 v2 hf
      rw [f_X8_liar_L4] at hf
      refine hK1 _ _ _ _ (fun H locs ls h hl => ?_)
      refine lv_iload_n hx hb dX8_liar_4 rfl (lv_at hl 2 rfl) ?_
      refine lv_sipush (v := (500 : Int32)) hx hb dX8_liar_5 rfl ?_
      refine lv_icmp_ge (tgt := 55) hx hb dX8_liar_8 rfl (fun c1 => ?_) (fun c1 => ?_)
      · replace hf := ifp c1 hf
        refine lv_iload_n hx hb dX8_liar_55 rfl (lv_at hl 1 rfl) ?_
        replace hf := bd1_inv hf
        obtain ⟨r2, hc3, hf⟩ := hf
        refine r_ciS0 C h (c_X8_leastOfSet hc3) ms_X8_234 rfl [] rfl rfl hl.1 rfl (Nat.le_of_ble_eq_true rfl) (rok (by decide)) dX8_liar_56 (fun H locs h => ?_)
        cases hf
        exact r_iret C h hr hlk rfl dX8_liar_59
      · replace hf := ifn c1 hf
        refine lv_aload_n hx hb dX8_liar_11 rfl (lv_at hl 0 rfl) ?_
        refine r_get C h fk_X8_10 0 rfl rfl dX8_liar_12 ?_
        refine r_get C h fk_X8_244 1 rfl rfl dX8_liar_15 ?_
        refine lv_iload_n hx hb dX8_liar_18 rfl (lv_at hl 2 rfl) ?_
        refine lv_aload_n hx hb dX8_liar_19 rfl (lv_at hl 0 rfl) ?_
        refine r_get C h fk_X8_10 0 rfl rfl dX8_liar_20 ?_
        refine r_get C h fk_X8_138 1 rfl rfl dX8_liar_23 ?_
        replace hf := bd1_inv hf
        obtain ⟨r4, hc5, hf⟩ := hf
        refine r_ciV0 C h (c_X2_wrongFor hc5) mv_X8_269 rfl 3 rfl [2, 3, 4, 5, 6, 7] rfl rfl hl.1 rfl (Nat.le_of_ble_eq_true rfl) (rok (by decide)) dX8_liar_26 (fun H locs h => ?_)
        refine lv_istore_n (lv' := [(3, .int r4), (0, .ref h_this), (1, .int v1), (2, .int v2)]) hx hb dX8_liar_29 rfl hl (by decide) rfl (fun ls hl => ?_)
        refine lv_iload_n hx hb dX8_liar_30 rfl (lv_at hl 0 rfl) ?_
        refine lv_if_ne (tgt := 37) hx hb dX8_liar_31 rfl (fun c6 => ?_) (fun c6 => ?_)
        · replace hf := ifn c6 hf
          refine lv_iload_n hx hb dX8_liar_37 rfl (lv_at hl 0 rfl) ?_
          replace hf := bd1_inv hf
          obtain ⟨r7, hc8, hf⟩ := hf
          refine r_ciS0 C h (c_J6_bitCount_0f7a4 hc8) ms_X8_273 rfl [] rfl rfl hl.1 rfl (Nat.le_of_ble_eq_true rfl) (rok (by decide)) dX8_liar_38 (fun H locs h => ?_)
          refine lv_iconst (v := (1 : Int32)) hx hb dX8_liar_41 rfl ?_
          refine lv_icmp_ne (tgt := 49) hx hb dX8_liar_42 rfl (fun c9 => ?_) (fun c9 => ?_)
          · replace hf := ifn c9 hf
            obtain ⟨t10, et10⟩ : ∃ y : Int32, y = v2 + (1 : Int32) := ⟨_, rfl⟩
            replace hf := lt1_inv et10 hf
            refine lv_iinc (v := t10) (lv' := [(2, .int t10), (3, .int r4), (0, .ref h_this), (1, .int v1)]) hx hb dX8_liar_49 hl (k := 3) rfl (by rw [et10]; rfl) (by decide) rfl (fun ls hl => ?_)
            refine lv_goto (tgt := 4) hx hb dX8_liar_52 rfl ?_
            exact hK2 _ _ _ _ (ih v1 t10 hf) _ _ _ h (lv_sub hl [2, 3, 0] rfl)
          · replace hf := ifp c9 hf
            refine lv_iload_n hx hb dX8_liar_45 rfl (lv_at hl 2 rfl) ?_
            refine lv_iload_n hx hb dX8_liar_46 rfl (lv_at hl 0 rfl) ?_
            refine lv_ior hx hb dX8_liar_47 ?_
            refine lv_topi (fun t11 et11 => ?_)
            replace hf := lt1_inv et11 hf
            refine lv_istore_n (lv' := [(1, .int t11), (3, .int r4), (0, .ref h_this), (2, .int v2)]) hx hb dX8_liar_48 rfl hl (by decide) rfl (fun ls hl => ?_)
            obtain ⟨t12, et12⟩ : ∃ y : Int32, y = v2 + (1 : Int32) := ⟨_, rfl⟩
            replace hf := lt1_inv et12 hf
            refine lv_iinc (v := t12) (lv' := [(2, .int t12), (1, .int t11), (3, .int r4), (0, .ref h_this)]) hx hb dX8_liar_49 hl (k := 3) rfl (by rw [et12]; rfl) (by decide) rfl (fun ls hl => ?_)
            refine lv_goto (tgt := 4) hx hb dX8_liar_52 rfl ?_
            exact hK2 _ _ _ _ (ih t11 t12 hf) _ _ _ h (lv_sub hl [3, 1, 0] rfl)
        · replace hf := ifp c6 hf
          refine lv_bipush (v := (-3 : Int32)) hx hb dX8_liar_34 rfl ?_
          cases hf
          exact r_iret C h hr hlk rfl dX8_liar_36
  refine lv_iconst (v := (0 : Int32)) hx hb dX8_liar_0 rfl ?_
  refine lv_istore_n (lv' := [(1, .int (0 : Int32)), (0, .ref h_this)]) hx hb dX8_liar_1 rfl hl (by decide) rfl (fun ls hl => ?_)
  refine lv_iconst (v := (0 : Int32)) hx hb dX8_liar_2 rfl ?_
  refine lv_istore_n (lv' := [(2, .int (0 : Int32)), (1, .int (0 : Int32)), (0, .ref h_this)]) hx hb dX8_liar_3 rfl hl (by decide) rfl (fun ls hl => ?_)
  exact hK2 _ _ _ _ (L4 1000 (0 : Int32) (0 : Int32) hf) _ _ _ h (lv_sub hl [2, 1, 0] rfl)
def f_X8_seed (p0 : Int32) (x_this_rock_z : Int32) : Option (Int32 × Int32) := some (x_this_rock_z, p0)
set_option maxRecDepth 100000 in
set_option maxHeartbeats 4000000 in
theorem c_X8_seed {l : Launch} {G : Gt} {h_this h_this_rock h_this_kept h_this_trial h_this_planner h_this_reader h_this_draft h_this_host h_this_thing h_this_tape h_this_rows h_this_rock_kinds h_this_rock_trims h_this_rock_lanes h_this_rock_lights h_this_rock_currents h_this_rock_buoys h_this_rock_now h_this_rock_rules h_this_rock_reports : Nat} {p0 : Int32} {x_this_tapeCount : Int32} {x_this_rowCount : Int32} {x_this_isKept : Int32} {x_this_rock_count : Int32} {x_this_rock_end : Int32} {x_this_rock_z : Int32} {r : Int32} {m_this_rock_z : Int32} (hf : f_X8_seed p0 x_this_rock_z = some (r, m_this_rock_z)) : mFi l G yX8_seed cX8_seed 3 .int 0 [.ref h_this, .int p0] [(h_this, ob 8 [.ref h_this_rock, .ref h_this_kept, .ref h_this_trial, .ref h_this_planner, .ref h_this_reader, .ref h_this_draft, .ref h_this_host, .ref h_this_thing, .ref h_this_tape, .ref h_this_rows, .int x_this_tapeCount, .int x_this_rowCount, .int x_this_isKept]), (h_this_rock, ob 3 [.ref h_this_rock_kinds, .ref h_this_rock_trims, .ref h_this_rock_lanes, .ref h_this_rock_lights, .ref h_this_rock_currents, .ref h_this_rock_buoys, .ref h_this_rock_now, .ref h_this_rock_rules, .ref h_this_rock_reports, .int x_this_rock_count, .int x_this_rock_end, .int x_this_rock_z])] r [(h_this, ob 8 [.ref h_this_rock, .ref h_this_kept, .ref h_this_trial, .ref h_this_planner, .ref h_this_reader, .ref h_this_draft, .ref h_this_host, .ref h_this_thing, .ref h_this_tape, .ref h_this_rows, .int x_this_tapeCount, .int x_this_rowCount, .int x_this_isKept]), (h_this_rock, ob 3 [.ref h_this_rock_kinds, .ref h_this_rock_trims, .ref h_this_rock_lanes, .ref h_this_rock_lights, .ref h_this_rock_currents, .ref h_this_rock_buoys, .ref h_this_rock_now, .ref h_this_rock_rules, .ref h_this_rock_reports, .int x_this_rock_count, .int x_this_rock_end, .int m_this_rock_z])] := by
  refine mFi.of (by decide +kernel) (Nat.le_of_ble_eq_true rfl) ?_
  intro p e s m below meth c A C hr hlk h ls hl
  obtain ⟨hx, hb, hml, hown, hts⟩ := id C
  replace hl : lv_has ls 3 [(0, .ref h_this), (1, .int p0)] := hl
  unfold f_X8_seed at hf
  refine lv_aload_n hx hb dX8_seed_0 rfl (lv_at hl 0 rfl) ?_
  refine r_get C h fk_X8_10 0 rfl rfl dX8_seed_1 ?_
  refine r_get C h fk_X8_278 1 rfl rfl dX8_seed_4 ?_
  refine lv_istore_n (lv' := [(2, .int x_this_rock_z), (0, .ref h_this), (1, .int p0)]) hx hb dX8_seed_7 rfl hl (by decide) rfl (fun ls hl => ?_)
  refine lv_aload_n hx hb dX8_seed_8 rfl (lv_at hl 1 rfl) ?_
  refine r_get C h fk_X8_10 0 rfl rfl dX8_seed_9 ?_
  refine lv_iload_n hx hb dX8_seed_12 rfl (lv_at hl 2 rfl) ?_
  refine r_put (ws' := [(h_this, ob 8 [.ref h_this_rock, .ref h_this_kept, .ref h_this_trial, .ref h_this_planner, .ref h_this_reader, .ref h_this_draft, .ref h_this_host, .ref h_this_thing, .ref h_this_tape, .ref h_this_rows, .int x_this_tapeCount, .int x_this_rowCount, .int x_this_isKept]), (h_this_rock, ob 3 [.ref h_this_rock_kinds, .ref h_this_rock_trims, .ref h_this_rock_lanes, .ref h_this_rock_lights, .ref h_this_rock_currents, .ref h_this_rock_buoys, .ref h_this_rock_now, .ref h_this_rock_rules, .ref h_this_rock_reports, .int x_this_rock_count, .int x_this_rock_end, .int p0])]) C h fw_X8_278 1 rfl rfl rfl (Nat.le_of_ble_eq_true rfl) dX8_seed_13 rfl (fun H locs h => ?_)
  refine lv_iload_n hx hb dX8_seed_16 rfl (lv_at hl 0 rfl) ?_
  cases hf
  exact r_iret C h hr hlk rfl dX8_seed_17
def f_X3_passByLot (x_a0_watch : Int32) (x_a0_score : Int32) (x_a0_home : Int32) (f_a0_off : Nat → Int32) (x_this_count : Int32) (x_this_z : Int32) (f_this_buoys : Nat → Int32) (f_this_currents : Nat → Int32) (f_this_kinds : Nat → Int32) (f_this_lanes : Nat → Int32) (f_this_lights : Nat → Int32) (x_this_rules_count : Int32) (f_this_rules_begins : Nat → Int32) (f_this_rules_deeds : Nat → Int32) (f_this_rules_facts : Nat → Int32) (f_this_rules_kinds : Nat → Int32) (f_this_rules_lefts : Nat → Int32) (f_this_rules_rights : Nat → Int32) (f_this_rules_steps : Nat → Int32) (f_this_trims : Nat → Int32) : Option (Int32 × Int32 × Int32 × Int32 × (Nat → Int32) × Int32 × (Nat → Int32)) := lt1 ((x_this_z * (1103515245 : Int32)) + (12345 : Int32)) (fun (t1 : Int32) => chkD (x_this_count + (1 : Int32)) (bd6 (f_X3_pass ((iushr t1 (16 : Int32)) - (iushr t1 (16 : Int32)) / (x_this_count + (1 : Int32)) * (x_this_count + (1 : Int32))) x_a0_watch x_a0_score x_a0_home f_a0_off x_this_count f_this_buoys f_this_currents f_this_kinds f_this_lanes f_this_lights x_this_rules_count f_this_rules_begins f_this_rules_deeds f_this_rules_facts f_this_rules_kinds f_this_rules_lefts f_this_rules_rights f_this_rules_steps f_this_trims) (fun r3 y4 y5 y6 g7 g8 => some (r3, y4, y5, y6, g7, t1, g8))))
set_option maxRecDepth 100000 in
set_option maxHeartbeats 4000000 in
theorem c_X3_passByLot {l : Launch} {G : Gt} {h_a0 h_a0_off h_this h_this_kinds h_this_trims h_this_lanes h_this_lights h_this_currents h_this_buoys h_this_now h_this_rules h_this_reports h_this_rules_kinds h_this_rules_deeds h_this_rules_begins h_this_rules_steps h_this_rules_lefts h_this_rules_rights h_this_rules_facts : Nat} {x_a0_watch : Int32} {x_a0_score : Int32} {x_a0_home : Int32} {f_a0_off : Nat → Int32} {x_this_count : Int32} {x_this_end : Int32} {x_this_z : Int32} {f_this_buoys : Nat → Int32} {f_this_currents : Nat → Int32} {f_this_kinds : Nat → Int32} {f_this_lanes : Nat → Int32} {f_this_lights : Nat → Int32} {x_this_rules_count : Int32} {x_this_rules_size : Int32} {f_this_rules_begins : Nat → Int32} {f_this_rules_deeds : Nat → Int32} {f_this_rules_facts : Nat → Int32} {f_this_rules_kinds : Nat → Int32} {f_this_rules_lefts : Nat → Int32} {f_this_rules_rights : Nat → Int32} {f_this_rules_steps : Nat → Int32} {f_this_trims : Nat → Int32} {r : Int32} {m_a0_watch : Int32} {m_a0_score : Int32} {m_a0_home : Int32} {m_a0_off : Nat → Int32} {m_this_z : Int32} {m_this_rules_facts : Nat → Int32} (hf : f_X3_passByLot x_a0_watch x_a0_score x_a0_home f_a0_off x_this_count x_this_z f_this_buoys f_this_currents f_this_kinds f_this_lanes f_this_lights x_this_rules_count f_this_rules_begins f_this_rules_deeds f_this_rules_facts f_this_rules_kinds f_this_rules_lefts f_this_rules_rights f_this_rules_steps f_this_trims = some (r, m_a0_watch, m_a0_score, m_a0_home, m_a0_off, m_this_z, m_this_rules_facts)) : mFi l G yX3_passByLot cX3_passByLot 2 .int 5 [.ref h_this, .ref h_a0] [(h_a0, ob 6 [.ref h_a0_off, .int x_a0_watch, .int x_a0_score, .int x_a0_home]), (h_a0_off, ia G 6 f_a0_off), (h_this, ob 3 [.ref h_this_kinds, .ref h_this_trims, .ref h_this_lanes, .ref h_this_lights, .ref h_this_currents, .ref h_this_buoys, .ref h_this_now, .ref h_this_rules, .ref h_this_reports, .int x_this_count, .int x_this_end, .int x_this_z]), (h_this_buoys, ia G 6 f_this_buoys), (h_this_currents, ia G 6 f_this_currents), (h_this_kinds, ia G 6 f_this_kinds), (h_this_lanes, ia G 6 f_this_lanes), (h_this_lights, ia G 16 f_this_lights), (h_this_rules, ob 5 [.ref h_this_rules_kinds, .ref h_this_rules_deeds, .ref h_this_rules_begins, .ref h_this_rules_steps, .ref h_this_rules_lefts, .ref h_this_rules_rights, .ref h_this_rules_facts, .int x_this_rules_count, .int x_this_rules_size]), (h_this_rules_begins, ia G 9 f_this_rules_begins), (h_this_rules_deeds, ia G 8 f_this_rules_deeds), (h_this_rules_facts, ia G 5 f_this_rules_facts), (h_this_rules_kinds, ia G 8 f_this_rules_kinds), (h_this_rules_lefts, ia G 200 f_this_rules_lefts), (h_this_rules_rights, ia G 200 f_this_rules_rights), (h_this_rules_steps, ia G 200 f_this_rules_steps), (h_this_trims, ia G 6 f_this_trims)] r [(h_a0, ob 6 [.ref h_a0_off, .int m_a0_watch, .int m_a0_score, .int m_a0_home]), (h_a0_off, ia G 6 m_a0_off), (h_this, ob 3 [.ref h_this_kinds, .ref h_this_trims, .ref h_this_lanes, .ref h_this_lights, .ref h_this_currents, .ref h_this_buoys, .ref h_this_now, .ref h_this_rules, .ref h_this_reports, .int x_this_count, .int x_this_end, .int m_this_z]), (h_this_buoys, ia G 6 f_this_buoys), (h_this_currents, ia G 6 f_this_currents), (h_this_kinds, ia G 6 f_this_kinds), (h_this_lanes, ia G 6 f_this_lanes), (h_this_lights, ia G 16 f_this_lights), (h_this_rules, ob 5 [.ref h_this_rules_kinds, .ref h_this_rules_deeds, .ref h_this_rules_begins, .ref h_this_rules_steps, .ref h_this_rules_lefts, .ref h_this_rules_rights, .ref h_this_rules_facts, .int x_this_rules_count, .int x_this_rules_size]), (h_this_rules_begins, ia G 9 f_this_rules_begins), (h_this_rules_deeds, ia G 8 f_this_rules_deeds), (h_this_rules_facts, ia G 5 m_this_rules_facts), (h_this_rules_kinds, ia G 8 f_this_rules_kinds), (h_this_rules_lefts, ia G 200 f_this_rules_lefts), (h_this_rules_rights, ia G 200 f_this_rules_rights), (h_this_rules_steps, ia G 200 f_this_rules_steps), (h_this_trims, ia G 6 f_this_trims)] := by
  refine mFi.of (by decide +kernel) (Nat.le_of_ble_eq_true rfl) ?_
  intro p e s m below meth c A C hr hlk h ls hl
  obtain ⟨hx, hb, hml, hown, hts⟩ := id C
  replace hl : lv_has ls 2 [(0, .ref h_this), (1, .ref h_a0)] := hl
  unfold f_X3_passByLot at hf
  refine lv_aload_n hx hb dX3_passByLot_0 rfl (lv_at hl 0 rfl) ?_
  refine lv_aload_n hx hb dX3_passByLot_1 rfl (lv_at hl 0 rfl) ?_
  refine r_get C h fk_X3_58 2 rfl rfl dX3_passByLot_2 ?_
  refine lv_ldc hx hb hown (hts _ cw_X3_177) dX3_passByLot_5 ?_
  refine lv_imul hx hb dX3_passByLot_7 ?_
  refine lv_sipush (v := (12345 : Int32)) hx hb dX3_passByLot_8 rfl ?_
  refine lv_iadd hx hb dX3_passByLot_11 ?_
  refine lv_topi (fun t1 et1 => ?_)
  replace hf := lt1_inv et1 hf
  refine r_put (ws' := [(h_a0, ob 6 [.ref h_a0_off, .int x_a0_watch, .int x_a0_score, .int x_a0_home]), (h_a0_off, ia G 6 f_a0_off), (h_this, ob 3 [.ref h_this_kinds, .ref h_this_trims, .ref h_this_lanes, .ref h_this_lights, .ref h_this_currents, .ref h_this_buoys, .ref h_this_now, .ref h_this_rules, .ref h_this_reports, .int x_this_count, .int x_this_end, .int t1]), (h_this_buoys, ia G 6 f_this_buoys), (h_this_currents, ia G 6 f_this_currents), (h_this_kinds, ia G 6 f_this_kinds), (h_this_lanes, ia G 6 f_this_lanes), (h_this_lights, ia G 16 f_this_lights), (h_this_rules, ob 5 [.ref h_this_rules_kinds, .ref h_this_rules_deeds, .ref h_this_rules_begins, .ref h_this_rules_steps, .ref h_this_rules_lefts, .ref h_this_rules_rights, .ref h_this_rules_facts, .int x_this_rules_count, .int x_this_rules_size]), (h_this_rules_begins, ia G 9 f_this_rules_begins), (h_this_rules_deeds, ia G 8 f_this_rules_deeds), (h_this_rules_facts, ia G 5 f_this_rules_facts), (h_this_rules_kinds, ia G 8 f_this_rules_kinds), (h_this_rules_lefts, ia G 200 f_this_rules_lefts), (h_this_rules_rights, ia G 200 f_this_rules_rights), (h_this_rules_steps, ia G 200 f_this_rules_steps), (h_this_trims, ia G 6 f_this_trims)]) C h fw_X3_58 2 rfl rfl rfl (Nat.le_of_ble_eq_true rfl) dX3_passByLot_12 rfl (fun H locs h => ?_)
  refine lv_aload_n hx hb dX3_passByLot_15 rfl (lv_at hl 0 rfl) ?_
  refine lv_aload_n hx hb dX3_passByLot_16 rfl (lv_at hl 1 rfl) ?_
  refine lv_aload_n hx hb dX3_passByLot_17 rfl (lv_at hl 0 rfl) ?_
  refine r_get C h fk_X3_58 2 rfl rfl dX3_passByLot_18 ?_
  refine lv_bipush (v := (16 : Int32)) hx hb dX3_passByLot_21 rfl ?_
  refine lv_iushr (v := iushr t1 (16 : Int32)) hx hb dX3_passByLot_23 rfl ?_
  refine lv_aload_n hx hb dX3_passByLot_24 rfl (lv_at hl 0 rfl) ?_
  refine r_get C h fk_X3_51 2 rfl rfl dX3_passByLot_25 ?_
  refine lv_iconst (v := (1 : Int32)) hx hb dX3_passByLot_28 rfl ?_
  refine lv_iadd hx hb dX3_passByLot_29 ?_
  replace hf := chkD_inv hf
  obtain ⟨hd2, hf⟩ := hf
  refine lv_irem hx hb dX3_passByLot_30 hd2 ?_
  replace hf := bd6_inv hf
  obtain ⟨r3, y4, y5, y6, g7, g8, hc9, hf⟩ := hf
  refine r_ciV (ws' := [(h_a0, ob 6 [.ref h_a0_off, .int y4, .int y5, .int y6]), (h_a0_off, ia G 6 g7), (h_this, ob 3 [.ref h_this_kinds, .ref h_this_trims, .ref h_this_lanes, .ref h_this_lights, .ref h_this_currents, .ref h_this_buoys, .ref h_this_now, .ref h_this_rules, .ref h_this_reports, .int x_this_count, .int x_this_end, .int t1]), (h_this_buoys, ia G 6 f_this_buoys), (h_this_currents, ia G 6 f_this_currents), (h_this_kinds, ia G 6 f_this_kinds), (h_this_lanes, ia G 6 f_this_lanes), (h_this_lights, ia G 16 f_this_lights), (h_this_rules, ob 5 [.ref h_this_rules_kinds, .ref h_this_rules_deeds, .ref h_this_rules_begins, .ref h_this_rules_steps, .ref h_this_rules_lefts, .ref h_this_rules_rights, .ref h_this_rules_facts, .int x_this_rules_count, .int x_this_rules_size]), (h_this_rules_begins, ia G 9 f_this_rules_begins), (h_this_rules_deeds, ia G 8 f_this_rules_deeds), (h_this_rules_facts, ia G 5 g8), (h_this_rules_kinds, ia G 8 f_this_rules_kinds), (h_this_rules_lefts, ia G 200 f_this_rules_lefts), (h_this_rules_rights, ia G 200 f_this_rules_rights), (h_this_rules_steps, ia G 200 f_this_rules_steps), (h_this_trims, ia G 6 f_this_trims)]) C h (c_X3_pass hc9) mv_X3_174 rfl 2 rfl [0, 1, 2, 3, 4, 5, 6, 7, 8, 9, 10, 11, 12, 13, 14, 15, 16] rfl rfl rfl rfl rfl hl.1 rfl (Nat.le_of_ble_eq_true rfl) (rok (by decide)) dX3_passByLot_31 (fun H locs h => ?_)
  cases hf
  exact r_iret C h hr hlk rfl dX3_passByLot_34
def f_X8_lot (x_this_rock_count : Int32) (x_this_rock_end : Int32) (x_this_rock_z : Int32) (f_this_rock_buoys : Nat → Int32) (f_this_rock_currents : Nat → Int32) (f_this_rock_kinds : Nat → Int32) (f_this_rock_lanes : Nat → Int32) (f_this_rock_lights : Nat → Int32) (x_this_rock_now_watch : Int32) (x_this_rock_now_score : Int32) (x_this_rock_now_home : Int32) (f_this_rock_now_off : Nat → Int32) (x_this_rock_rules_count : Int32) (f_this_rock_rules_begins : Nat → Int32) (f_this_rock_rules_deeds : Nat → Int32) (f_this_rock_rules_facts : Nat → Int32) (f_this_rock_rules_kinds : Nat → Int32) (f_this_rock_rules_lefts : Nat → Int32) (f_this_rock_rules_rights : Nat → Int32) (f_this_rock_rules_steps : Nat → Int32) (f_this_rock_trims : Nat → Int32) : Option (Int32 × Int32 × Int32 × Int32 × Int32 × (Nat → Int32) × (Nat → Int32)) := bd1 (f_X3_isOver x_this_rock_now_watch x_this_rock_end) (fun r1 => (if r1 = 0 then bd7 (f_X3_passByLot x_this_rock_now_watch x_this_rock_now_score x_this_rock_now_home f_this_rock_now_off x_this_rock_count x_this_rock_z f_this_rock_buoys f_this_rock_currents f_this_rock_kinds f_this_rock_lanes f_this_rock_lights x_this_rock_rules_count f_this_rock_rules_begins f_this_rock_rules_deeds f_this_rock_rules_facts f_this_rock_rules_kinds f_this_rock_rules_lefts f_this_rock_rules_rights f_this_rock_rules_steps f_this_rock_trims) (fun r4 y5 y6 y7 g8 y9 g10 => some (r4, y9, y5, y6, y7, g8, g10)) else some ((-4 : Int32), x_this_rock_z, x_this_rock_now_watch, x_this_rock_now_score, x_this_rock_now_home, f_this_rock_now_off, f_this_rock_rules_facts)))
set_option maxRecDepth 100000 in
set_option maxHeartbeats 4000000 in
theorem c_X8_lot {l : Launch} {G : Gt} {h_this h_this_rock h_this_kept h_this_trial h_this_planner h_this_reader h_this_draft h_this_host h_this_thing h_this_tape h_this_rows h_this_rock_kinds h_this_rock_trims h_this_rock_lanes h_this_rock_lights h_this_rock_currents h_this_rock_buoys h_this_rock_now h_this_rock_rules h_this_rock_reports h_this_rock_now_off h_this_rock_rules_kinds h_this_rock_rules_deeds h_this_rock_rules_begins h_this_rock_rules_steps h_this_rock_rules_lefts h_this_rock_rules_rights h_this_rock_rules_facts : Nat} {x_this_tapeCount : Int32} {x_this_rowCount : Int32} {x_this_isKept : Int32} {x_this_rock_count : Int32} {x_this_rock_end : Int32} {x_this_rock_z : Int32} {f_this_rock_buoys : Nat → Int32} {f_this_rock_currents : Nat → Int32} {f_this_rock_kinds : Nat → Int32} {f_this_rock_lanes : Nat → Int32} {f_this_rock_lights : Nat → Int32} {x_this_rock_now_watch : Int32} {x_this_rock_now_score : Int32} {x_this_rock_now_home : Int32} {f_this_rock_now_off : Nat → Int32} {x_this_rock_rules_count : Int32} {x_this_rock_rules_size : Int32} {f_this_rock_rules_begins : Nat → Int32} {f_this_rock_rules_deeds : Nat → Int32} {f_this_rock_rules_facts : Nat → Int32} {f_this_rock_rules_kinds : Nat → Int32} {f_this_rock_rules_lefts : Nat → Int32} {f_this_rock_rules_rights : Nat → Int32} {f_this_rock_rules_steps : Nat → Int32} {f_this_rock_trims : Nat → Int32} {r : Int32} {m_this_rock_z : Int32} {m_this_rock_now_watch : Int32} {m_this_rock_now_score : Int32} {m_this_rock_now_home : Int32} {m_this_rock_now_off : Nat → Int32} {m_this_rock_rules_facts : Nat → Int32} (hf : f_X8_lot x_this_rock_count x_this_rock_end x_this_rock_z f_this_rock_buoys f_this_rock_currents f_this_rock_kinds f_this_rock_lanes f_this_rock_lights x_this_rock_now_watch x_this_rock_now_score x_this_rock_now_home f_this_rock_now_off x_this_rock_rules_count f_this_rock_rules_begins f_this_rock_rules_deeds f_this_rock_rules_facts f_this_rock_rules_kinds f_this_rock_rules_lefts f_this_rock_rules_rights f_this_rock_rules_steps f_this_rock_trims = some (r, m_this_rock_z, m_this_rock_now_watch, m_this_rock_now_score, m_this_rock_now_home, m_this_rock_now_off, m_this_rock_rules_facts)) : mFi l G yX8_lot cX8_lot 1 .int 6 [.ref h_this] [(h_this, ob 8 [.ref h_this_rock, .ref h_this_kept, .ref h_this_trial, .ref h_this_planner, .ref h_this_reader, .ref h_this_draft, .ref h_this_host, .ref h_this_thing, .ref h_this_tape, .ref h_this_rows, .int x_this_tapeCount, .int x_this_rowCount, .int x_this_isKept]), (h_this_rock, ob 3 [.ref h_this_rock_kinds, .ref h_this_rock_trims, .ref h_this_rock_lanes, .ref h_this_rock_lights, .ref h_this_rock_currents, .ref h_this_rock_buoys, .ref h_this_rock_now, .ref h_this_rock_rules, .ref h_this_rock_reports, .int x_this_rock_count, .int x_this_rock_end, .int x_this_rock_z]), (h_this_rock_buoys, ia G 6 f_this_rock_buoys), (h_this_rock_currents, ia G 6 f_this_rock_currents), (h_this_rock_kinds, ia G 6 f_this_rock_kinds), (h_this_rock_lanes, ia G 6 f_this_rock_lanes), (h_this_rock_lights, ia G 16 f_this_rock_lights), (h_this_rock_now, ob 6 [.ref h_this_rock_now_off, .int x_this_rock_now_watch, .int x_this_rock_now_score, .int x_this_rock_now_home]), (h_this_rock_now_off, ia G 6 f_this_rock_now_off), (h_this_rock_rules, ob 5 [.ref h_this_rock_rules_kinds, .ref h_this_rock_rules_deeds, .ref h_this_rock_rules_begins, .ref h_this_rock_rules_steps, .ref h_this_rock_rules_lefts, .ref h_this_rock_rules_rights, .ref h_this_rock_rules_facts, .int x_this_rock_rules_count, .int x_this_rock_rules_size]), (h_this_rock_rules_begins, ia G 9 f_this_rock_rules_begins), (h_this_rock_rules_deeds, ia G 8 f_this_rock_rules_deeds), (h_this_rock_rules_facts, ia G 5 f_this_rock_rules_facts), (h_this_rock_rules_kinds, ia G 8 f_this_rock_rules_kinds), (h_this_rock_rules_lefts, ia G 200 f_this_rock_rules_lefts), (h_this_rock_rules_rights, ia G 200 f_this_rock_rules_rights), (h_this_rock_rules_steps, ia G 200 f_this_rock_rules_steps), (h_this_rock_trims, ia G 6 f_this_rock_trims)] r [(h_this, ob 8 [.ref h_this_rock, .ref h_this_kept, .ref h_this_trial, .ref h_this_planner, .ref h_this_reader, .ref h_this_draft, .ref h_this_host, .ref h_this_thing, .ref h_this_tape, .ref h_this_rows, .int x_this_tapeCount, .int x_this_rowCount, .int x_this_isKept]), (h_this_rock, ob 3 [.ref h_this_rock_kinds, .ref h_this_rock_trims, .ref h_this_rock_lanes, .ref h_this_rock_lights, .ref h_this_rock_currents, .ref h_this_rock_buoys, .ref h_this_rock_now, .ref h_this_rock_rules, .ref h_this_rock_reports, .int x_this_rock_count, .int x_this_rock_end, .int m_this_rock_z]), (h_this_rock_buoys, ia G 6 f_this_rock_buoys), (h_this_rock_currents, ia G 6 f_this_rock_currents), (h_this_rock_kinds, ia G 6 f_this_rock_kinds), (h_this_rock_lanes, ia G 6 f_this_rock_lanes), (h_this_rock_lights, ia G 16 f_this_rock_lights), (h_this_rock_now, ob 6 [.ref h_this_rock_now_off, .int m_this_rock_now_watch, .int m_this_rock_now_score, .int m_this_rock_now_home]), (h_this_rock_now_off, ia G 6 m_this_rock_now_off), (h_this_rock_rules, ob 5 [.ref h_this_rock_rules_kinds, .ref h_this_rock_rules_deeds, .ref h_this_rock_rules_begins, .ref h_this_rock_rules_steps, .ref h_this_rock_rules_lefts, .ref h_this_rock_rules_rights, .ref h_this_rock_rules_facts, .int x_this_rock_rules_count, .int x_this_rock_rules_size]), (h_this_rock_rules_begins, ia G 9 f_this_rock_rules_begins), (h_this_rock_rules_deeds, ia G 8 f_this_rock_rules_deeds), (h_this_rock_rules_facts, ia G 5 m_this_rock_rules_facts), (h_this_rock_rules_kinds, ia G 8 f_this_rock_rules_kinds), (h_this_rock_rules_lefts, ia G 200 f_this_rock_rules_lefts), (h_this_rock_rules_rights, ia G 200 f_this_rock_rules_rights), (h_this_rock_rules_steps, ia G 200 f_this_rock_rules_steps), (h_this_rock_trims, ia G 6 f_this_rock_trims)] := by
  refine mFi.of (by decide +kernel) (Nat.le_of_ble_eq_true rfl) ?_
  intro p e s m below meth c A C hr hlk h ls hl
  obtain ⟨hx, hb, hml, hown, hts⟩ := id C
  replace hl : lv_has ls 1 [(0, .ref h_this)] := hl
  unfold f_X8_lot at hf
  refine lv_aload_n hx hb dX8_lot_0 rfl (lv_at hl 0 rfl) ?_
  refine r_get C h fk_X8_10 0 rfl rfl dX8_lot_1 ?_
  refine lv_aload_n hx hb dX8_lot_4 rfl (lv_at hl 0 rfl) ?_
  refine r_get C h fk_X8_10 0 rfl rfl dX8_lot_5 ?_
  refine r_get C h fk_X8_94 1 rfl rfl dX8_lot_8 ?_
  replace hf := bd1_inv hf
  obtain ⟨r1, hc2, hf⟩ := hf
  refine r_ciV0 C h (c_X3_isOver hc2) mv_X8_159 rfl 1 rfl [7, 1] rfl rfl hl.1 rfl (Nat.le_of_ble_eq_true rfl) (rok (by decide)) dX8_lot_11 (fun H locs h => ?_)
  refine lv_if_eq (tgt := 22) hx hb dX8_lot_14 rfl (fun c3 => ?_) (fun c3 => ?_)
  · replace hf := ifp c3 hf
    refine lv_aload_n hx hb dX8_lot_22 rfl (lv_at hl 0 rfl) ?_
    refine r_get C h fk_X8_10 0 rfl rfl dX8_lot_23 ?_
    refine lv_aload_n hx hb dX8_lot_26 rfl (lv_at hl 0 rfl) ?_
    refine r_get C h fk_X8_10 0 rfl rfl dX8_lot_27 ?_
    refine r_get C h fk_X8_94 1 rfl rfl dX8_lot_30 ?_
    replace hf := bd7_inv hf
    obtain ⟨r4, y5, y6, y7, g8, y9, g10, hc11, hf⟩ := hf
    refine r_ciV (ws' := [(h_this, ob 8 [.ref h_this_rock, .ref h_this_kept, .ref h_this_trial, .ref h_this_planner, .ref h_this_reader, .ref h_this_draft, .ref h_this_host, .ref h_this_thing, .ref h_this_tape, .ref h_this_rows, .int x_this_tapeCount, .int x_this_rowCount, .int x_this_isKept]), (h_this_rock, ob 3 [.ref h_this_rock_kinds, .ref h_this_rock_trims, .ref h_this_rock_lanes, .ref h_this_rock_lights, .ref h_this_rock_currents, .ref h_this_rock_buoys, .ref h_this_rock_now, .ref h_this_rock_rules, .ref h_this_rock_reports, .int x_this_rock_count, .int x_this_rock_end, .int y9]), (h_this_rock_buoys, ia G 6 f_this_rock_buoys), (h_this_rock_currents, ia G 6 f_this_rock_currents), (h_this_rock_kinds, ia G 6 f_this_rock_kinds), (h_this_rock_lanes, ia G 6 f_this_rock_lanes), (h_this_rock_lights, ia G 16 f_this_rock_lights), (h_this_rock_now, ob 6 [.ref h_this_rock_now_off, .int y5, .int y6, .int y7]), (h_this_rock_now_off, ia G 6 g8), (h_this_rock_rules, ob 5 [.ref h_this_rock_rules_kinds, .ref h_this_rock_rules_deeds, .ref h_this_rock_rules_begins, .ref h_this_rock_rules_steps, .ref h_this_rock_rules_lefts, .ref h_this_rock_rules_rights, .ref h_this_rock_rules_facts, .int x_this_rock_rules_count, .int x_this_rock_rules_size]), (h_this_rock_rules_begins, ia G 9 f_this_rock_rules_begins), (h_this_rock_rules_deeds, ia G 8 f_this_rock_rules_deeds), (h_this_rock_rules_facts, ia G 5 g10), (h_this_rock_rules_kinds, ia G 8 f_this_rock_rules_kinds), (h_this_rock_rules_lefts, ia G 200 f_this_rock_rules_lefts), (h_this_rock_rules_rights, ia G 200 f_this_rock_rules_rights), (h_this_rock_rules_steps, ia G 200 f_this_rock_rules_steps), (h_this_rock_trims, ia G 6 f_this_rock_trims)]) C h (c_X3_passByLot hc11) mv_X8_281 rfl 1 rfl [7, 8, 1, 2, 3, 4, 5, 6, 9, 10, 11, 12, 13, 14, 15, 16, 17] rfl rfl rfl rfl rfl hl.1 rfl (Nat.le_of_ble_eq_true rfl) (rok (by decide)) dX8_lot_33 (fun H locs h => ?_)
    cases hf
    exact r_iret C h hr hlk rfl dX8_lot_36
  · replace hf := ifn c3 hf
    refine lv_bipush (v := (-4 : Int32)) hx hb dX8_lot_17 rfl ?_
    refine lv_goto (tgt := 36) hx hb dX8_lot_19 rfl ?_
    cases hf
    exact r_iret C h hr hlk rfl dX8_lot_36
def f_X8_worthByLot_b54 (x_this_rock_now_score : Int32) (y_this_rock_z : Int32) (g_this_rock_rules_facts : Nat → Int32) (y_this_trial_watch : Int32) (y_this_trial_score : Int32) (y_this_trial_home : Int32) (g_this_trial_off : Nat → Int32) : Option (Int32 × Int32 × (Nat → Int32) × Int32 × Int32 × Int32 × (Nat → Int32)) := some (y_this_trial_score - x_this_rock_now_score, y_this_rock_z, g_this_rock_rules_facts, y_this_trial_watch, y_this_trial_score, y_this_trial_home, g_this_trial_off)
def f_X8_worthByLot_L16 (x_this_rock_count : Int32) (x_this_rock_end : Int32) (f_this_rock_buoys : Nat → Int32) (f_this_rock_currents : Nat → Int32) (f_this_rock_kinds : Nat → Int32) (f_this_rock_lanes : Nat → Int32) (f_this_rock_lights : Nat → Int32) (x_this_rock_now_score : Int32) (x_this_rock_rules_count : Int32) (f_this_rock_rules_begins : Nat → Int32) (f_this_rock_rules_deeds : Nat → Int32) (f_this_rock_rules_kinds : Nat → Int32) (f_this_rock_rules_lefts : Nat → Int32) (f_this_rock_rules_rights : Nat → Int32) (f_this_rock_rules_steps : Nat → Int32) (f_this_rock_trims : Nat → Int32) : Nat → Int32 → Int32 → (Nat → Int32) → Int32 → Int32 → Int32 → (Nat → Int32) → Option (Int32 × Int32 × (Nat → Int32) × Int32 × Int32 × Int32 × (Nat → Int32))
  | 0, _, _, _, _, _, _, _ => none
  | n + 1, v1, y_this_rock_z, g_this_rock_rules_facts, y_this_trial_watch, y_this_trial_score, y_this_trial_home, g_this_trial_off => (if (16 : Int32) ≤ v1 then f_X8_worthByLot_b54 x_this_rock_now_score y_this_rock_z g_this_rock_rules_facts y_this_trial_watch y_this_trial_score y_this_trial_home g_this_trial_off else bd1 (f_X3_isOver y_this_trial_watch x_this_rock_end) (fun r7 => (if r7 = 0 then bd7 (f_X3_passByLot y_this_trial_watch y_this_trial_score y_this_trial_home g_this_trial_off x_this_rock_count y_this_rock_z f_this_rock_buoys f_this_rock_currents f_this_rock_kinds f_this_rock_lanes f_this_rock_lights x_this_rock_rules_count f_this_rock_rules_begins f_this_rock_rules_deeds g_this_rock_rules_facts f_this_rock_rules_kinds f_this_rock_rules_lefts f_this_rock_rules_rights f_this_rock_rules_steps f_this_rock_trims) (fun r10 y11 y12 y13 g14 y15 g16 => lt1 (v1 + (1 : Int32)) (fun (t18 : Int32) => (f_X8_worthByLot_L16 x_this_rock_count x_this_rock_end f_this_rock_buoys f_this_rock_currents f_this_rock_kinds f_this_rock_lanes f_this_rock_lights x_this_rock_now_score x_this_rock_rules_count f_this_rock_rules_begins f_this_rock_rules_deeds f_this_rock_rules_kinds f_this_rock_rules_lefts f_this_rock_rules_rights f_this_rock_rules_steps f_this_rock_trims n) t18 y15 g16 y11 y12 y13 g14)) else f_X8_worthByLot_b54 x_this_rock_now_score y_this_rock_z g_this_rock_rules_facts y_this_trial_watch y_this_trial_score y_this_trial_home g_this_trial_off)))
def f_X8_worthByLot (x_this_rock_count : Int32) (x_this_rock_end : Int32) (x_this_rock_z : Int32) (f_this_rock_buoys : Nat → Int32) (f_this_rock_currents : Nat → Int32) (f_this_rock_kinds : Nat → Int32) (f_this_rock_lanes : Nat → Int32) (f_this_rock_lights : Nat → Int32) (x_this_rock_now_watch : Int32) (x_this_rock_now_score : Int32) (x_this_rock_now_home : Int32) (f_this_rock_now_off : Nat → Int32) (x_this_rock_rules_count : Int32) (f_this_rock_rules_begins : Nat → Int32) (f_this_rock_rules_deeds : Nat → Int32) (f_this_rock_rules_facts : Nat → Int32) (f_this_rock_rules_kinds : Nat → Int32) (f_this_rock_rules_lefts : Nat → Int32) (f_this_rock_rules_rights : Nat → Int32) (f_this_rock_rules_steps : Nat → Int32) (f_this_rock_trims : Nat → Int32) (f_this_trial_off : Nat → Int32) : Option (Int32 × Int32 × (Nat → Int32) × Int32 × Int32 × Int32 × (Nat → Int32)) := bd4 (f_X6_become x_this_rock_now_watch x_this_rock_now_score x_this_rock_now_home f_this_rock_now_off f_this_trial_off) (fun y1 y2 y3 g4 => f_X8_worthByLot_L16 x_this_rock_count x_this_rock_end f_this_rock_buoys f_this_rock_currents f_this_rock_kinds f_this_rock_lanes f_this_rock_lights x_this_rock_now_score x_this_rock_rules_count f_this_rock_rules_begins f_this_rock_rules_deeds f_this_rock_rules_kinds f_this_rock_rules_lefts f_this_rock_rules_rights f_this_rock_rules_steps f_this_rock_trims 1000 (0 : Int32) x_this_rock_z f_this_rock_rules_facts y1 y2 y3 g4)
set_option maxRecDepth 100000 in
set_option maxHeartbeats 4000000 in
theorem c_X8_worthByLot {l : Launch} {G : Gt} {h_this h_this_rock h_this_kept h_this_trial h_this_planner h_this_reader h_this_draft h_this_host h_this_thing h_this_tape h_this_rows h_this_rock_kinds h_this_rock_trims h_this_rock_lanes h_this_rock_lights h_this_rock_currents h_this_rock_buoys h_this_rock_now h_this_rock_rules h_this_rock_reports h_this_rock_now_off h_this_rock_rules_kinds h_this_rock_rules_deeds h_this_rock_rules_begins h_this_rock_rules_steps h_this_rock_rules_lefts h_this_rock_rules_rights h_this_rock_rules_facts h_this_trial_off : Nat} {x_this_tapeCount : Int32} {x_this_rowCount : Int32} {x_this_isKept : Int32} {x_this_rock_count : Int32} {x_this_rock_end : Int32} {x_this_rock_z : Int32} {f_this_rock_buoys : Nat → Int32} {f_this_rock_currents : Nat → Int32} {f_this_rock_kinds : Nat → Int32} {f_this_rock_lanes : Nat → Int32} {f_this_rock_lights : Nat → Int32} {x_this_rock_now_watch : Int32} {x_this_rock_now_score : Int32} {x_this_rock_now_home : Int32} {f_this_rock_now_off : Nat → Int32} {x_this_rock_rules_count : Int32} {x_this_rock_rules_size : Int32} {f_this_rock_rules_begins : Nat → Int32} {f_this_rock_rules_deeds : Nat → Int32} {f_this_rock_rules_facts : Nat → Int32} {f_this_rock_rules_kinds : Nat → Int32} {f_this_rock_rules_lefts : Nat → Int32} {f_this_rock_rules_rights : Nat → Int32} {f_this_rock_rules_steps : Nat → Int32} {f_this_rock_trims : Nat → Int32} {x_this_trial_watch : Int32} {x_this_trial_score : Int32} {x_this_trial_home : Int32} {f_this_trial_off : Nat → Int32} {r : Int32} {m_this_rock_z : Int32} {m_this_rock_rules_facts : Nat → Int32} {m_this_trial_watch : Int32} {m_this_trial_score : Int32} {m_this_trial_home : Int32} {m_this_trial_off : Nat → Int32} (hf : f_X8_worthByLot x_this_rock_count x_this_rock_end x_this_rock_z f_this_rock_buoys f_this_rock_currents f_this_rock_kinds f_this_rock_lanes f_this_rock_lights x_this_rock_now_watch x_this_rock_now_score x_this_rock_now_home f_this_rock_now_off x_this_rock_rules_count f_this_rock_rules_begins f_this_rock_rules_deeds f_this_rock_rules_facts f_this_rock_rules_kinds f_this_rock_rules_lefts f_this_rock_rules_rights f_this_rock_rules_steps f_this_rock_trims f_this_trial_off = some (r, m_this_rock_z, m_this_rock_rules_facts, m_this_trial_watch, m_this_trial_score, m_this_trial_home, m_this_trial_off)) : mFi l G yX8_worthByLot cX8_worthByLot 2 .int 6 [.ref h_this] [(h_this, ob 8 [.ref h_this_rock, .ref h_this_kept, .ref h_this_trial, .ref h_this_planner, .ref h_this_reader, .ref h_this_draft, .ref h_this_host, .ref h_this_thing, .ref h_this_tape, .ref h_this_rows, .int x_this_tapeCount, .int x_this_rowCount, .int x_this_isKept]), (h_this_rock, ob 3 [.ref h_this_rock_kinds, .ref h_this_rock_trims, .ref h_this_rock_lanes, .ref h_this_rock_lights, .ref h_this_rock_currents, .ref h_this_rock_buoys, .ref h_this_rock_now, .ref h_this_rock_rules, .ref h_this_rock_reports, .int x_this_rock_count, .int x_this_rock_end, .int x_this_rock_z]), (h_this_rock_buoys, ia G 6 f_this_rock_buoys), (h_this_rock_currents, ia G 6 f_this_rock_currents), (h_this_rock_kinds, ia G 6 f_this_rock_kinds), (h_this_rock_lanes, ia G 6 f_this_rock_lanes), (h_this_rock_lights, ia G 16 f_this_rock_lights), (h_this_rock_now, ob 6 [.ref h_this_rock_now_off, .int x_this_rock_now_watch, .int x_this_rock_now_score, .int x_this_rock_now_home]), (h_this_rock_now_off, ia G 6 f_this_rock_now_off), (h_this_rock_rules, ob 5 [.ref h_this_rock_rules_kinds, .ref h_this_rock_rules_deeds, .ref h_this_rock_rules_begins, .ref h_this_rock_rules_steps, .ref h_this_rock_rules_lefts, .ref h_this_rock_rules_rights, .ref h_this_rock_rules_facts, .int x_this_rock_rules_count, .int x_this_rock_rules_size]), (h_this_rock_rules_begins, ia G 9 f_this_rock_rules_begins), (h_this_rock_rules_deeds, ia G 8 f_this_rock_rules_deeds), (h_this_rock_rules_facts, ia G 5 f_this_rock_rules_facts), (h_this_rock_rules_kinds, ia G 8 f_this_rock_rules_kinds), (h_this_rock_rules_lefts, ia G 200 f_this_rock_rules_lefts), (h_this_rock_rules_rights, ia G 200 f_this_rock_rules_rights), (h_this_rock_rules_steps, ia G 200 f_this_rock_rules_steps), (h_this_rock_trims, ia G 6 f_this_rock_trims), (h_this_trial, ob 6 [.ref h_this_trial_off, .int x_this_trial_watch, .int x_this_trial_score, .int x_this_trial_home]), (h_this_trial_off, ia G 6 f_this_trial_off)] r [(h_this, ob 8 [.ref h_this_rock, .ref h_this_kept, .ref h_this_trial, .ref h_this_planner, .ref h_this_reader, .ref h_this_draft, .ref h_this_host, .ref h_this_thing, .ref h_this_tape, .ref h_this_rows, .int x_this_tapeCount, .int x_this_rowCount, .int x_this_isKept]), (h_this_rock, ob 3 [.ref h_this_rock_kinds, .ref h_this_rock_trims, .ref h_this_rock_lanes, .ref h_this_rock_lights, .ref h_this_rock_currents, .ref h_this_rock_buoys, .ref h_this_rock_now, .ref h_this_rock_rules, .ref h_this_rock_reports, .int x_this_rock_count, .int x_this_rock_end, .int m_this_rock_z]), (h_this_rock_buoys, ia G 6 f_this_rock_buoys), (h_this_rock_currents, ia G 6 f_this_rock_currents), (h_this_rock_kinds, ia G 6 f_this_rock_kinds), (h_this_rock_lanes, ia G 6 f_this_rock_lanes), (h_this_rock_lights, ia G 16 f_this_rock_lights), (h_this_rock_now, ob 6 [.ref h_this_rock_now_off, .int x_this_rock_now_watch, .int x_this_rock_now_score, .int x_this_rock_now_home]), (h_this_rock_now_off, ia G 6 f_this_rock_now_off), (h_this_rock_rules, ob 5 [.ref h_this_rock_rules_kinds, .ref h_this_rock_rules_deeds, .ref h_this_rock_rules_begins, .ref h_this_rock_rules_steps, .ref h_this_rock_rules_lefts, .ref h_this_rock_rules_rights, .ref h_this_rock_rules_facts, .int x_this_rock_rules_count, .int x_this_rock_rules_size]), (h_this_rock_rules_begins, ia G 9 f_this_rock_rules_begins), (h_this_rock_rules_deeds, ia G 8 f_this_rock_rules_deeds), (h_this_rock_rules_facts, ia G 5 m_this_rock_rules_facts), (h_this_rock_rules_kinds, ia G 8 f_this_rock_rules_kinds), (h_this_rock_rules_lefts, ia G 200 f_this_rock_rules_lefts), (h_this_rock_rules_rights, ia G 200 f_this_rock_rules_rights), (h_this_rock_rules_steps, ia G 200 f_this_rock_rules_steps), (h_this_rock_trims, ia G 6 f_this_rock_trims), (h_this_trial, ob 6 [.ref h_this_trial_off, .int m_this_trial_watch, .int m_this_trial_score, .int m_this_trial_home]), (h_this_trial_off, ia G 6 m_this_trial_off)] := by
  refine mFi.of (by decide +kernel) (Nat.le_of_ble_eq_true rfl) ?_
  intro p e s m below meth c A C hr hlk h ls hl
  obtain ⟨hx, hb, hml, hown, hts⟩ := id C
  replace hl : lv_has ls 2 [(0, .ref h_this)] := hl
  unfold f_X8_worthByLot at hf
  refine with_K G A 2 (fun K hK1 hK2 => ?_)
  have B54 : ∀ (y_this_rock_z : Int32) (g_this_rock_rules_facts : Nat → Int32) (y_this_trial_watch : Int32) (y_this_trial_score : Int32) (y_this_trial_home : Int32) (g_this_trial_off : Nat → Int32), f_X8_worthByLot_b54 x_this_rock_now_score y_this_rock_z g_this_rock_rules_facts y_this_trial_watch y_this_trial_score y_this_trial_home g_this_trial_off = some (r, m_this_rock_z, m_this_rock_rules_facts, m_this_trial_watch, m_this_trial_score, m_this_trial_home, m_this_trial_off) → K 54 ([] : List Value) [(h_this, ob 8 [.ref h_this_rock, .ref h_this_kept, .ref h_this_trial, .ref h_this_planner, .ref h_this_reader, .ref h_this_draft, .ref h_this_host, .ref h_this_thing, .ref h_this_tape, .ref h_this_rows, .int x_this_tapeCount, .int x_this_rowCount, .int x_this_isKept]), (h_this_rock, ob 3 [.ref h_this_rock_kinds, .ref h_this_rock_trims, .ref h_this_rock_lanes, .ref h_this_rock_lights, .ref h_this_rock_currents, .ref h_this_rock_buoys, .ref h_this_rock_now, .ref h_this_rock_rules, .ref h_this_rock_reports, .int x_this_rock_count, .int x_this_rock_end, .int y_this_rock_z]), (h_this_rock_buoys, ia G 6 f_this_rock_buoys), (h_this_rock_currents, ia G 6 f_this_rock_currents), (h_this_rock_kinds, ia G 6 f_this_rock_kinds), (h_this_rock_lanes, ia G 6 f_this_rock_lanes), (h_this_rock_lights, ia G 16 f_this_rock_lights), (h_this_rock_now, ob 6 [.ref h_this_rock_now_off, .int x_this_rock_now_watch, .int x_this_rock_now_score, .int x_this_rock_now_home]), (h_this_rock_now_off, ia G 6 f_this_rock_now_off), (h_this_rock_rules, ob 5 [.ref h_this_rock_rules_kinds, .ref h_this_rock_rules_deeds, .ref h_this_rock_rules_begins, .ref h_this_rock_rules_steps, .ref h_this_rock_rules_lefts, .ref h_this_rock_rules_rights, .ref h_this_rock_rules_facts, .int x_this_rock_rules_count, .int x_this_rock_rules_size]), (h_this_rock_rules_begins, ia G 9 f_this_rock_rules_begins), (h_this_rock_rules_deeds, ia G 8 f_this_rock_rules_deeds), (h_this_rock_rules_facts, ia G 5 g_this_rock_rules_facts), (h_this_rock_rules_kinds, ia G 8 f_this_rock_rules_kinds), (h_this_rock_rules_lefts, ia G 200 f_this_rock_rules_lefts), (h_this_rock_rules_rights, ia G 200 f_this_rock_rules_rights), (h_this_rock_rules_steps, ia G 200 f_this_rock_rules_steps), (h_this_rock_trims, ia G 6 f_this_rock_trims), (h_this_trial, ob 6 [.ref h_this_trial_off, .int y_this_trial_watch, .int y_this_trial_score, .int y_this_trial_home]), (h_this_trial_off, ia G 6 g_this_trial_off)] [(0, .ref h_this)] := by
    intro y_this_rock_z g_this_rock_rules_facts y_this_trial_watch y_this_trial_score y_this_trial_home g_this_trial_off hf
    unfold f_X8_worthByLot_b54 at hf
    refine hK1 _ _ _ _ (fun H locs ls h hl => ?_)
    refine lv_aload_n hx hb dX8_worthByLot_54 rfl (lv_at hl 0 rfl) ?_
    refine r_get C h fk_X8_22 0 rfl rfl dX8_worthByLot_55 ?_
    refine r_get C h fk_X8_153 18 rfl rfl dX8_worthByLot_58 ?_
    refine lv_aload_n hx hb dX8_worthByLot_61 rfl (lv_at hl 0 rfl) ?_
    refine r_get C h fk_X8_10 0 rfl rfl dX8_worthByLot_62 ?_
    refine r_get C h fk_X8_94 1 rfl rfl dX8_worthByLot_65 ?_
    refine r_get C h fk_X8_153 7 rfl rfl dX8_worthByLot_68 ?_
    refine lv_isub hx hb dX8_worthByLot_71 ?_
    cases hf
    exact r_iret C h hr hlk rfl dX8_worthByLot_72
  have L16 : ∀ (n : Nat) (v1 : Int32) (y_this_rock_z : Int32) (g_this_rock_rules_facts : Nat → Int32) (y_this_trial_watch : Int32) (y_this_trial_score : Int32) (y_this_trial_home : Int32) (g_this_trial_off : Nat → Int32), f_X8_worthByLot_L16 x_this_rock_count x_this_rock_end f_this_rock_buoys f_this_rock_currents f_this_rock_kinds f_this_rock_lanes f_this_rock_lights x_this_rock_now_score x_this_rock_rules_count f_this_rock_rules_begins f_this_rock_rules_deeds f_this_rock_rules_kinds f_this_rock_rules_lefts f_this_rock_rules_rights f_this_rock_rules_steps f_this_rock_trims n v1 y_this_rock_z g_this_rock_rules_facts y_this_trial_watch y_this_trial_score y_this_trial_home g_this_trial_off = some (r, m_this_rock_z, m_this_rock_rules_facts, m_this_trial_watch, m_this_trial_score, m_this_trial_home, m_this_trial_off) → K 16 ([] : List Value) [(h_this, ob 8 [.ref h_this_rock, .ref h_this_kept, .ref h_this_trial, .ref h_this_planner, .ref h_this_reader, .ref h_this_draft, .ref h_this_host, .ref h_this_thing, .ref h_this_tape, .ref h_this_rows, .int x_this_tapeCount, .int x_this_rowCount, .int x_this_isKept]), (h_this_rock, ob 3 [.ref h_this_rock_kinds, .ref h_this_rock_trims, .ref h_this_rock_lanes, .ref h_this_rock_lights, .ref h_this_rock_currents, .ref h_this_rock_buoys, .ref h_this_rock_now, .ref h_this_rock_rules, .ref h_this_rock_reports, .int x_this_rock_count, .int x_this_rock_end, .int y_this_rock_z]), (h_this_rock_buoys, ia G 6 f_this_rock_buoys), (h_this_rock_currents, ia G 6 f_this_rock_currents), (h_this_rock_kinds, ia G 6 f_this_rock_kinds), (h_this_rock_lanes, ia G 6 f_this_rock_lanes), (h_this_rock_lights, ia G 16 f_this_rock_lights), (h_this_rock_now, ob 6 [.ref h_this_rock_now_off, .int x_this_rock_now_watch, .int x_this_rock_now_score, .int x_this_rock_now_home]), (h_this_rock_now_off, ia G 6 f_this_rock_now_off), (h_this_rock_rules, ob 5 [.ref h_this_rock_rules_kinds, .ref h_this_rock_rules_deeds, .ref h_this_rock_rules_begins, .ref h_this_rock_rules_steps, .ref h_this_rock_rules_lefts, .ref h_this_rock_rules_rights, .ref h_this_rock_rules_facts, .int x_this_rock_rules_count, .int x_this_rock_rules_size]), (h_this_rock_rules_begins, ia G 9 f_this_rock_rules_begins), (h_this_rock_rules_deeds, ia G 8 f_this_rock_rules_deeds), (h_this_rock_rules_facts, ia G 5 g_this_rock_rules_facts), (h_this_rock_rules_kinds, ia G 8 f_this_rock_rules_kinds), (h_this_rock_rules_lefts, ia G 200 f_this_rock_rules_lefts), (h_this_rock_rules_rights, ia G 200 f_this_rock_rules_rights), (h_this_rock_rules_steps, ia G 200 f_this_rock_rules_steps), (h_this_rock_trims, ia G 6 f_this_rock_trims), (h_this_trial, ob 6 [.ref h_this_trial_off, .int y_this_trial_watch, .int y_this_trial_score, .int y_this_trial_home]), (h_this_trial_off, ia G 6 g_this_trial_off)] [(0, .ref h_this), (1, .int v1)] := by
    intro n
    induction n with
    | zero =>
      intro v1 y_this_rock_z g_this_rock_rules_facts y_this_trial_watch y_this_trial_score y_this_trial_home g_this_trial_off hf
      replace hf : (none : Option _) = some _ := hf
      cases hf
    | succ n ih =>
      intro v1 y_this_rock_z g_this_rock_rules_facts y_this_trial_watch y_this_trial_score y_this_trial_home g_this_trial_off hf
      rw [f_X8_worthByLot_L16] at hf
      refine hK1 _ _ _ _ (fun H locs ls h hl => ?_)
      refine lv_iload_n hx hb dX8_worthByLot_16 rfl (lv_at hl 1 rfl) ?_
      refine lv_bipush (v := (16 : Int32)) hx hb dX8_worthByLot_17 rfl ?_
      refine lv_icmp_ge (tgt := 54) hx hb dX8_worthByLot_19 rfl (fun c6 => ?_) (fun c6 => ?_)
      · replace hf := ifp c6 hf
        exact hK2 _ _ _ _ (B54 y_this_rock_z g_this_rock_rules_facts y_this_trial_watch y_this_trial_score y_this_trial_home g_this_trial_off hf) _ _ _ h (lv_sub hl [0] rfl)
      · replace hf := ifn c6 hf
        refine lv_aload_n hx hb dX8_worthByLot_22 rfl (lv_at hl 0 rfl) ?_
        refine r_get C h fk_X8_10 0 rfl rfl dX8_worthByLot_23 ?_
        refine lv_aload_n hx hb dX8_worthByLot_26 rfl (lv_at hl 0 rfl) ?_
        refine r_get C h fk_X8_22 0 rfl rfl dX8_worthByLot_27 ?_
        replace hf := bd1_inv hf
        obtain ⟨r7, hc8, hf⟩ := hf
        refine r_ciV0 C h (c_X3_isOver hc8) mv_X8_159 rfl 1 rfl [18, 1] rfl rfl hl.1 rfl (Nat.le_of_ble_eq_true rfl) (rok (by decide)) dX8_worthByLot_30 (fun H locs h => ?_)
        refine lv_if_ne (tgt := 54) hx hb dX8_worthByLot_33 rfl (fun c9 => ?_) (fun c9 => ?_)
        · replace hf := ifn c9 hf
          exact hK2 _ _ _ _ (B54 y_this_rock_z g_this_rock_rules_facts y_this_trial_watch y_this_trial_score y_this_trial_home g_this_trial_off hf) _ _ _ h (lv_sub hl [0] rfl)
        · replace hf := ifp c9 hf
          refine lv_aload_n hx hb dX8_worthByLot_36 rfl (lv_at hl 0 rfl) ?_
          refine r_get C h fk_X8_10 0 rfl rfl dX8_worthByLot_37 ?_
          refine lv_aload_n hx hb dX8_worthByLot_40 rfl (lv_at hl 0 rfl) ?_
          refine r_get C h fk_X8_22 0 rfl rfl dX8_worthByLot_41 ?_
          replace hf := bd7_inv hf
          obtain ⟨r10, y11, y12, y13, g14, y15, g16, hc17, hf⟩ := hf
          refine r_ciV (ws' := [(h_this, ob 8 [.ref h_this_rock, .ref h_this_kept, .ref h_this_trial, .ref h_this_planner, .ref h_this_reader, .ref h_this_draft, .ref h_this_host, .ref h_this_thing, .ref h_this_tape, .ref h_this_rows, .int x_this_tapeCount, .int x_this_rowCount, .int x_this_isKept]), (h_this_rock, ob 3 [.ref h_this_rock_kinds, .ref h_this_rock_trims, .ref h_this_rock_lanes, .ref h_this_rock_lights, .ref h_this_rock_currents, .ref h_this_rock_buoys, .ref h_this_rock_now, .ref h_this_rock_rules, .ref h_this_rock_reports, .int x_this_rock_count, .int x_this_rock_end, .int y15]), (h_this_rock_buoys, ia G 6 f_this_rock_buoys), (h_this_rock_currents, ia G 6 f_this_rock_currents), (h_this_rock_kinds, ia G 6 f_this_rock_kinds), (h_this_rock_lanes, ia G 6 f_this_rock_lanes), (h_this_rock_lights, ia G 16 f_this_rock_lights), (h_this_rock_now, ob 6 [.ref h_this_rock_now_off, .int x_this_rock_now_watch, .int x_this_rock_now_score, .int x_this_rock_now_home]), (h_this_rock_now_off, ia G 6 f_this_rock_now_off), (h_this_rock_rules, ob 5 [.ref h_this_rock_rules_kinds, .ref h_this_rock_rules_deeds, .ref h_this_rock_rules_begins, .ref h_this_rock_rules_steps, .ref h_this_rock_rules_lefts, .ref h_this_rock_rules_rights, .ref h_this_rock_rules_facts, .int x_this_rock_rules_count, .int x_this_rock_rules_size]), (h_this_rock_rules_begins, ia G 9 f_this_rock_rules_begins), (h_this_rock_rules_deeds, ia G 8 f_this_rock_rules_deeds), (h_this_rock_rules_facts, ia G 5 g16), (h_this_rock_rules_kinds, ia G 8 f_this_rock_rules_kinds), (h_this_rock_rules_lefts, ia G 200 f_this_rock_rules_lefts), (h_this_rock_rules_rights, ia G 200 f_this_rock_rules_rights), (h_this_rock_rules_steps, ia G 200 f_this_rock_rules_steps), (h_this_rock_trims, ia G 6 f_this_rock_trims), (h_this_trial, ob 6 [.ref h_this_trial_off, .int y11, .int y12, .int y13]), (h_this_trial_off, ia G 6 g14)]) C h (c_X3_passByLot hc17) mv_X8_281 rfl 1 rfl [18, 19, 1, 2, 3, 4, 5, 6, 9, 10, 11, 12, 13, 14, 15, 16, 17] rfl rfl rfl rfl rfl hl.1 rfl (Nat.le_of_ble_eq_true rfl) (rok (by decide)) dX8_worthByLot_44 (fun H locs h => ?_)
          refine lv_pop hx hb dX8_worthByLot_47 rfl ?_
          obtain ⟨t18, et18⟩ : ∃ y : Int32, y = v1 + (1 : Int32) := ⟨_, rfl⟩
          replace hf := lt1_inv et18 hf
          refine lv_iinc (v := t18) (lv' := [(1, .int t18), (0, .ref h_this)]) hx hb dX8_worthByLot_48 hl (k := 1) rfl (by rw [et18]; rfl) (by decide) rfl (fun ls hl => ?_)
          refine lv_goto (tgt := 16) hx hb dX8_worthByLot_51 rfl ?_
          exact hK2 _ _ _ _ (ih t18 y15 g16 y11 y12 y13 g14 hf) _ _ _ h (lv_sub hl [1, 0] rfl)
  refine lv_aload_n hx hb dX8_worthByLot_0 rfl (lv_at hl 0 rfl) ?_
  refine r_get C h fk_X8_22 0 rfl rfl dX8_worthByLot_1 ?_
  refine lv_aload_n hx hb dX8_worthByLot_4 rfl (lv_at hl 0 rfl) ?_
  refine r_get C h fk_X8_10 0 rfl rfl dX8_worthByLot_5 ?_
  refine r_get C h fk_X8_94 1 rfl rfl dX8_worthByLot_8 ?_
  replace hf := bd4_inv hf
  obtain ⟨y1, y2, y3, g4, hc5, hf⟩ := hf
  refine r_cvV (ws' := [(h_this, ob 8 [.ref h_this_rock, .ref h_this_kept, .ref h_this_trial, .ref h_this_planner, .ref h_this_reader, .ref h_this_draft, .ref h_this_host, .ref h_this_thing, .ref h_this_tape, .ref h_this_rows, .int x_this_tapeCount, .int x_this_rowCount, .int x_this_isKept]), (h_this_rock, ob 3 [.ref h_this_rock_kinds, .ref h_this_rock_trims, .ref h_this_rock_lanes, .ref h_this_rock_lights, .ref h_this_rock_currents, .ref h_this_rock_buoys, .ref h_this_rock_now, .ref h_this_rock_rules, .ref h_this_rock_reports, .int x_this_rock_count, .int x_this_rock_end, .int x_this_rock_z]), (h_this_rock_buoys, ia G 6 f_this_rock_buoys), (h_this_rock_currents, ia G 6 f_this_rock_currents), (h_this_rock_kinds, ia G 6 f_this_rock_kinds), (h_this_rock_lanes, ia G 6 f_this_rock_lanes), (h_this_rock_lights, ia G 16 f_this_rock_lights), (h_this_rock_now, ob 6 [.ref h_this_rock_now_off, .int x_this_rock_now_watch, .int x_this_rock_now_score, .int x_this_rock_now_home]), (h_this_rock_now_off, ia G 6 f_this_rock_now_off), (h_this_rock_rules, ob 5 [.ref h_this_rock_rules_kinds, .ref h_this_rock_rules_deeds, .ref h_this_rock_rules_begins, .ref h_this_rock_rules_steps, .ref h_this_rock_rules_lefts, .ref h_this_rock_rules_rights, .ref h_this_rock_rules_facts, .int x_this_rock_rules_count, .int x_this_rock_rules_size]), (h_this_rock_rules_begins, ia G 9 f_this_rock_rules_begins), (h_this_rock_rules_deeds, ia G 8 f_this_rock_rules_deeds), (h_this_rock_rules_facts, ia G 5 f_this_rock_rules_facts), (h_this_rock_rules_kinds, ia G 8 f_this_rock_rules_kinds), (h_this_rock_rules_lefts, ia G 200 f_this_rock_rules_lefts), (h_this_rock_rules_rights, ia G 200 f_this_rock_rules_rights), (h_this_rock_rules_steps, ia G 200 f_this_rock_rules_steps), (h_this_rock_trims, ia G 6 f_this_rock_trims), (h_this_trial, ob 6 [.ref h_this_trial_off, .int y1, .int y2, .int y3]), (h_this_trial_off, ia G 6 g4)]) C h (c_X6_become hc5) mv_X8_189 rfl 18 rfl [7, 8, 18, 19] rfl rfl rfl rfl rfl hl.1 rfl (Nat.le_of_ble_eq_true rfl) (rok (by decide)) dX8_worthByLot_11 (fun H locs h => ?_)
  refine lv_iconst (v := (0 : Int32)) hx hb dX8_worthByLot_14 rfl ?_
  refine lv_istore_n (lv' := [(1, .int (0 : Int32)), (0, .ref h_this)]) hx hb dX8_worthByLot_15 rfl hl (by decide) rfl (fun ls hl => ?_)
  exact hK2 _ _ _ _ (L16 1000 (0 : Int32) x_this_rock_z f_this_rock_rules_facts y1 y2 y3 g4 hf) _ _ _ h (lv_sub hl [1, 0] rfl)
def f_X8_times_L37 (p0 : Int32) (p1 : Int32) (x_this_rock_count : Int32) (x_this_rock_end : Int32) (f_this_rock_buoys : Nat → Int32) (f_this_rock_currents : Nat → Int32) (f_this_rock_kinds : Nat → Int32) (f_this_rock_lanes : Nat → Int32) (f_this_rock_lights : Nat → Int32) (x_this_rock_now_watch : Int32) (x_this_rock_now_score : Int32) (x_this_rock_now_home : Int32) (f_this_rock_now_off : Nat → Int32) (x_this_rock_rules_count : Int32) (f_this_rock_rules_begins : Nat → Int32) (f_this_rock_rules_deeds : Nat → Int32) (f_this_rock_rules_kinds : Nat → Int32) (f_this_rock_rules_lefts : Nat → Int32) (f_this_rock_rules_rights : Nat → Int32) (f_this_rock_rules_steps : Nat → Int32) (f_this_rock_trims : Nat → Int32) : Nat → Int32 → Int32 → Int32 → Int32 → (Nat → Int32) → Int32 → Int32 → Int32 → (Nat → Int32) → Option (Int32 × Int32 × (Nat → Int32) × Int32 × Int32 × Int32 × (Nat → Int32))
  | 0, _, _, _, _, _, _, _, _, _ => none
  | n + 1, v3, v4, v5, y_this_rock_z, g_this_rock_rules_facts, y_this_trial_watch, y_this_trial_score, y_this_trial_home, g_this_trial_off => (if p0 ≤ v5 then some (v4, v3, g_this_rock_rules_facts, y_this_trial_watch, y_this_trial_score, y_this_trial_home, g_this_trial_off) else bd7 (f_X8_worthByLot x_this_rock_count x_this_rock_end y_this_rock_z f_this_rock_buoys f_this_rock_currents f_this_rock_kinds f_this_rock_lanes f_this_rock_lights x_this_rock_now_watch x_this_rock_now_score x_this_rock_now_home f_this_rock_now_off x_this_rock_rules_count f_this_rock_rules_begins f_this_rock_rules_deeds g_this_rock_rules_facts f_this_rock_rules_kinds f_this_rock_rules_lefts f_this_rock_rules_rights f_this_rock_rules_steps f_this_rock_trims g_this_trial_off) (fun r8 y9 g10 y11 y12 y13 g14 => (if r8 < p1 then lt1 (v5 + (1 : Int32)) (fun (t17 : Int32) => (f_X8_times_L37 p0 p1 x_this_rock_count x_this_rock_end f_this_rock_buoys f_this_rock_currents f_this_rock_kinds f_this_rock_lanes f_this_rock_lights x_this_rock_now_watch x_this_rock_now_score x_this_rock_now_home f_this_rock_now_off x_this_rock_rules_count f_this_rock_rules_begins f_this_rock_rules_deeds f_this_rock_rules_kinds f_this_rock_rules_lefts f_this_rock_rules_rights f_this_rock_rules_steps f_this_rock_trims n) v3 v4 t17 y9 g10 y11 y12 y13 g14) else lt1 (v4 + (1 : Int32)) (fun (t18 : Int32) => lt1 (v5 + (1 : Int32)) (fun (t19 : Int32) => (f_X8_times_L37 p0 p1 x_this_rock_count x_this_rock_end f_this_rock_buoys f_this_rock_currents f_this_rock_kinds f_this_rock_lanes f_this_rock_lights x_this_rock_now_watch x_this_rock_now_score x_this_rock_now_home f_this_rock_now_off x_this_rock_rules_count f_this_rock_rules_begins f_this_rock_rules_deeds f_this_rock_rules_kinds f_this_rock_rules_lefts f_this_rock_rules_rights f_this_rock_rules_steps f_this_rock_trims n) v3 t18 t19 y9 g10 y11 y12 y13 g14)))))
def f_X8_times (p0 : Int32) (p1 : Int32) (x_this_rock_count : Int32) (x_this_rock_end : Int32) (x_this_rock_z : Int32) (f_this_rock_buoys : Nat → Int32) (f_this_rock_currents : Nat → Int32) (f_this_rock_kinds : Nat → Int32) (f_this_rock_lanes : Nat → Int32) (f_this_rock_lights : Nat → Int32) (x_this_rock_now_watch : Int32) (x_this_rock_now_score : Int32) (x_this_rock_now_home : Int32) (f_this_rock_now_off : Nat → Int32) (x_this_rock_rules_count : Int32) (f_this_rock_rules_begins : Nat → Int32) (f_this_rock_rules_deeds : Nat → Int32) (f_this_rock_rules_facts : Nat → Int32) (f_this_rock_rules_kinds : Nat → Int32) (f_this_rock_rules_lefts : Nat → Int32) (f_this_rock_rules_rights : Nat → Int32) (f_this_rock_rules_steps : Nat → Int32) (f_this_rock_trims : Nat → Int32) (x_this_trial_watch : Int32) (x_this_trial_score : Int32) (x_this_trial_home : Int32) (f_this_trial_off : Nat → Int32) : Option (Int32 × Int32 × (Nat → Int32) × Int32 × Int32 × Int32 × (Nat → Int32)) := bd1 (f_X8_within p0 (1 : Int32) (40 : Int32)) (fun r1 => (if r1 = 0 then some ((-1 : Int32), x_this_rock_z, f_this_rock_rules_facts, x_this_trial_watch, x_this_trial_score, x_this_trial_home, f_this_trial_off) else bd1 (f_X8_within p1 (0 : Int32) (999 : Int32)) (fun r4 => (if r4 = 0 then some ((-1 : Int32), x_this_rock_z, f_this_rock_rules_facts, x_this_trial_watch, x_this_trial_score, x_this_trial_home, f_this_trial_off) else f_X8_times_L37 p0 p1 x_this_rock_count x_this_rock_end f_this_rock_buoys f_this_rock_currents f_this_rock_kinds f_this_rock_lanes f_this_rock_lights x_this_rock_now_watch x_this_rock_now_score x_this_rock_now_home f_this_rock_now_off x_this_rock_rules_count f_this_rock_rules_begins f_this_rock_rules_deeds f_this_rock_rules_kinds f_this_rock_rules_lefts f_this_rock_rules_rights f_this_rock_rules_steps f_this_rock_trims 1000 x_this_rock_z (0 : Int32) (0 : Int32) x_this_rock_z f_this_rock_rules_facts x_this_trial_watch x_this_trial_score x_this_trial_home f_this_trial_off))))
set_option maxRecDepth 100000 in
set_option maxHeartbeats 4000000 in
theorem c_X8_times {l : Launch} {G : Gt} {h_this h_this_rock h_this_kept h_this_trial h_this_planner h_this_reader h_this_draft h_this_host h_this_thing h_this_tape h_this_rows h_this_rock_kinds h_this_rock_trims h_this_rock_lanes h_this_rock_lights h_this_rock_currents h_this_rock_buoys h_this_rock_now h_this_rock_rules h_this_rock_reports h_this_rock_now_off h_this_rock_rules_kinds h_this_rock_rules_deeds h_this_rock_rules_begins h_this_rock_rules_steps h_this_rock_rules_lefts h_this_rock_rules_rights h_this_rock_rules_facts h_this_trial_off : Nat} {p0 : Int32} {p1 : Int32} {x_this_tapeCount : Int32} {x_this_rowCount : Int32} {x_this_isKept : Int32} {x_this_rock_count : Int32} {x_this_rock_end : Int32} {x_this_rock_z : Int32} {f_this_rock_buoys : Nat → Int32} {f_this_rock_currents : Nat → Int32} {f_this_rock_kinds : Nat → Int32} {f_this_rock_lanes : Nat → Int32} {f_this_rock_lights : Nat → Int32} {x_this_rock_now_watch : Int32} {x_this_rock_now_score : Int32} {x_this_rock_now_home : Int32} {f_this_rock_now_off : Nat → Int32} {x_this_rock_rules_count : Int32} {x_this_rock_rules_size : Int32} {f_this_rock_rules_begins : Nat → Int32} {f_this_rock_rules_deeds : Nat → Int32} {f_this_rock_rules_facts : Nat → Int32} {f_this_rock_rules_kinds : Nat → Int32} {f_this_rock_rules_lefts : Nat → Int32} {f_this_rock_rules_rights : Nat → Int32} {f_this_rock_rules_steps : Nat → Int32} {f_this_rock_trims : Nat → Int32} {x_this_trial_watch : Int32} {x_this_trial_score : Int32} {x_this_trial_home : Int32} {f_this_trial_off : Nat → Int32} {r : Int32} {m_this_rock_z : Int32} {m_this_rock_rules_facts : Nat → Int32} {m_this_trial_watch : Int32} {m_this_trial_score : Int32} {m_this_trial_home : Int32} {m_this_trial_off : Nat → Int32} (hf : f_X8_times p0 p1 x_this_rock_count x_this_rock_end x_this_rock_z f_this_rock_buoys f_this_rock_currents f_this_rock_kinds f_this_rock_lanes f_this_rock_lights x_this_rock_now_watch x_this_rock_now_score x_this_rock_now_home f_this_rock_now_off x_this_rock_rules_count f_this_rock_rules_begins f_this_rock_rules_deeds f_this_rock_rules_facts f_this_rock_rules_kinds f_this_rock_rules_lefts f_this_rock_rules_rights f_this_rock_rules_steps f_this_rock_trims x_this_trial_watch x_this_trial_score x_this_trial_home f_this_trial_off = some (r, m_this_rock_z, m_this_rock_rules_facts, m_this_trial_watch, m_this_trial_score, m_this_trial_home, m_this_trial_off)) : mFi l G yX8_times cX8_times 6 .int 7 [.ref h_this, .int p0, .int p1] [(h_this, ob 8 [.ref h_this_rock, .ref h_this_kept, .ref h_this_trial, .ref h_this_planner, .ref h_this_reader, .ref h_this_draft, .ref h_this_host, .ref h_this_thing, .ref h_this_tape, .ref h_this_rows, .int x_this_tapeCount, .int x_this_rowCount, .int x_this_isKept]), (h_this_rock, ob 3 [.ref h_this_rock_kinds, .ref h_this_rock_trims, .ref h_this_rock_lanes, .ref h_this_rock_lights, .ref h_this_rock_currents, .ref h_this_rock_buoys, .ref h_this_rock_now, .ref h_this_rock_rules, .ref h_this_rock_reports, .int x_this_rock_count, .int x_this_rock_end, .int x_this_rock_z]), (h_this_rock_buoys, ia G 6 f_this_rock_buoys), (h_this_rock_currents, ia G 6 f_this_rock_currents), (h_this_rock_kinds, ia G 6 f_this_rock_kinds), (h_this_rock_lanes, ia G 6 f_this_rock_lanes), (h_this_rock_lights, ia G 16 f_this_rock_lights), (h_this_rock_now, ob 6 [.ref h_this_rock_now_off, .int x_this_rock_now_watch, .int x_this_rock_now_score, .int x_this_rock_now_home]), (h_this_rock_now_off, ia G 6 f_this_rock_now_off), (h_this_rock_rules, ob 5 [.ref h_this_rock_rules_kinds, .ref h_this_rock_rules_deeds, .ref h_this_rock_rules_begins, .ref h_this_rock_rules_steps, .ref h_this_rock_rules_lefts, .ref h_this_rock_rules_rights, .ref h_this_rock_rules_facts, .int x_this_rock_rules_count, .int x_this_rock_rules_size]), (h_this_rock_rules_begins, ia G 9 f_this_rock_rules_begins), (h_this_rock_rules_deeds, ia G 8 f_this_rock_rules_deeds), (h_this_rock_rules_facts, ia G 5 f_this_rock_rules_facts), (h_this_rock_rules_kinds, ia G 8 f_this_rock_rules_kinds), (h_this_rock_rules_lefts, ia G 200 f_this_rock_rules_lefts), (h_this_rock_rules_rights, ia G 200 f_this_rock_rules_rights), (h_this_rock_rules_steps, ia G 200 f_this_rock_rules_steps), (h_this_rock_trims, ia G 6 f_this_rock_trims), (h_this_trial, ob 6 [.ref h_this_trial_off, .int x_this_trial_watch, .int x_this_trial_score, .int x_this_trial_home]), (h_this_trial_off, ia G 6 f_this_trial_off)] r [(h_this, ob 8 [.ref h_this_rock, .ref h_this_kept, .ref h_this_trial, .ref h_this_planner, .ref h_this_reader, .ref h_this_draft, .ref h_this_host, .ref h_this_thing, .ref h_this_tape, .ref h_this_rows, .int x_this_tapeCount, .int x_this_rowCount, .int x_this_isKept]), (h_this_rock, ob 3 [.ref h_this_rock_kinds, .ref h_this_rock_trims, .ref h_this_rock_lanes, .ref h_this_rock_lights, .ref h_this_rock_currents, .ref h_this_rock_buoys, .ref h_this_rock_now, .ref h_this_rock_rules, .ref h_this_rock_reports, .int x_this_rock_count, .int x_this_rock_end, .int m_this_rock_z]), (h_this_rock_buoys, ia G 6 f_this_rock_buoys), (h_this_rock_currents, ia G 6 f_this_rock_currents), (h_this_rock_kinds, ia G 6 f_this_rock_kinds), (h_this_rock_lanes, ia G 6 f_this_rock_lanes), (h_this_rock_lights, ia G 16 f_this_rock_lights), (h_this_rock_now, ob 6 [.ref h_this_rock_now_off, .int x_this_rock_now_watch, .int x_this_rock_now_score, .int x_this_rock_now_home]), (h_this_rock_now_off, ia G 6 f_this_rock_now_off), (h_this_rock_rules, ob 5 [.ref h_this_rock_rules_kinds, .ref h_this_rock_rules_deeds, .ref h_this_rock_rules_begins, .ref h_this_rock_rules_steps, .ref h_this_rock_rules_lefts, .ref h_this_rock_rules_rights, .ref h_this_rock_rules_facts, .int x_this_rock_rules_count, .int x_this_rock_rules_size]), (h_this_rock_rules_begins, ia G 9 f_this_rock_rules_begins), (h_this_rock_rules_deeds, ia G 8 f_this_rock_rules_deeds), (h_this_rock_rules_facts, ia G 5 m_this_rock_rules_facts), (h_this_rock_rules_kinds, ia G 8 f_this_rock_rules_kinds), (h_this_rock_rules_lefts, ia G 200 f_this_rock_rules_lefts), (h_this_rock_rules_rights, ia G 200 f_this_rock_rules_rights), (h_this_rock_rules_steps, ia G 200 f_this_rock_rules_steps), (h_this_rock_trims, ia G 6 f_this_rock_trims), (h_this_trial, ob 6 [.ref h_this_trial_off, .int m_this_trial_watch, .int m_this_trial_score, .int m_this_trial_home]), (h_this_trial_off, ia G 6 m_this_trial_off)] := by
  refine mFi.of (by decide +kernel) (Nat.le_of_ble_eq_true rfl) ?_
  intro p e s m below meth c A C hr hlk h ls hl
  obtain ⟨hx, hb, hml, hown, hts⟩ := id C
  replace hl : lv_has ls 6 [(0, .ref h_this), (1, .int p0), (2, .int p1)] := hl
  unfold f_X8_times at hf
  refine with_K G A 6 (fun K hK1 hK2 => ?_)
  have L37 : ∀ (n : Nat) (v3 : Int32) (v4 : Int32) (v5 : Int32) (y_this_rock_z : Int32) (g_this_rock_rules_facts : Nat → Int32) (y_this_trial_watch : Int32) (y_this_trial_score : Int32) (y_this_trial_home : Int32) (g_this_trial_off : Nat → Int32), f_X8_times_L37 p0 p1 x_this_rock_count x_this_rock_end f_this_rock_buoys f_this_rock_currents f_this_rock_kinds f_this_rock_lanes f_this_rock_lights x_this_rock_now_watch x_this_rock_now_score x_this_rock_now_home f_this_rock_now_off x_this_rock_rules_count f_this_rock_rules_begins f_this_rock_rules_deeds f_this_rock_rules_kinds f_this_rock_rules_lefts f_this_rock_rules_rights f_this_rock_rules_steps f_this_rock_trims n v3 v4 v5 y_this_rock_z g_this_rock_rules_facts y_this_trial_watch y_this_trial_score y_this_trial_home g_this_trial_off = some (r, m_this_rock_z, m_this_rock_rules_facts, m_this_trial_watch, m_this_trial_score, m_this_trial_home, m_this_trial_off) → K 37 ([] : List Value) [(h_this, ob 8 [.ref h_this_rock, .ref h_this_kept, .ref h_this_trial, .ref h_this_planner, .ref h_this_reader, .ref h_this_draft, .ref h_this_host, .ref h_this_thing, .ref h_this_tape, .ref h_this_rows, .int x_this_tapeCount, .int x_this_rowCount, .int x_this_isKept]), (h_this_rock, ob 3 [.ref h_this_rock_kinds, .ref h_this_rock_trims, .ref h_this_rock_lanes, .ref h_this_rock_lights, .ref h_this_rock_currents, .ref h_this_rock_buoys, .ref h_this_rock_now, .ref h_this_rock_rules, .ref h_this_rock_reports, .int x_this_rock_count, .int x_this_rock_end, .int y_this_rock_z]), (h_this_rock_buoys, ia G 6 f_this_rock_buoys), (h_this_rock_currents, ia G 6 f_this_rock_currents), (h_this_rock_kinds, ia G 6 f_this_rock_kinds), (h_this_rock_lanes, ia G 6 f_this_rock_lanes), (h_this_rock_lights, ia G 16 f_this_rock_lights), (h_this_rock_now, ob 6 [.ref h_this_rock_now_off, .int x_this_rock_now_watch, .int x_this_rock_now_score, .int x_this_rock_now_home]), (h_this_rock_now_off, ia G 6 f_this_rock_now_off), (h_this_rock_rules, ob 5 [.ref h_this_rock_rules_kinds, .ref h_this_rock_rules_deeds, .ref h_this_rock_rules_begins, .ref h_this_rock_rules_steps, .ref h_this_rock_rules_lefts, .ref h_this_rock_rules_rights, .ref h_this_rock_rules_facts, .int x_this_rock_rules_count, .int x_this_rock_rules_size]), (h_this_rock_rules_begins, ia G 9 f_this_rock_rules_begins), (h_this_rock_rules_deeds, ia G 8 f_this_rock_rules_deeds), (h_this_rock_rules_facts, ia G 5 g_this_rock_rules_facts), (h_this_rock_rules_kinds, ia G 8 f_this_rock_rules_kinds), (h_this_rock_rules_lefts, ia G 200 f_this_rock_rules_lefts), (h_this_rock_rules_rights, ia G 200 f_this_rock_rules_rights), (h_this_rock_rules_steps, ia G 200 f_this_rock_rules_steps), (h_this_rock_trims, ia G 6 f_this_rock_trims), (h_this_trial, ob 6 [.ref h_this_trial_off, .int y_this_trial_watch, .int y_this_trial_score, .int y_this_trial_home]), (h_this_trial_off, ia G 6 g_this_trial_off)] [(0, .ref h_this), (1, .int p0), (2, .int p1), (3, .int v3), (4, .int v4), (5, .int v5)] := by
    intro n
    induction n with
    | zero =>
      intro v3 v4 v5 y_this_rock_z g_this_rock_rules_facts y_this_trial_watch y_this_trial_score y_this_trial_home g_this_trial_off hf
      replace hf : (none : Option _) = some _ := hf
      cases hf
    | succ n ih =>
      intro v3 v4 v5 y_this_rock_z g_this_rock_rules_facts y_this_trial_watch y_this_trial_score y_this_trial_home g_this_trial_off hf
      rw [f_X8_times_L37] at hf
      refine hK1 _ _ _ _ (fun H locs ls h hl => ?_)
      refine lv_iload hx hb dX8_times_37 (lv_at hl 5 rfl) ?_
      refine lv_iload_n hx hb dX8_times_39 rfl (lv_at hl 1 rfl) ?_
      refine lv_icmp_ge (tgt := 60) hx hb dX8_times_40 rfl (fun c7 => ?_) (fun c7 => ?_)
      · replace hf := ifp c7 hf
        refine lv_aload_n hx hb dX8_times_60 rfl (lv_at hl 0 rfl) ?_
        refine r_get C h fk_X8_10 0 rfl rfl dX8_times_61 ?_
        refine lv_iload_n hx hb dX8_times_64 rfl (lv_at hl 3 rfl) ?_
        refine r_put (ws' := [(h_this, ob 8 [.ref h_this_rock, .ref h_this_kept, .ref h_this_trial, .ref h_this_planner, .ref h_this_reader, .ref h_this_draft, .ref h_this_host, .ref h_this_thing, .ref h_this_tape, .ref h_this_rows, .int x_this_tapeCount, .int x_this_rowCount, .int x_this_isKept]), (h_this_rock, ob 3 [.ref h_this_rock_kinds, .ref h_this_rock_trims, .ref h_this_rock_lanes, .ref h_this_rock_lights, .ref h_this_rock_currents, .ref h_this_rock_buoys, .ref h_this_rock_now, .ref h_this_rock_rules, .ref h_this_rock_reports, .int x_this_rock_count, .int x_this_rock_end, .int v3]), (h_this_rock_buoys, ia G 6 f_this_rock_buoys), (h_this_rock_currents, ia G 6 f_this_rock_currents), (h_this_rock_kinds, ia G 6 f_this_rock_kinds), (h_this_rock_lanes, ia G 6 f_this_rock_lanes), (h_this_rock_lights, ia G 16 f_this_rock_lights), (h_this_rock_now, ob 6 [.ref h_this_rock_now_off, .int x_this_rock_now_watch, .int x_this_rock_now_score, .int x_this_rock_now_home]), (h_this_rock_now_off, ia G 6 f_this_rock_now_off), (h_this_rock_rules, ob 5 [.ref h_this_rock_rules_kinds, .ref h_this_rock_rules_deeds, .ref h_this_rock_rules_begins, .ref h_this_rock_rules_steps, .ref h_this_rock_rules_lefts, .ref h_this_rock_rules_rights, .ref h_this_rock_rules_facts, .int x_this_rock_rules_count, .int x_this_rock_rules_size]), (h_this_rock_rules_begins, ia G 9 f_this_rock_rules_begins), (h_this_rock_rules_deeds, ia G 8 f_this_rock_rules_deeds), (h_this_rock_rules_facts, ia G 5 g_this_rock_rules_facts), (h_this_rock_rules_kinds, ia G 8 f_this_rock_rules_kinds), (h_this_rock_rules_lefts, ia G 200 f_this_rock_rules_lefts), (h_this_rock_rules_rights, ia G 200 f_this_rock_rules_rights), (h_this_rock_rules_steps, ia G 200 f_this_rock_rules_steps), (h_this_rock_trims, ia G 6 f_this_rock_trims), (h_this_trial, ob 6 [.ref h_this_trial_off, .int y_this_trial_watch, .int y_this_trial_score, .int y_this_trial_home]), (h_this_trial_off, ia G 6 g_this_trial_off)]) C h fw_X8_278 1 rfl rfl rfl (Nat.le_of_ble_eq_true rfl) dX8_times_65 rfl (fun H locs h => ?_)
        refine lv_iload hx hb dX8_times_68 (lv_at hl 4 rfl) ?_
        cases hf
        exact r_iret C h hr hlk rfl dX8_times_70
      · replace hf := ifn c7 hf
        refine lv_aload_n hx hb dX8_times_43 rfl (lv_at hl 0 rfl) ?_
        replace hf := bd7_inv hf
        obtain ⟨r8, y9, g10, y11, y12, y13, g14, hc15, hf⟩ := hf
        refine r_ciV (ws' := [(h_this, ob 8 [.ref h_this_rock, .ref h_this_kept, .ref h_this_trial, .ref h_this_planner, .ref h_this_reader, .ref h_this_draft, .ref h_this_host, .ref h_this_thing, .ref h_this_tape, .ref h_this_rows, .int x_this_tapeCount, .int x_this_rowCount, .int x_this_isKept]), (h_this_rock, ob 3 [.ref h_this_rock_kinds, .ref h_this_rock_trims, .ref h_this_rock_lanes, .ref h_this_rock_lights, .ref h_this_rock_currents, .ref h_this_rock_buoys, .ref h_this_rock_now, .ref h_this_rock_rules, .ref h_this_rock_reports, .int x_this_rock_count, .int x_this_rock_end, .int y9]), (h_this_rock_buoys, ia G 6 f_this_rock_buoys), (h_this_rock_currents, ia G 6 f_this_rock_currents), (h_this_rock_kinds, ia G 6 f_this_rock_kinds), (h_this_rock_lanes, ia G 6 f_this_rock_lanes), (h_this_rock_lights, ia G 16 f_this_rock_lights), (h_this_rock_now, ob 6 [.ref h_this_rock_now_off, .int x_this_rock_now_watch, .int x_this_rock_now_score, .int x_this_rock_now_home]), (h_this_rock_now_off, ia G 6 f_this_rock_now_off), (h_this_rock_rules, ob 5 [.ref h_this_rock_rules_kinds, .ref h_this_rock_rules_deeds, .ref h_this_rock_rules_begins, .ref h_this_rock_rules_steps, .ref h_this_rock_rules_lefts, .ref h_this_rock_rules_rights, .ref h_this_rock_rules_facts, .int x_this_rock_rules_count, .int x_this_rock_rules_size]), (h_this_rock_rules_begins, ia G 9 f_this_rock_rules_begins), (h_this_rock_rules_deeds, ia G 8 f_this_rock_rules_deeds), (h_this_rock_rules_facts, ia G 5 g10), (h_this_rock_rules_kinds, ia G 8 f_this_rock_rules_kinds), (h_this_rock_rules_lefts, ia G 200 f_this_rock_rules_lefts), (h_this_rock_rules_rights, ia G 200 f_this_rock_rules_rights), (h_this_rock_rules_steps, ia G 200 f_this_rock_rules_steps), (h_this_rock_trims, ia G 6 f_this_rock_trims), (h_this_trial, ob 6 [.ref h_this_trial_off, .int y11, .int y12, .int y13]), (h_this_trial_off, ia G 6 g14)]) C h (c_X8_worthByLot hc15) mv_X8_284 rfl 0 rfl [0, 1, 2, 3, 4, 5, 6, 7, 8, 9, 10, 11, 12, 13, 14, 15, 16, 17, 18, 19] rfl rfl rfl rfl rfl hl.1 rfl (Nat.le_of_ble_eq_true rfl) (rok (by decide)) dX8_times_44 (fun H locs h => ?_)
        refine lv_iload_n hx hb dX8_times_47 rfl (lv_at hl 2 rfl) ?_
        refine lv_icmp_lt (tgt := 54) hx hb dX8_times_48 rfl (fun c16 => ?_) (fun c16 => ?_)
        · replace hf := ifp c16 hf
          obtain ⟨t17, et17⟩ : ∃ y : Int32, y = v5 + (1 : Int32) := ⟨_, rfl⟩
          replace hf := lt1_inv et17 hf
          refine lv_iinc (v := t17) (lv' := [(5, .int t17), (0, .ref h_this), (1, .int p0), (2, .int p1), (3, .int v3), (4, .int v4)]) hx hb dX8_times_54 hl (k := 5) rfl (by rw [et17]; rfl) (by decide) rfl (fun ls hl => ?_)
          refine lv_goto (tgt := 37) hx hb dX8_times_57 rfl ?_
          exact hK2 _ _ _ _ (ih v3 v4 t17 y9 g10 y11 y12 y13 g14 hf) _ _ _ h (lv_sub hl [1, 2, 3, 4, 5, 0] rfl)
        · replace hf := ifn c16 hf
          obtain ⟨t18, et18⟩ : ∃ y : Int32, y = v4 + (1 : Int32) := ⟨_, rfl⟩
          replace hf := lt1_inv et18 hf
          refine lv_iinc (v := t18) (lv' := [(4, .int t18), (0, .ref h_this), (1, .int p0), (2, .int p1), (3, .int v3), (5, .int v5)]) hx hb dX8_times_51 hl (k := 4) rfl (by rw [et18]; rfl) (by decide) rfl (fun ls hl => ?_)
          obtain ⟨t19, et19⟩ : ∃ y : Int32, y = v5 + (1 : Int32) := ⟨_, rfl⟩
          replace hf := lt1_inv et19 hf
          refine lv_iinc (v := t19) (lv' := [(5, .int t19), (4, .int t18), (0, .ref h_this), (1, .int p0), (2, .int p1), (3, .int v3)]) hx hb dX8_times_54 hl (k := 5) rfl (by rw [et19]; rfl) (by decide) rfl (fun ls hl => ?_)
          refine lv_goto (tgt := 37) hx hb dX8_times_57 rfl ?_
          exact hK2 _ _ _ _ (ih v3 t18 t19 y9 g10 y11 y12 y13 g14 hf) _ _ _ h (lv_sub hl [2, 3, 4, 5, 1, 0] rfl)
  refine lv_iload_n hx hb dX8_times_0 rfl (lv_at hl 1 rfl) ?_
  refine lv_iconst (v := (1 : Int32)) hx hb dX8_times_1 rfl ?_
  refine lv_bipush (v := (40 : Int32)) hx hb dX8_times_2 rfl ?_
  replace hf := bd1_inv hf
  obtain ⟨r1, hc2, hf⟩ := hf
  refine r_ciS0 C h (c_X8_within hc2) ms_X8_79 rfl [] rfl rfl hl.1 rfl (Nat.le_of_ble_eq_true rfl) (rok (by decide)) dX8_times_4 (fun H locs h => ?_)
  refine lv_if_eq (tgt := 21) hx hb dX8_times_7 rfl (fun c3 => ?_) (fun c3 => ?_)
  · replace hf := ifp c3 hf
    refine lv_iconst (v := (-1 : Int32)) hx hb dX8_times_21 rfl ?_
    cases hf
    exact r_iret C h hr hlk rfl dX8_times_22
  · replace hf := ifn c3 hf
    refine lv_iload_n hx hb dX8_times_10 rfl (lv_at hl 2 rfl) ?_
    refine lv_iconst (v := (0 : Int32)) hx hb dX8_times_11 rfl ?_
    refine lv_sipush (v := (999 : Int32)) hx hb dX8_times_12 rfl ?_
    replace hf := bd1_inv hf
    obtain ⟨r4, hc5, hf⟩ := hf
    refine r_ciS0 C h (c_X8_within hc5) ms_X8_79 rfl [] rfl rfl hl.1 rfl (Nat.le_of_ble_eq_true rfl) (rok (by decide)) dX8_times_15 (fun H locs h => ?_)
    refine lv_if_ne (tgt := 23) hx hb dX8_times_18 rfl (fun c6 => ?_) (fun c6 => ?_)
    · replace hf := ifn c6 hf
      refine lv_aload_n hx hb dX8_times_23 rfl (lv_at hl 0 rfl) ?_
      refine r_get C h fk_X8_10 0 rfl rfl dX8_times_24 ?_
      refine r_get C h fk_X8_278 1 rfl rfl dX8_times_27 ?_
      refine lv_istore_n (lv' := [(3, .int x_this_rock_z), (0, .ref h_this), (1, .int p0), (2, .int p1)]) hx hb dX8_times_30 rfl hl (by decide) rfl (fun ls hl => ?_)
      refine lv_iconst (v := (0 : Int32)) hx hb dX8_times_31 rfl ?_
      refine lv_istore (lv' := [(4, .int (0 : Int32)), (3, .int x_this_rock_z), (0, .ref h_this), (1, .int p0), (2, .int p1)]) hx hb dX8_times_32 hl (by decide) rfl (fun ls hl => ?_)
      refine lv_iconst (v := (0 : Int32)) hx hb dX8_times_34 rfl ?_
      refine lv_istore (lv' := [(5, .int (0 : Int32)), (4, .int (0 : Int32)), (3, .int x_this_rock_z), (0, .ref h_this), (1, .int p0), (2, .int p1)]) hx hb dX8_times_35 hl (by decide) rfl (fun ls hl => ?_)
      exact hK2 _ _ _ _ (L37 1000 x_this_rock_z (0 : Int32) (0 : Int32) x_this_rock_z f_this_rock_rules_facts x_this_trial_watch x_this_trial_score x_this_trial_home f_this_trial_off hf) _ _ _ h (lv_sub hl [3, 4, 5, 2, 1, 0] rfl)
    · replace hf := ifp c6 hf
      refine lv_iconst (v := (-1 : Int32)) hx hb dX8_times_21 rfl ?_
      cases hf
      exact r_iret C h hr hlk rfl dX8_times_22
def f_X8_prove_L51 (x_this_rock_count : Int32) (f_this_rock_buoys : Nat → Int32) (f_this_rock_currents : Nat → Int32) (f_this_rock_kinds : Nat → Int32) (f_this_rock_lanes : Nat → Int32) (f_this_rock_lights : Nat → Int32) (x_this_rock_rules_count : Int32) (f_this_rock_rules_begins : Nat → Int32) (f_this_rock_rules_deeds : Nat → Int32) (f_this_rock_rules_kinds : Nat → Int32) (f_this_rock_rules_lefts : Nat → Int32) (f_this_rock_rules_rights : Nat → Int32) (f_this_rock_rules_steps : Nat → Int32) (f_this_rock_trims : Nat → Int32) : Nat → Int32 → Int32 → Int32 → Int32 → Int32 → Int32 → Int32 → Int32 → (Nat → Int32) → Int32 → Int32 → Int32 → (Nat → Int32) → Int32 → Int32 → Int32 → (Nat → Int32) → Int32 → Int32 → Int32 → (Nat → Int32) → Int32 → Int32 → Int32 → (Nat → Int32) → Int32 → Int32 → Int32 → (Nat → Int32) → (Nat → Int32) → (Nat → Int32) → (Nat → Int32) → Int32 → Int32 → Int32 → (Nat → Int32) → Option (Int32 × Int32 × Int32 × Int32 × Int32 × Int32 × Int32 × Int32 × (Nat → Int32) × Int32 × Int32 × Int32 × (Nat → Int32) × Int32 × Int32 × Int32 × (Nat → Int32) × Int32 × Int32 × Int32 × (Nat → Int32) × Int32 × Int32 × Int32 × (Nat → Int32) × Int32 × Int32 × Int32 × (Nat → Int32) × (Nat → Int32) × (Nat → Int32) × (Nat → Int32) × Int32 × Int32 × Int32 × (Nat → Int32))
  | 0, _, _, _, _, _, _, _, _, _, _, _, _, _, _, _, _, _, _, _, _, _, _, _, _, _, _, _, _, _, _, _, _, _, _, _, _ => none
  | n + 1, v2, y_this_rowCount, y_this_planner_length, y_this_planner_wanted, y_this_planner_best, y_this_planner_ways, y_this_planner_fewest, y_this_planner_everHome, g_this_planner_acts, y_this_planner_ahead_0_watch, y_this_planner_ahead_0_score, y_this_planner_ahead_0_home, g_this_planner_ahead_0_off, y_this_planner_ahead_1_watch, y_this_planner_ahead_1_score, y_this_planner_ahead_1_home, g_this_planner_ahead_1_off, y_this_planner_ahead_2_watch, y_this_planner_ahead_2_score, y_this_planner_ahead_2_home, g_this_planner_ahead_2_off, y_this_planner_ahead_3_watch, y_this_planner_ahead_3_score, y_this_planner_ahead_3_home, g_this_planner_ahead_3_off, y_this_planner_ahead_4_watch, y_this_planner_ahead_4_score, y_this_planner_ahead_4_home, g_this_planner_ahead_4_off, g_this_planner_first, g_this_rock_rules_facts, g_this_rows, y_this_trial_watch, y_this_trial_score, y_this_trial_home, g_this_trial_off => (if y_this_rowCount ≤ v2 then some (y_this_rowCount, y_this_rowCount, y_this_planner_length, y_this_planner_wanted, y_this_planner_best, y_this_planner_ways, y_this_planner_fewest, y_this_planner_everHome, g_this_planner_acts, y_this_planner_ahead_0_watch, y_this_planner_ahead_0_score, y_this_planner_ahead_0_home, g_this_planner_ahead_0_off, y_this_planner_ahead_1_watch, y_this_planner_ahead_1_score, y_this_planner_ahead_1_home, g_this_planner_ahead_1_off, y_this_planner_ahead_2_watch, y_this_planner_ahead_2_score, y_this_planner_ahead_2_home, g_this_planner_ahead_2_off, y_this_planner_ahead_3_watch, y_this_planner_ahead_3_score, y_this_planner_ahead_3_home, g_this_planner_ahead_3_off, y_this_planner_ahead_4_watch, y_this_planner_ahead_4_score, y_this_planner_ahead_4_home, g_this_planner_ahead_4_off, g_this_planner_first, g_this_rock_rules_facts, g_this_rows, y_this_trial_watch, y_this_trial_score, y_this_trial_home, g_this_trial_off) else chkI v2 4 (lt1 (g_this_planner_first v2.toNatClampNeg) (fun (t41 : Int32) => chkI ((3 : Int32) * v2) 12 (chkI v2 4 (bd6 (f_X3_pass (g_this_planner_first v2.toNatClampNeg) y_this_trial_watch y_this_trial_score y_this_trial_home g_this_trial_off x_this_rock_count f_this_rock_buoys f_this_rock_currents f_this_rock_kinds f_this_rock_lanes f_this_rock_lights x_this_rock_rules_count f_this_rock_rules_begins f_this_rock_rules_deeds g_this_rock_rules_facts f_this_rock_rules_kinds f_this_rock_rules_lefts f_this_rock_rules_rights f_this_rock_rules_steps f_this_rock_trims) (fun r44 y45 y46 y47 g48 g49 => chkI (((3 : Int32) * v2) + (1 : Int32)) 12 (chkI (((3 : Int32) * v2) + (2 : Int32)) 12 (lt1 (v2 + (1 : Int32)) (fun (t53 : Int32) => (f_X8_prove_L51 x_this_rock_count f_this_rock_buoys f_this_rock_currents f_this_rock_kinds f_this_rock_lanes f_this_rock_lights x_this_rock_rules_count f_this_rock_rules_begins f_this_rock_rules_deeds f_this_rock_rules_kinds f_this_rock_rules_lefts f_this_rock_rules_rights f_this_rock_rules_steps f_this_rock_trims n) t53 y_this_rowCount y_this_planner_length y_this_planner_wanted y_this_planner_best y_this_planner_ways y_this_planner_fewest y_this_planner_everHome g_this_planner_acts y_this_planner_ahead_0_watch y_this_planner_ahead_0_score y_this_planner_ahead_0_home g_this_planner_ahead_0_off y_this_planner_ahead_1_watch y_this_planner_ahead_1_score y_this_planner_ahead_1_home g_this_planner_ahead_1_off y_this_planner_ahead_2_watch y_this_planner_ahead_2_score y_this_planner_ahead_2_home g_this_planner_ahead_2_off y_this_planner_ahead_3_watch y_this_planner_ahead_3_score y_this_planner_ahead_3_home g_this_planner_ahead_3_off y_this_planner_ahead_4_watch y_this_planner_ahead_4_score y_this_planner_ahead_4_home g_this_planner_ahead_4_off g_this_planner_first g49 (upd (upd (upd g_this_rows ((3 : Int32) * v2).toNatClampNeg t41) (((3 : Int32) * v2) + (1 : Int32)).toNatClampNeg r44) (((3 : Int32) * v2) + (2 : Int32)).toNatClampNeg y47) y45 y46 y47 g48)))))))))
def f_X8_prove (p0 : Int32) (x_this_rowCount : Int32) (x_this_planner_length : Int32) (x_this_planner_wanted : Int32) (x_this_planner_best : Int32) (x_this_planner_ways : Int32) (x_this_planner_fewest : Int32) (x_this_planner_everHome : Int32) (f_this_planner_acts : Nat → Int32) (x_this_planner_ahead_0_watch : Int32) (x_this_planner_ahead_0_score : Int32) (x_this_planner_ahead_0_home : Int32) (f_this_planner_ahead_0_off : Nat → Int32) (x_this_planner_ahead_1_watch : Int32) (x_this_planner_ahead_1_score : Int32) (x_this_planner_ahead_1_home : Int32) (f_this_planner_ahead_1_off : Nat → Int32) (x_this_planner_ahead_2_watch : Int32) (x_this_planner_ahead_2_score : Int32) (x_this_planner_ahead_2_home : Int32) (f_this_planner_ahead_2_off : Nat → Int32) (x_this_planner_ahead_3_watch : Int32) (x_this_planner_ahead_3_score : Int32) (x_this_planner_ahead_3_home : Int32) (f_this_planner_ahead_3_off : Nat → Int32) (x_this_planner_ahead_4_watch : Int32) (x_this_planner_ahead_4_score : Int32) (x_this_planner_ahead_4_home : Int32) (f_this_planner_ahead_4_off : Nat → Int32) (f_this_planner_first : Nat → Int32) (x_this_rock_count : Int32) (x_this_rock_end : Int32) (f_this_rock_buoys : Nat → Int32) (f_this_rock_currents : Nat → Int32) (f_this_rock_kinds : Nat → Int32) (f_this_rock_lanes : Nat → Int32) (f_this_rock_lights : Nat → Int32) (x_this_rock_now_watch : Int32) (x_this_rock_now_score : Int32) (x_this_rock_now_home : Int32) (f_this_rock_now_off : Nat → Int32) (x_this_rock_rules_count : Int32) (f_this_rock_rules_begins : Nat → Int32) (f_this_rock_rules_deeds : Nat → Int32) (f_this_rock_rules_facts : Nat → Int32) (f_this_rock_rules_kinds : Nat → Int32) (f_this_rock_rules_lefts : Nat → Int32) (f_this_rock_rules_rights : Nat → Int32) (f_this_rock_rules_steps : Nat → Int32) (f_this_rock_trims : Nat → Int32) (f_this_rows : Nat → Int32) (x_this_trial_watch : Int32) (x_this_trial_score : Int32) (x_this_trial_home : Int32) (f_this_trial_off : Nat → Int32) : Option (Int32 × Int32 × Int32 × Int32 × Int32 × Int32 × Int32 × Int32 × (Nat → Int32) × Int32 × Int32 × Int32 × (Nat → Int32) × Int32 × Int32 × Int32 × (Nat → Int32) × Int32 × Int32 × Int32 × (Nat → Int32) × Int32 × Int32 × Int32 × (Nat → Int32) × Int32 × Int32 × Int32 × (Nat → Int32) × (Nat → Int32) × (Nat → Int32) × (Nat → Int32) × Int32 × Int32 × Int32 × (Nat → Int32)) := bd1 (f_X8_within p0 (0 : Int32) (4 : Int32)) (fun r1 => (if r1 = 0 then some ((-1 : Int32), x_this_rowCount, x_this_planner_length, x_this_planner_wanted, x_this_planner_best, x_this_planner_ways, x_this_planner_fewest, x_this_planner_everHome, f_this_planner_acts, x_this_planner_ahead_0_watch, x_this_planner_ahead_0_score, x_this_planner_ahead_0_home, f_this_planner_ahead_0_off, x_this_planner_ahead_1_watch, x_this_planner_ahead_1_score, x_this_planner_ahead_1_home, f_this_planner_ahead_1_off, x_this_planner_ahead_2_watch, x_this_planner_ahead_2_score, x_this_planner_ahead_2_home, f_this_planner_ahead_2_off, x_this_planner_ahead_3_watch, x_this_planner_ahead_3_score, x_this_planner_ahead_3_home, f_this_planner_ahead_3_off, x_this_planner_ahead_4_watch, x_this_planner_ahead_4_score, x_this_planner_ahead_4_home, f_this_planner_ahead_4_off, f_this_planner_first, f_this_rock_rules_facts, f_this_rows, x_this_trial_watch, x_this_trial_score, x_this_trial_home, f_this_trial_off) else bd29 (f_X1_study p0 (0 : Int32) x_this_rock_count x_this_rock_end f_this_rock_buoys f_this_rock_currents f_this_rock_kinds f_this_rock_lanes f_this_rock_lights x_this_rock_now_watch x_this_rock_now_score x_this_rock_now_home f_this_rock_now_off x_this_rock_rules_count f_this_rock_rules_begins f_this_rock_rules_deeds f_this_rock_rules_facts f_this_rock_rules_kinds f_this_rock_rules_lefts f_this_rock_rules_rights f_this_rock_rules_steps f_this_rock_trims f_this_planner_acts f_this_planner_ahead_0_off x_this_planner_ahead_1_watch x_this_planner_ahead_1_score x_this_planner_ahead_1_home f_this_planner_ahead_1_off x_this_planner_ahead_2_watch x_this_planner_ahead_2_score x_this_planner_ahead_2_home f_this_planner_ahead_2_off x_this_planner_ahead_3_watch x_this_planner_ahead_3_score x_this_planner_ahead_3_home f_this_planner_ahead_3_off x_this_planner_ahead_4_watch x_this_planner_ahead_4_score x_this_planner_ahead_4_home f_this_planner_ahead_4_off f_this_planner_first) (fun g4 y5 y6 y7 y8 y9 y10 g11 y12 y13 y14 g15 y16 y17 y18 g19 y20 y21 y22 g23 y24 y25 y26 g27 y28 y29 y30 g31 g32 => bd4 (f_X6_become x_this_rock_now_watch x_this_rock_now_score x_this_rock_now_home f_this_rock_now_off f_this_trial_off) (fun y34 y35 y36 g37 => f_X8_prove_L51 x_this_rock_count f_this_rock_buoys f_this_rock_currents f_this_rock_kinds f_this_rock_lanes f_this_rock_lights x_this_rock_rules_count f_this_rock_rules_begins f_this_rock_rules_deeds f_this_rock_rules_kinds f_this_rock_rules_lefts f_this_rock_rules_rights f_this_rock_rules_steps f_this_rock_trims 1000 (0 : Int32) y5 y5 y6 y7 y8 y9 y10 g11 y12 y13 y14 g15 y16 y17 y18 g19 y20 y21 y22 g23 y24 y25 y26 g27 y28 y29 y30 g31 g32 g4 f_this_rows y34 y35 y36 g37))))
set_option maxRecDepth 100000 in
set_option maxHeartbeats 4000000 in
theorem c_X8_prove {l : Launch} {G : Gt} {h_this h_this_rock h_this_kept h_this_trial h_this_planner h_this_reader h_this_draft h_this_host h_this_thing h_this_tape h_this_rows h_this_planner_ahead h_this_planner_acts h_this_planner_first h_this_planner_ahead_0 h_this_planner_ahead_1 h_this_planner_ahead_2 h_this_planner_ahead_3 h_this_planner_ahead_4 h_this_planner_ahead_0_off h_this_planner_ahead_1_off h_this_planner_ahead_2_off h_this_planner_ahead_3_off h_this_planner_ahead_4_off h_this_rock_kinds h_this_rock_trims h_this_rock_lanes h_this_rock_lights h_this_rock_currents h_this_rock_buoys h_this_rock_now h_this_rock_rules h_this_rock_reports h_this_rock_now_off h_this_rock_rules_kinds h_this_rock_rules_deeds h_this_rock_rules_begins h_this_rock_rules_steps h_this_rock_rules_lefts h_this_rock_rules_rights h_this_rock_rules_facts h_this_trial_off : Nat} {p0 : Int32} {x_this_tapeCount : Int32} {x_this_rowCount : Int32} {x_this_isKept : Int32} {x_this_planner_length : Int32} {x_this_planner_wanted : Int32} {x_this_planner_best : Int32} {x_this_planner_ways : Int32} {x_this_planner_fewest : Int32} {x_this_planner_everHome : Int32} {f_this_planner_acts : Nat → Int32} {x_this_planner_ahead_0_watch : Int32} {x_this_planner_ahead_0_score : Int32} {x_this_planner_ahead_0_home : Int32} {f_this_planner_ahead_0_off : Nat → Int32} {x_this_planner_ahead_1_watch : Int32} {x_this_planner_ahead_1_score : Int32} {x_this_planner_ahead_1_home : Int32} {f_this_planner_ahead_1_off : Nat → Int32} {x_this_planner_ahead_2_watch : Int32} {x_this_planner_ahead_2_score : Int32} {x_this_planner_ahead_2_home : Int32} {f_this_planner_ahead_2_off : Nat → Int32} {x_this_planner_ahead_3_watch : Int32} {x_this_planner_ahead_3_score : Int32} {x_this_planner_ahead_3_home : Int32} {f_this_planner_ahead_3_off : Nat → Int32} {x_this_planner_ahead_4_watch : Int32} {x_this_planner_ahead_4_score : Int32} {x_this_planner_ahead_4_home : Int32} {f_this_planner_ahead_4_off : Nat → Int32} {f_this_planner_first : Nat → Int32} {x_this_rock_count : Int32} {x_this_rock_end : Int32} {x_this_rock_z : Int32} {f_this_rock_buoys : Nat → Int32} {f_this_rock_currents : Nat → Int32} {f_this_rock_kinds : Nat → Int32} {f_this_rock_lanes : Nat → Int32} {f_this_rock_lights : Nat → Int32} {x_this_rock_now_watch : Int32} {x_this_rock_now_score : Int32} {x_this_rock_now_home : Int32} {f_this_rock_now_off : Nat → Int32} {x_this_rock_rules_count : Int32} {x_this_rock_rules_size : Int32} {f_this_rock_rules_begins : Nat → Int32} {f_this_rock_rules_deeds : Nat → Int32} {f_this_rock_rules_facts : Nat → Int32} {f_this_rock_rules_kinds : Nat → Int32} {f_this_rock_rules_lefts : Nat → Int32} {f_this_rock_rules_rights : Nat → Int32} {f_this_rock_rules_steps : Nat → Int32} {f_this_rock_trims : Nat → Int32} {f_this_rows : Nat → Int32} {x_this_trial_watch : Int32} {x_this_trial_score : Int32} {x_this_trial_home : Int32} {f_this_trial_off : Nat → Int32} {r : Int32} {m_this_rowCount : Int32} {m_this_planner_length : Int32} {m_this_planner_wanted : Int32} {m_this_planner_best : Int32} {m_this_planner_ways : Int32} {m_this_planner_fewest : Int32} {m_this_planner_everHome : Int32} {m_this_planner_acts : Nat → Int32} {m_this_planner_ahead_0_watch : Int32} {m_this_planner_ahead_0_score : Int32} {m_this_planner_ahead_0_home : Int32} {m_this_planner_ahead_0_off : Nat → Int32} {m_this_planner_ahead_1_watch : Int32} {m_this_planner_ahead_1_score : Int32} {m_this_planner_ahead_1_home : Int32} {m_this_planner_ahead_1_off : Nat → Int32} {m_this_planner_ahead_2_watch : Int32} {m_this_planner_ahead_2_score : Int32} {m_this_planner_ahead_2_home : Int32} {m_this_planner_ahead_2_off : Nat → Int32} {m_this_planner_ahead_3_watch : Int32} {m_this_planner_ahead_3_score : Int32} {m_this_planner_ahead_3_home : Int32} {m_this_planner_ahead_3_off : Nat → Int32} {m_this_planner_ahead_4_watch : Int32} {m_this_planner_ahead_4_score : Int32} {m_this_planner_ahead_4_home : Int32} {m_this_planner_ahead_4_off : Nat → Int32} {m_this_planner_first : Nat → Int32} {m_this_rock_rules_facts : Nat → Int32} {m_this_rows : Nat → Int32} {m_this_trial_watch : Int32} {m_this_trial_score : Int32} {m_this_trial_home : Int32} {m_this_trial_off : Nat → Int32} (hf : f_X8_prove p0 x_this_rowCount x_this_planner_length x_this_planner_wanted x_this_planner_best x_this_planner_ways x_this_planner_fewest x_this_planner_everHome f_this_planner_acts x_this_planner_ahead_0_watch x_this_planner_ahead_0_score x_this_planner_ahead_0_home f_this_planner_ahead_0_off x_this_planner_ahead_1_watch x_this_planner_ahead_1_score x_this_planner_ahead_1_home f_this_planner_ahead_1_off x_this_planner_ahead_2_watch x_this_planner_ahead_2_score x_this_planner_ahead_2_home f_this_planner_ahead_2_off x_this_planner_ahead_3_watch x_this_planner_ahead_3_score x_this_planner_ahead_3_home f_this_planner_ahead_3_off x_this_planner_ahead_4_watch x_this_planner_ahead_4_score x_this_planner_ahead_4_home f_this_planner_ahead_4_off f_this_planner_first x_this_rock_count x_this_rock_end f_this_rock_buoys f_this_rock_currents f_this_rock_kinds f_this_rock_lanes f_this_rock_lights x_this_rock_now_watch x_this_rock_now_score x_this_rock_now_home f_this_rock_now_off x_this_rock_rules_count f_this_rock_rules_begins f_this_rock_rules_deeds f_this_rock_rules_facts f_this_rock_rules_kinds f_this_rock_rules_lefts f_this_rock_rules_rights f_this_rock_rules_steps f_this_rock_trims f_this_rows x_this_trial_watch x_this_trial_score x_this_trial_home f_this_trial_off = some (r, m_this_rowCount, m_this_planner_length, m_this_planner_wanted, m_this_planner_best, m_this_planner_ways, m_this_planner_fewest, m_this_planner_everHome, m_this_planner_acts, m_this_planner_ahead_0_watch, m_this_planner_ahead_0_score, m_this_planner_ahead_0_home, m_this_planner_ahead_0_off, m_this_planner_ahead_1_watch, m_this_planner_ahead_1_score, m_this_planner_ahead_1_home, m_this_planner_ahead_1_off, m_this_planner_ahead_2_watch, m_this_planner_ahead_2_score, m_this_planner_ahead_2_home, m_this_planner_ahead_2_off, m_this_planner_ahead_3_watch, m_this_planner_ahead_3_score, m_this_planner_ahead_3_home, m_this_planner_ahead_3_off, m_this_planner_ahead_4_watch, m_this_planner_ahead_4_score, m_this_planner_ahead_4_home, m_this_planner_ahead_4_off, m_this_planner_first, m_this_rock_rules_facts, m_this_rows, m_this_trial_watch, m_this_trial_score, m_this_trial_home, m_this_trial_off)) : mFi l G yX8_prove cX8_prove 3 .int 11 [.ref h_this, .int p0] [(h_this, ob 8 [.ref h_this_rock, .ref h_this_kept, .ref h_this_trial, .ref h_this_planner, .ref h_this_reader, .ref h_this_draft, .ref h_this_host, .ref h_this_thing, .ref h_this_tape, .ref h_this_rows, .int x_this_tapeCount, .int x_this_rowCount, .int x_this_isKept]), (h_this_planner, ob 1 [.ref h_this_planner_ahead, .ref h_this_planner_acts, .ref h_this_planner_first, .int x_this_planner_length, .int x_this_planner_wanted, .int x_this_planner_best, .int x_this_planner_ways, .int x_this_planner_fewest, .int x_this_planner_everHome]), (h_this_planner_acts, ia G 4 f_this_planner_acts), (h_this_planner_ahead, ra G 5 (rl5 h_this_planner_ahead_0 h_this_planner_ahead_1 h_this_planner_ahead_2 h_this_planner_ahead_3 h_this_planner_ahead_4)), (h_this_planner_ahead_0, ob 6 [.ref h_this_planner_ahead_0_off, .int x_this_planner_ahead_0_watch, .int x_this_planner_ahead_0_score, .int x_this_planner_ahead_0_home]), (h_this_planner_ahead_0_off, ia G 6 f_this_planner_ahead_0_off), (h_this_planner_ahead_1, ob 6 [.ref h_this_planner_ahead_1_off, .int x_this_planner_ahead_1_watch, .int x_this_planner_ahead_1_score, .int x_this_planner_ahead_1_home]), (h_this_planner_ahead_1_off, ia G 6 f_this_planner_ahead_1_off), (h_this_planner_ahead_2, ob 6 [.ref h_this_planner_ahead_2_off, .int x_this_planner_ahead_2_watch, .int x_this_planner_ahead_2_score, .int x_this_planner_ahead_2_home]), (h_this_planner_ahead_2_off, ia G 6 f_this_planner_ahead_2_off), (h_this_planner_ahead_3, ob 6 [.ref h_this_planner_ahead_3_off, .int x_this_planner_ahead_3_watch, .int x_this_planner_ahead_3_score, .int x_this_planner_ahead_3_home]), (h_this_planner_ahead_3_off, ia G 6 f_this_planner_ahead_3_off), (h_this_planner_ahead_4, ob 6 [.ref h_this_planner_ahead_4_off, .int x_this_planner_ahead_4_watch, .int x_this_planner_ahead_4_score, .int x_this_planner_ahead_4_home]), (h_this_planner_ahead_4_off, ia G 6 f_this_planner_ahead_4_off), (h_this_planner_first, ia G 4 f_this_planner_first), (h_this_rock, ob 3 [.ref h_this_rock_kinds, .ref h_this_rock_trims, .ref h_this_rock_lanes, .ref h_this_rock_lights, .ref h_this_rock_currents, .ref h_this_rock_buoys, .ref h_this_rock_now, .ref h_this_rock_rules, .ref h_this_rock_reports, .int x_this_rock_count, .int x_this_rock_end, .int x_this_rock_z]), (h_this_rock_buoys, ia G 6 f_this_rock_buoys), (h_this_rock_currents, ia G 6 f_this_rock_currents), (h_this_rock_kinds, ia G 6 f_this_rock_kinds), (h_this_rock_lanes, ia G 6 f_this_rock_lanes), (h_this_rock_lights, ia G 16 f_this_rock_lights), (h_this_rock_now, ob 6 [.ref h_this_rock_now_off, .int x_this_rock_now_watch, .int x_this_rock_now_score, .int x_this_rock_now_home]), (h_this_rock_now_off, ia G 6 f_this_rock_now_off), (h_this_rock_rules, ob 5 [.ref h_this_rock_rules_kinds, .ref h_this_rock_rules_deeds, .ref h_this_rock_rules_begins, .ref h_this_rock_rules_steps, .ref h_this_rock_rules_lefts, .ref h_this_rock_rules_rights, .ref h_this_rock_rules_facts, .int x_this_rock_rules_count, .int x_this_rock_rules_size]), (h_this_rock_rules_begins, ia G 9 f_this_rock_rules_begins), (h_this_rock_rules_deeds, ia G 8 f_this_rock_rules_deeds), (h_this_rock_rules_facts, ia G 5 f_this_rock_rules_facts), (h_this_rock_rules_kinds, ia G 8 f_this_rock_rules_kinds), (h_this_rock_rules_lefts, ia G 200 f_this_rock_rules_lefts), (h_this_rock_rules_rights, ia G 200 f_this_rock_rules_rights), (h_this_rock_rules_steps, ia G 200 f_this_rock_rules_steps), (h_this_rock_trims, ia G 6 f_this_rock_trims), (h_this_rows, ia G 12 f_this_rows), (h_this_trial, ob 6 [.ref h_this_trial_off, .int x_this_trial_watch, .int x_this_trial_score, .int x_this_trial_home]), (h_this_trial_off, ia G 6 f_this_trial_off)] r [(h_this, ob 8 [.ref h_this_rock, .ref h_this_kept, .ref h_this_trial, .ref h_this_planner, .ref h_this_reader, .ref h_this_draft, .ref h_this_host, .ref h_this_thing, .ref h_this_tape, .ref h_this_rows, .int x_this_tapeCount, .int m_this_rowCount, .int x_this_isKept]), (h_this_planner, ob 1 [.ref h_this_planner_ahead, .ref h_this_planner_acts, .ref h_this_planner_first, .int m_this_planner_length, .int m_this_planner_wanted, .int m_this_planner_best, .int m_this_planner_ways, .int m_this_planner_fewest, .int m_this_planner_everHome]), (h_this_planner_acts, ia G 4 m_this_planner_acts), (h_this_planner_ahead, ra G 5 (rl5 h_this_planner_ahead_0 h_this_planner_ahead_1 h_this_planner_ahead_2 h_this_planner_ahead_3 h_this_planner_ahead_4)), (h_this_planner_ahead_0, ob 6 [.ref h_this_planner_ahead_0_off, .int m_this_planner_ahead_0_watch, .int m_this_planner_ahead_0_score, .int m_this_planner_ahead_0_home]), (h_this_planner_ahead_0_off, ia G 6 m_this_planner_ahead_0_off), (h_this_planner_ahead_1, ob 6 [.ref h_this_planner_ahead_1_off, .int m_this_planner_ahead_1_watch, .int m_this_planner_ahead_1_score, .int m_this_planner_ahead_1_home]), (h_this_planner_ahead_1_off, ia G 6 m_this_planner_ahead_1_off), (h_this_planner_ahead_2, ob 6 [.ref h_this_planner_ahead_2_off, .int m_this_planner_ahead_2_watch, .int m_this_planner_ahead_2_score, .int m_this_planner_ahead_2_home]), (h_this_planner_ahead_2_off, ia G 6 m_this_planner_ahead_2_off), (h_this_planner_ahead_3, ob 6 [.ref h_this_planner_ahead_3_off, .int m_this_planner_ahead_3_watch, .int m_this_planner_ahead_3_score, .int m_this_planner_ahead_3_home]), (h_this_planner_ahead_3_off, ia G 6 m_this_planner_ahead_3_off), (h_this_planner_ahead_4, ob 6 [.ref h_this_planner_ahead_4_off, .int m_this_planner_ahead_4_watch, .int m_this_planner_ahead_4_score, .int m_this_planner_ahead_4_home]), (h_this_planner_ahead_4_off, ia G 6 m_this_planner_ahead_4_off), (h_this_planner_first, ia G 4 m_this_planner_first), (h_this_rock, ob 3 [.ref h_this_rock_kinds, .ref h_this_rock_trims, .ref h_this_rock_lanes, .ref h_this_rock_lights, .ref h_this_rock_currents, .ref h_this_rock_buoys, .ref h_this_rock_now, .ref h_this_rock_rules, .ref h_this_rock_reports, .int x_this_rock_count, .int x_this_rock_end, .int x_this_rock_z]), (h_this_rock_buoys, ia G 6 f_this_rock_buoys), (h_this_rock_currents, ia G 6 f_this_rock_currents), (h_this_rock_kinds, ia G 6 f_this_rock_kinds), (h_this_rock_lanes, ia G 6 f_this_rock_lanes), (h_this_rock_lights, ia G 16 f_this_rock_lights), (h_this_rock_now, ob 6 [.ref h_this_rock_now_off, .int x_this_rock_now_watch, .int x_this_rock_now_score, .int x_this_rock_now_home]), (h_this_rock_now_off, ia G 6 f_this_rock_now_off), (h_this_rock_rules, ob 5 [.ref h_this_rock_rules_kinds, .ref h_this_rock_rules_deeds, .ref h_this_rock_rules_begins, .ref h_this_rock_rules_steps, .ref h_this_rock_rules_lefts, .ref h_this_rock_rules_rights, .ref h_this_rock_rules_facts, .int x_this_rock_rules_count, .int x_this_rock_rules_size]), (h_this_rock_rules_begins, ia G 9 f_this_rock_rules_begins), (h_this_rock_rules_deeds, ia G 8 f_this_rock_rules_deeds), (h_this_rock_rules_facts, ia G 5 m_this_rock_rules_facts), (h_this_rock_rules_kinds, ia G 8 f_this_rock_rules_kinds), (h_this_rock_rules_lefts, ia G 200 f_this_rock_rules_lefts), (h_this_rock_rules_rights, ia G 200 f_this_rock_rules_rights), (h_this_rock_rules_steps, ia G 200 f_this_rock_rules_steps), (h_this_rock_trims, ia G 6 f_this_rock_trims), (h_this_rows, ia G 12 m_this_rows), (h_this_trial, ob 6 [.ref h_this_trial_off, .int m_this_trial_watch, .int m_this_trial_score, .int m_this_trial_home]), (h_this_trial_off, ia G 6 m_this_trial_off)] := by
  refine mFi.of (by decide +kernel) (Nat.le_of_ble_eq_true rfl) ?_
  intro p e s m below meth c A C hr hlk h ls hl
  obtain ⟨hx, hb, hml, hown, hts⟩ := id C
  replace hl : lv_has ls 3 [(0, .ref h_this), (1, .int p0)] := hl
  unfold f_X8_prove at hf
  refine with_K G A 3 (fun K hK1 hK2 => ?_)
  have L51 : ∀ (n : Nat) (v2 : Int32) (y_this_rowCount : Int32) (y_this_planner_length : Int32) (y_this_planner_wanted : Int32) (y_this_planner_best : Int32) (y_this_planner_ways : Int32) (y_this_planner_fewest : Int32) (y_this_planner_everHome : Int32) (g_this_planner_acts : Nat → Int32) (y_this_planner_ahead_0_watch : Int32) (y_this_planner_ahead_0_score : Int32) (y_this_planner_ahead_0_home : Int32) (g_this_planner_ahead_0_off : Nat → Int32) (y_this_planner_ahead_1_watch : Int32) (y_this_planner_ahead_1_score : Int32) (y_this_planner_ahead_1_home : Int32) (g_this_planner_ahead_1_off : Nat → Int32) (y_this_planner_ahead_2_watch : Int32) (y_this_planner_ahead_2_score : Int32) (y_this_planner_ahead_2_home : Int32) (g_this_planner_ahead_2_off : Nat → Int32) (y_this_planner_ahead_3_watch : Int32) (y_this_planner_ahead_3_score : Int32) (y_this_planner_ahead_3_home : Int32) (g_this_planner_ahead_3_off : Nat → Int32) (y_this_planner_ahead_4_watch : Int32) (y_this_planner_ahead_4_score : Int32) (y_this_planner_ahead_4_home : Int32) (g_this_planner_ahead_4_off : Nat → Int32) (g_this_planner_first : Nat → Int32) (g_this_rock_rules_facts : Nat → Int32) (g_this_rows : Nat → Int32) (y_this_trial_watch : Int32) (y_this_trial_score : Int32) (y_this_trial_home : Int32) (g_this_trial_off : Nat → Int32), f_X8_prove_L51 x_this_rock_count f_this_rock_buoys f_this_rock_currents f_this_rock_kinds f_this_rock_lanes f_this_rock_lights x_this_rock_rules_count f_this_rock_rules_begins f_this_rock_rules_deeds f_this_rock_rules_kinds f_this_rock_rules_lefts f_this_rock_rules_rights f_this_rock_rules_steps f_this_rock_trims n v2 y_this_rowCount y_this_planner_length y_this_planner_wanted y_this_planner_best y_this_planner_ways y_this_planner_fewest y_this_planner_everHome g_this_planner_acts y_this_planner_ahead_0_watch y_this_planner_ahead_0_score y_this_planner_ahead_0_home g_this_planner_ahead_0_off y_this_planner_ahead_1_watch y_this_planner_ahead_1_score y_this_planner_ahead_1_home g_this_planner_ahead_1_off y_this_planner_ahead_2_watch y_this_planner_ahead_2_score y_this_planner_ahead_2_home g_this_planner_ahead_2_off y_this_planner_ahead_3_watch y_this_planner_ahead_3_score y_this_planner_ahead_3_home g_this_planner_ahead_3_off y_this_planner_ahead_4_watch y_this_planner_ahead_4_score y_this_planner_ahead_4_home g_this_planner_ahead_4_off g_this_planner_first g_this_rock_rules_facts g_this_rows y_this_trial_watch y_this_trial_score y_this_trial_home g_this_trial_off = some (r, m_this_rowCount, m_this_planner_length, m_this_planner_wanted, m_this_planner_best, m_this_planner_ways, m_this_planner_fewest, m_this_planner_everHome, m_this_planner_acts, m_this_planner_ahead_0_watch, m_this_planner_ahead_0_score, m_this_planner_ahead_0_home, m_this_planner_ahead_0_off, m_this_planner_ahead_1_watch, m_this_planner_ahead_1_score, m_this_planner_ahead_1_home, m_this_planner_ahead_1_off, m_this_planner_ahead_2_watch, m_this_planner_ahead_2_score, m_this_planner_ahead_2_home, m_this_planner_ahead_2_off, m_this_planner_ahead_3_watch, m_this_planner_ahead_3_score, m_this_planner_ahead_3_home, m_this_planner_ahead_3_off, m_this_planner_ahead_4_watch, m_this_planner_ahead_4_score, m_this_planner_ahead_4_home, m_this_planner_ahead_4_off, m_this_planner_first, m_this_rock_rules_facts, m_this_rows, m_this_trial_watch, m_this_trial_score, m_this_trial_home, m_this_trial_off) → K 51 ([] : List Value) [(h_this, ob 8 [.ref h_this_rock, .ref h_this_kept, .ref h_this_trial, .ref h_this_planner, .ref h_this_reader, .ref h_this_draft, .ref h_this_host, .ref h_this_thing, .ref h_this_tape, .ref h_this_rows, .int x_this_tapeCount, .int y_this_rowCount, .int x_this_isKept]), (h_this_planner, ob 1 [.ref h_this_planner_ahead, .ref h_this_planner_acts, .ref h_this_planner_first, .int y_this_planner_length, .int y_this_planner_wanted, .int y_this_planner_best, .int y_this_planner_ways, .int y_this_planner_fewest, .int y_this_planner_everHome]), (h_this_planner_acts, ia G 4 g_this_planner_acts), (h_this_planner_ahead, ra G 5 (rl5 h_this_planner_ahead_0 h_this_planner_ahead_1 h_this_planner_ahead_2 h_this_planner_ahead_3 h_this_planner_ahead_4)), (h_this_planner_ahead_0, ob 6 [.ref h_this_planner_ahead_0_off, .int y_this_planner_ahead_0_watch, .int y_this_planner_ahead_0_score, .int y_this_planner_ahead_0_home]), (h_this_planner_ahead_0_off, ia G 6 g_this_planner_ahead_0_off), (h_this_planner_ahead_1, ob 6 [.ref h_this_planner_ahead_1_off, .int y_this_planner_ahead_1_watch, .int y_this_planner_ahead_1_score, .int y_this_planner_ahead_1_home]), (h_this_planner_ahead_1_off, ia G 6 g_this_planner_ahead_1_off), (h_this_planner_ahead_2, ob 6 [.ref h_this_planner_ahead_2_off, .int y_this_planner_ahead_2_watch, .int y_this_planner_ahead_2_score, .int y_this_planner_ahead_2_home]), (h_this_planner_ahead_2_off, ia G 6 g_this_planner_ahead_2_off), (h_this_planner_ahead_3, ob 6 [.ref h_this_planner_ahead_3_off, .int y_this_planner_ahead_3_watch, .int y_this_planner_ahead_3_score, .int y_this_planner_ahead_3_home]), (h_this_planner_ahead_3_off, ia G 6 g_this_planner_ahead_3_off), (h_this_planner_ahead_4, ob 6 [.ref h_this_planner_ahead_4_off, .int y_this_planner_ahead_4_watch, .int y_this_planner_ahead_4_score, .int y_this_planner_ahead_4_home]), (h_this_planner_ahead_4_off, ia G 6 g_this_planner_ahead_4_off), (h_this_planner_first, ia G 4 g_this_planner_first), (h_this_rock, ob 3 [.ref h_this_rock_kinds, .ref h_this_rock_trims, .ref h_this_rock_lanes, .ref h_this_rock_lights, .ref h_this_rock_currents, .ref h_this_rock_buoys, .ref h_this_rock_now, .ref h_this_rock_rules, .ref h_this_rock_reports, .int x_this_rock_count, .int x_this_rock_end, .int x_this_rock_z]), (h_this_rock_buoys, ia G 6 f_this_rock_buoys), (h_this_rock_currents, ia G 6 f_this_rock_currents), (h_this_rock_kinds, ia G 6 f_this_rock_kinds), (h_this_rock_lanes, ia G 6 f_this_rock_lanes), (h_this_rock_lights, ia G 16 f_this_rock_lights), (h_this_rock_now, ob 6 [.ref h_this_rock_now_off, .int x_this_rock_now_watch, .int x_this_rock_now_score, .int x_this_rock_now_home]), (h_this_rock_now_off, ia G 6 f_this_rock_now_off), (h_this_rock_rules, ob 5 [.ref h_this_rock_rules_kinds, .ref h_this_rock_rules_deeds, .ref h_this_rock_rules_begins, .ref h_this_rock_rules_steps, .ref h_this_rock_rules_lefts, .ref h_this_rock_rules_rights, .ref h_this_rock_rules_facts, .int x_this_rock_rules_count, .int x_this_rock_rules_size]), (h_this_rock_rules_begins, ia G 9 f_this_rock_rules_begins), (h_this_rock_rules_deeds, ia G 8 f_this_rock_rules_deeds), (h_this_rock_rules_facts, ia G 5 g_this_rock_rules_facts), (h_this_rock_rules_kinds, ia G 8 f_this_rock_rules_kinds), (h_this_rock_rules_lefts, ia G 200 f_this_rock_rules_lefts), (h_this_rock_rules_rights, ia G 200 f_this_rock_rules_rights), (h_this_rock_rules_steps, ia G 200 f_this_rock_rules_steps), (h_this_rock_trims, ia G 6 f_this_rock_trims), (h_this_rows, ia G 12 g_this_rows), (h_this_trial, ob 6 [.ref h_this_trial_off, .int y_this_trial_watch, .int y_this_trial_score, .int y_this_trial_home]), (h_this_trial_off, ia G 6 g_this_trial_off)] [(0, .ref h_this), (2, .int v2)] := by
    intro n
    induction n with
    | zero =>
      intro v2 y_this_rowCount y_this_planner_length y_this_planner_wanted y_this_planner_best y_this_planner_ways y_this_planner_fewest y_this_planner_everHome g_this_planner_acts y_this_planner_ahead_0_watch y_this_planner_ahead_0_score y_this_planner_ahead_0_home g_this_planner_ahead_0_off y_this_planner_ahead_1_watch y_this_planner_ahead_1_score y_this_planner_ahead_1_home g_this_planner_ahead_1_off y_this_planner_ahead_2_watch y_this_planner_ahead_2_score y_this_planner_ahead_2_home g_this_planner_ahead_2_off y_this_planner_ahead_3_watch y_this_planner_ahead_3_score y_this_planner_ahead_3_home g_this_planner_ahead_3_off y_this_planner_ahead_4_watch y_this_planner_ahead_4_score y_this_planner_ahead_4_home g_this_planner_ahead_4_off g_this_planner_first g_this_rock_rules_facts g_this_rows y_this_trial_watch y_this_trial_score y_this_trial_home g_this_trial_off hf
      replace hf : (none : Option _) = some _ := hf
      cases hf
    | succ n ih =>
      intro v2 y_this_rowCount y_this_planner_length y_this_planner_wanted y_this_planner_best y_this_planner_ways y_this_planner_fewest y_this_planner_everHome g_this_planner_acts y_this_planner_ahead_0_watch y_this_planner_ahead_0_score y_this_planner_ahead_0_home g_this_planner_ahead_0_off y_this_planner_ahead_1_watch y_this_planner_ahead_1_score y_this_planner_ahead_1_home g_this_planner_ahead_1_off y_this_planner_ahead_2_watch y_this_planner_ahead_2_score y_this_planner_ahead_2_home g_this_planner_ahead_2_off y_this_planner_ahead_3_watch y_this_planner_ahead_3_score y_this_planner_ahead_3_home g_this_planner_ahead_3_off y_this_planner_ahead_4_watch y_this_planner_ahead_4_score y_this_planner_ahead_4_home g_this_planner_ahead_4_off g_this_planner_first g_this_rock_rules_facts g_this_rows y_this_trial_watch y_this_trial_score y_this_trial_home g_this_trial_off hf
      rw [f_X8_prove_L51] at hf
      refine hK1 _ _ _ _ (fun H locs ls h hl => ?_)
      refine lv_iload_n hx hb dX8_prove_51 rfl (lv_at hl 1 rfl) ?_
      refine lv_aload_n hx hb dX8_prove_52 rfl (lv_at hl 0 rfl) ?_
      refine r_get C h fk_X8_72 0 rfl rfl dX8_prove_53 ?_
      refine lv_icmp_ge (tgt := 129) hx hb dX8_prove_56 rfl (fun c39 => ?_) (fun c39 => ?_)
      · replace hf := ifp c39 hf
        refine lv_aload_n hx hb dX8_prove_129 rfl (lv_at hl 0 rfl) ?_
        refine r_get C h fk_X8_72 0 rfl rfl dX8_prove_130 ?_
        cases hf
        exact r_iret C h hr hlk rfl dX8_prove_133
      · replace hf := ifn c39 hf
        refine lv_aload_n hx hb dX8_prove_59 rfl (lv_at hl 0 rfl) ?_
        refine r_get C h fk_X8_65 0 rfl rfl dX8_prove_60 ?_
        refine lv_iconst (v := (3 : Int32)) hx hb dX8_prove_63 rfl ?_
        refine lv_iload_n hx hb dX8_prove_64 rfl (lv_at hl 1 rfl) ?_
        refine lv_imul hx hb dX8_prove_65 ?_
        refine lv_aload_n hx hb dX8_prove_66 rfl (lv_at hl 0 rfl) ?_
        refine r_get C h fk_X8_29 0 rfl rfl dX8_prove_67 ?_
        refine r_get C h fk_X8_219 1 rfl rfl dX8_prove_70 ?_
        refine lv_iload_n hx hb dX8_prove_73 rfl (lv_at hl 1 rfl) ?_
        replace hf := chkI_inv hf
        obtain ⟨hi40, hf⟩ := hf
        refine r_iald C h 14 rfl hi40 dX8_prove_74 ?_
        refine lv_topi (fun t41 et41 => ?_)
        replace hf := lt1_inv et41 hf
        replace hf := chkI_inv hf
        obtain ⟨hi42, hf⟩ := hf
        refine r_iast (ws' := [(h_this, ob 8 [.ref h_this_rock, .ref h_this_kept, .ref h_this_trial, .ref h_this_planner, .ref h_this_reader, .ref h_this_draft, .ref h_this_host, .ref h_this_thing, .ref h_this_tape, .ref h_this_rows, .int x_this_tapeCount, .int y_this_rowCount, .int x_this_isKept]), (h_this_planner, ob 1 [.ref h_this_planner_ahead, .ref h_this_planner_acts, .ref h_this_planner_first, .int y_this_planner_length, .int y_this_planner_wanted, .int y_this_planner_best, .int y_this_planner_ways, .int y_this_planner_fewest, .int y_this_planner_everHome]), (h_this_planner_acts, ia G 4 g_this_planner_acts), (h_this_planner_ahead, ra G 5 (rl5 h_this_planner_ahead_0 h_this_planner_ahead_1 h_this_planner_ahead_2 h_this_planner_ahead_3 h_this_planner_ahead_4)), (h_this_planner_ahead_0, ob 6 [.ref h_this_planner_ahead_0_off, .int y_this_planner_ahead_0_watch, .int y_this_planner_ahead_0_score, .int y_this_planner_ahead_0_home]), (h_this_planner_ahead_0_off, ia G 6 g_this_planner_ahead_0_off), (h_this_planner_ahead_1, ob 6 [.ref h_this_planner_ahead_1_off, .int y_this_planner_ahead_1_watch, .int y_this_planner_ahead_1_score, .int y_this_planner_ahead_1_home]), (h_this_planner_ahead_1_off, ia G 6 g_this_planner_ahead_1_off), (h_this_planner_ahead_2, ob 6 [.ref h_this_planner_ahead_2_off, .int y_this_planner_ahead_2_watch, .int y_this_planner_ahead_2_score, .int y_this_planner_ahead_2_home]), (h_this_planner_ahead_2_off, ia G 6 g_this_planner_ahead_2_off), (h_this_planner_ahead_3, ob 6 [.ref h_this_planner_ahead_3_off, .int y_this_planner_ahead_3_watch, .int y_this_planner_ahead_3_score, .int y_this_planner_ahead_3_home]), (h_this_planner_ahead_3_off, ia G 6 g_this_planner_ahead_3_off), (h_this_planner_ahead_4, ob 6 [.ref h_this_planner_ahead_4_off, .int y_this_planner_ahead_4_watch, .int y_this_planner_ahead_4_score, .int y_this_planner_ahead_4_home]), (h_this_planner_ahead_4_off, ia G 6 g_this_planner_ahead_4_off), (h_this_planner_first, ia G 4 g_this_planner_first), (h_this_rock, ob 3 [.ref h_this_rock_kinds, .ref h_this_rock_trims, .ref h_this_rock_lanes, .ref h_this_rock_lights, .ref h_this_rock_currents, .ref h_this_rock_buoys, .ref h_this_rock_now, .ref h_this_rock_rules, .ref h_this_rock_reports, .int x_this_rock_count, .int x_this_rock_end, .int x_this_rock_z]), (h_this_rock_buoys, ia G 6 f_this_rock_buoys), (h_this_rock_currents, ia G 6 f_this_rock_currents), (h_this_rock_kinds, ia G 6 f_this_rock_kinds), (h_this_rock_lanes, ia G 6 f_this_rock_lanes), (h_this_rock_lights, ia G 16 f_this_rock_lights), (h_this_rock_now, ob 6 [.ref h_this_rock_now_off, .int x_this_rock_now_watch, .int x_this_rock_now_score, .int x_this_rock_now_home]), (h_this_rock_now_off, ia G 6 f_this_rock_now_off), (h_this_rock_rules, ob 5 [.ref h_this_rock_rules_kinds, .ref h_this_rock_rules_deeds, .ref h_this_rock_rules_begins, .ref h_this_rock_rules_steps, .ref h_this_rock_rules_lefts, .ref h_this_rock_rules_rights, .ref h_this_rock_rules_facts, .int x_this_rock_rules_count, .int x_this_rock_rules_size]), (h_this_rock_rules_begins, ia G 9 f_this_rock_rules_begins), (h_this_rock_rules_deeds, ia G 8 f_this_rock_rules_deeds), (h_this_rock_rules_facts, ia G 5 g_this_rock_rules_facts), (h_this_rock_rules_kinds, ia G 8 f_this_rock_rules_kinds), (h_this_rock_rules_lefts, ia G 200 f_this_rock_rules_lefts), (h_this_rock_rules_rights, ia G 200 f_this_rock_rules_rights), (h_this_rock_rules_steps, ia G 200 f_this_rock_rules_steps), (h_this_rock_trims, ia G 6 f_this_rock_trims), (h_this_rows, ia G 12 (upd g_this_rows ((3 : Int32) * v2).toNatClampNeg t41)), (h_this_trial, ob 6 [.ref h_this_trial_off, .int y_this_trial_watch, .int y_this_trial_score, .int y_this_trial_home]), (h_this_trial_off, ia G 6 g_this_trial_off)]) C h 32 rfl hi42 dX8_prove_75 rfl (fun H locs h => ?_)
        refine lv_aload_n hx hb dX8_prove_76 rfl (lv_at hl 0 rfl) ?_
        refine r_get C h fk_X8_65 0 rfl rfl dX8_prove_77 ?_
        refine lv_iconst (v := (3 : Int32)) hx hb dX8_prove_80 rfl ?_
        refine lv_iload_n hx hb dX8_prove_81 rfl (lv_at hl 1 rfl) ?_
        refine lv_imul hx hb dX8_prove_82 ?_
        refine lv_iconst (v := (1 : Int32)) hx hb dX8_prove_83 rfl ?_
        refine lv_iadd hx hb dX8_prove_84 ?_
        refine lv_aload_n hx hb dX8_prove_85 rfl (lv_at hl 0 rfl) ?_
        refine r_get C h fk_X8_10 0 rfl rfl dX8_prove_86 ?_
        refine lv_aload_n hx hb dX8_prove_89 rfl (lv_at hl 0 rfl) ?_
        refine r_get C h fk_X8_22 0 rfl rfl dX8_prove_90 ?_
        refine lv_aload_n hx hb dX8_prove_93 rfl (lv_at hl 0 rfl) ?_
        refine r_get C h fk_X8_29 0 rfl rfl dX8_prove_94 ?_
        refine r_get C h fk_X8_219 1 rfl rfl dX8_prove_97 ?_
        refine lv_iload_n hx hb dX8_prove_100 rfl (lv_at hl 1 rfl) ?_
        replace hf := chkI_inv hf
        obtain ⟨hi43, hf⟩ := hf
        refine r_iald C h 14 rfl hi43 dX8_prove_101 ?_
        replace hf := bd6_inv hf
        obtain ⟨r44, y45, y46, y47, g48, g49, hc50, hf⟩ := hf
        refine r_ciV (ws' := [(h_this, ob 8 [.ref h_this_rock, .ref h_this_kept, .ref h_this_trial, .ref h_this_planner, .ref h_this_reader, .ref h_this_draft, .ref h_this_host, .ref h_this_thing, .ref h_this_tape, .ref h_this_rows, .int x_this_tapeCount, .int y_this_rowCount, .int x_this_isKept]), (h_this_planner, ob 1 [.ref h_this_planner_ahead, .ref h_this_planner_acts, .ref h_this_planner_first, .int y_this_planner_length, .int y_this_planner_wanted, .int y_this_planner_best, .int y_this_planner_ways, .int y_this_planner_fewest, .int y_this_planner_everHome]), (h_this_planner_acts, ia G 4 g_this_planner_acts), (h_this_planner_ahead, ra G 5 (rl5 h_this_planner_ahead_0 h_this_planner_ahead_1 h_this_planner_ahead_2 h_this_planner_ahead_3 h_this_planner_ahead_4)), (h_this_planner_ahead_0, ob 6 [.ref h_this_planner_ahead_0_off, .int y_this_planner_ahead_0_watch, .int y_this_planner_ahead_0_score, .int y_this_planner_ahead_0_home]), (h_this_planner_ahead_0_off, ia G 6 g_this_planner_ahead_0_off), (h_this_planner_ahead_1, ob 6 [.ref h_this_planner_ahead_1_off, .int y_this_planner_ahead_1_watch, .int y_this_planner_ahead_1_score, .int y_this_planner_ahead_1_home]), (h_this_planner_ahead_1_off, ia G 6 g_this_planner_ahead_1_off), (h_this_planner_ahead_2, ob 6 [.ref h_this_planner_ahead_2_off, .int y_this_planner_ahead_2_watch, .int y_this_planner_ahead_2_score, .int y_this_planner_ahead_2_home]), (h_this_planner_ahead_2_off, ia G 6 g_this_planner_ahead_2_off), (h_this_planner_ahead_3, ob 6 [.ref h_this_planner_ahead_3_off, .int y_this_planner_ahead_3_watch, .int y_this_planner_ahead_3_score, .int y_this_planner_ahead_3_home]), (h_this_planner_ahead_3_off, ia G 6 g_this_planner_ahead_3_off), (h_this_planner_ahead_4, ob 6 [.ref h_this_planner_ahead_4_off, .int y_this_planner_ahead_4_watch, .int y_this_planner_ahead_4_score, .int y_this_planner_ahead_4_home]), (h_this_planner_ahead_4_off, ia G 6 g_this_planner_ahead_4_off), (h_this_planner_first, ia G 4 g_this_planner_first), (h_this_rock, ob 3 [.ref h_this_rock_kinds, .ref h_this_rock_trims, .ref h_this_rock_lanes, .ref h_this_rock_lights, .ref h_this_rock_currents, .ref h_this_rock_buoys, .ref h_this_rock_now, .ref h_this_rock_rules, .ref h_this_rock_reports, .int x_this_rock_count, .int x_this_rock_end, .int x_this_rock_z]), (h_this_rock_buoys, ia G 6 f_this_rock_buoys), (h_this_rock_currents, ia G 6 f_this_rock_currents), (h_this_rock_kinds, ia G 6 f_this_rock_kinds), (h_this_rock_lanes, ia G 6 f_this_rock_lanes), (h_this_rock_lights, ia G 16 f_this_rock_lights), (h_this_rock_now, ob 6 [.ref h_this_rock_now_off, .int x_this_rock_now_watch, .int x_this_rock_now_score, .int x_this_rock_now_home]), (h_this_rock_now_off, ia G 6 f_this_rock_now_off), (h_this_rock_rules, ob 5 [.ref h_this_rock_rules_kinds, .ref h_this_rock_rules_deeds, .ref h_this_rock_rules_begins, .ref h_this_rock_rules_steps, .ref h_this_rock_rules_lefts, .ref h_this_rock_rules_rights, .ref h_this_rock_rules_facts, .int x_this_rock_rules_count, .int x_this_rock_rules_size]), (h_this_rock_rules_begins, ia G 9 f_this_rock_rules_begins), (h_this_rock_rules_deeds, ia G 8 f_this_rock_rules_deeds), (h_this_rock_rules_facts, ia G 5 g49), (h_this_rock_rules_kinds, ia G 8 f_this_rock_rules_kinds), (h_this_rock_rules_lefts, ia G 200 f_this_rock_rules_lefts), (h_this_rock_rules_rights, ia G 200 f_this_rock_rules_rights), (h_this_rock_rules_steps, ia G 200 f_this_rock_rules_steps), (h_this_rock_trims, ia G 6 f_this_rock_trims), (h_this_rows, ia G 12 (upd g_this_rows ((3 : Int32) * v2).toNatClampNeg t41)), (h_this_trial, ob 6 [.ref h_this_trial_off, .int y45, .int y46, .int y47]), (h_this_trial_off, ia G 6 g48)]) C h (c_X3_pass hc50) mv_X8_287 rfl 15 rfl [33, 34, 15, 16, 17, 18, 19, 20, 23, 24, 25, 26, 27, 28, 29, 30, 31] rfl rfl rfl rfl rfl hl.1 rfl (Nat.le_of_ble_eq_true rfl) (rok (by decide)) dX8_prove_102 (fun H locs h => ?_)
        replace hf := chkI_inv hf
        obtain ⟨hi51, hf⟩ := hf
        refine r_iast (ws' := [(h_this, ob 8 [.ref h_this_rock, .ref h_this_kept, .ref h_this_trial, .ref h_this_planner, .ref h_this_reader, .ref h_this_draft, .ref h_this_host, .ref h_this_thing, .ref h_this_tape, .ref h_this_rows, .int x_this_tapeCount, .int y_this_rowCount, .int x_this_isKept]), (h_this_planner, ob 1 [.ref h_this_planner_ahead, .ref h_this_planner_acts, .ref h_this_planner_first, .int y_this_planner_length, .int y_this_planner_wanted, .int y_this_planner_best, .int y_this_planner_ways, .int y_this_planner_fewest, .int y_this_planner_everHome]), (h_this_planner_acts, ia G 4 g_this_planner_acts), (h_this_planner_ahead, ra G 5 (rl5 h_this_planner_ahead_0 h_this_planner_ahead_1 h_this_planner_ahead_2 h_this_planner_ahead_3 h_this_planner_ahead_4)), (h_this_planner_ahead_0, ob 6 [.ref h_this_planner_ahead_0_off, .int y_this_planner_ahead_0_watch, .int y_this_planner_ahead_0_score, .int y_this_planner_ahead_0_home]), (h_this_planner_ahead_0_off, ia G 6 g_this_planner_ahead_0_off), (h_this_planner_ahead_1, ob 6 [.ref h_this_planner_ahead_1_off, .int y_this_planner_ahead_1_watch, .int y_this_planner_ahead_1_score, .int y_this_planner_ahead_1_home]), (h_this_planner_ahead_1_off, ia G 6 g_this_planner_ahead_1_off), (h_this_planner_ahead_2, ob 6 [.ref h_this_planner_ahead_2_off, .int y_this_planner_ahead_2_watch, .int y_this_planner_ahead_2_score, .int y_this_planner_ahead_2_home]), (h_this_planner_ahead_2_off, ia G 6 g_this_planner_ahead_2_off), (h_this_planner_ahead_3, ob 6 [.ref h_this_planner_ahead_3_off, .int y_this_planner_ahead_3_watch, .int y_this_planner_ahead_3_score, .int y_this_planner_ahead_3_home]), (h_this_planner_ahead_3_off, ia G 6 g_this_planner_ahead_3_off), (h_this_planner_ahead_4, ob 6 [.ref h_this_planner_ahead_4_off, .int y_this_planner_ahead_4_watch, .int y_this_planner_ahead_4_score, .int y_this_planner_ahead_4_home]), (h_this_planner_ahead_4_off, ia G 6 g_this_planner_ahead_4_off), (h_this_planner_first, ia G 4 g_this_planner_first), (h_this_rock, ob 3 [.ref h_this_rock_kinds, .ref h_this_rock_trims, .ref h_this_rock_lanes, .ref h_this_rock_lights, .ref h_this_rock_currents, .ref h_this_rock_buoys, .ref h_this_rock_now, .ref h_this_rock_rules, .ref h_this_rock_reports, .int x_this_rock_count, .int x_this_rock_end, .int x_this_rock_z]), (h_this_rock_buoys, ia G 6 f_this_rock_buoys), (h_this_rock_currents, ia G 6 f_this_rock_currents), (h_this_rock_kinds, ia G 6 f_this_rock_kinds), (h_this_rock_lanes, ia G 6 f_this_rock_lanes), (h_this_rock_lights, ia G 16 f_this_rock_lights), (h_this_rock_now, ob 6 [.ref h_this_rock_now_off, .int x_this_rock_now_watch, .int x_this_rock_now_score, .int x_this_rock_now_home]), (h_this_rock_now_off, ia G 6 f_this_rock_now_off), (h_this_rock_rules, ob 5 [.ref h_this_rock_rules_kinds, .ref h_this_rock_rules_deeds, .ref h_this_rock_rules_begins, .ref h_this_rock_rules_steps, .ref h_this_rock_rules_lefts, .ref h_this_rock_rules_rights, .ref h_this_rock_rules_facts, .int x_this_rock_rules_count, .int x_this_rock_rules_size]), (h_this_rock_rules_begins, ia G 9 f_this_rock_rules_begins), (h_this_rock_rules_deeds, ia G 8 f_this_rock_rules_deeds), (h_this_rock_rules_facts, ia G 5 g49), (h_this_rock_rules_kinds, ia G 8 f_this_rock_rules_kinds), (h_this_rock_rules_lefts, ia G 200 f_this_rock_rules_lefts), (h_this_rock_rules_rights, ia G 200 f_this_rock_rules_rights), (h_this_rock_rules_steps, ia G 200 f_this_rock_rules_steps), (h_this_rock_trims, ia G 6 f_this_rock_trims), (h_this_rows, ia G 12 (upd (upd g_this_rows ((3 : Int32) * v2).toNatClampNeg t41) (((3 : Int32) * v2) + (1 : Int32)).toNatClampNeg r44)), (h_this_trial, ob 6 [.ref h_this_trial_off, .int y45, .int y46, .int y47]), (h_this_trial_off, ia G 6 g48)]) C h 32 rfl hi51 dX8_prove_105 rfl (fun H locs h => ?_)
        refine lv_aload_n hx hb dX8_prove_106 rfl (lv_at hl 0 rfl) ?_
        refine r_get C h fk_X8_65 0 rfl rfl dX8_prove_107 ?_
        refine lv_iconst (v := (3 : Int32)) hx hb dX8_prove_110 rfl ?_
        refine lv_iload_n hx hb dX8_prove_111 rfl (lv_at hl 1 rfl) ?_
        refine lv_imul hx hb dX8_prove_112 ?_
        refine lv_iconst (v := (2 : Int32)) hx hb dX8_prove_113 rfl ?_
        refine lv_iadd hx hb dX8_prove_114 ?_
        refine lv_aload_n hx hb dX8_prove_115 rfl (lv_at hl 0 rfl) ?_
        refine r_get C h fk_X8_22 0 rfl rfl dX8_prove_116 ?_
        refine r_get C h fk_X8_156 33 rfl rfl dX8_prove_119 ?_
        replace hf := chkI_inv hf
        obtain ⟨hi52, hf⟩ := hf
        refine r_iast (ws' := [(h_this, ob 8 [.ref h_this_rock, .ref h_this_kept, .ref h_this_trial, .ref h_this_planner, .ref h_this_reader, .ref h_this_draft, .ref h_this_host, .ref h_this_thing, .ref h_this_tape, .ref h_this_rows, .int x_this_tapeCount, .int y_this_rowCount, .int x_this_isKept]), (h_this_planner, ob 1 [.ref h_this_planner_ahead, .ref h_this_planner_acts, .ref h_this_planner_first, .int y_this_planner_length, .int y_this_planner_wanted, .int y_this_planner_best, .int y_this_planner_ways, .int y_this_planner_fewest, .int y_this_planner_everHome]), (h_this_planner_acts, ia G 4 g_this_planner_acts), (h_this_planner_ahead, ra G 5 (rl5 h_this_planner_ahead_0 h_this_planner_ahead_1 h_this_planner_ahead_2 h_this_planner_ahead_3 h_this_planner_ahead_4)), (h_this_planner_ahead_0, ob 6 [.ref h_this_planner_ahead_0_off, .int y_this_planner_ahead_0_watch, .int y_this_planner_ahead_0_score, .int y_this_planner_ahead_0_home]), (h_this_planner_ahead_0_off, ia G 6 g_this_planner_ahead_0_off), (h_this_planner_ahead_1, ob 6 [.ref h_this_planner_ahead_1_off, .int y_this_planner_ahead_1_watch, .int y_this_planner_ahead_1_score, .int y_this_planner_ahead_1_home]), (h_this_planner_ahead_1_off, ia G 6 g_this_planner_ahead_1_off), (h_this_planner_ahead_2, ob 6 [.ref h_this_planner_ahead_2_off, .int y_this_planner_ahead_2_watch, .int y_this_planner_ahead_2_score, .int y_this_planner_ahead_2_home]), (h_this_planner_ahead_2_off, ia G 6 g_this_planner_ahead_2_off), (h_this_planner_ahead_3, ob 6 [.ref h_this_planner_ahead_3_off, .int y_this_planner_ahead_3_watch, .int y_this_planner_ahead_3_score, .int y_this_planner_ahead_3_home]), (h_this_planner_ahead_3_off, ia G 6 g_this_planner_ahead_3_off), (h_this_planner_ahead_4, ob 6 [.ref h_this_planner_ahead_4_off, .int y_this_planner_ahead_4_watch, .int y_this_planner_ahead_4_score, .int y_this_planner_ahead_4_home]), (h_this_planner_ahead_4_off, ia G 6 g_this_planner_ahead_4_off), (h_this_planner_first, ia G 4 g_this_planner_first), (h_this_rock, ob 3 [.ref h_this_rock_kinds, .ref h_this_rock_trims, .ref h_this_rock_lanes, .ref h_this_rock_lights, .ref h_this_rock_currents, .ref h_this_rock_buoys, .ref h_this_rock_now, .ref h_this_rock_rules, .ref h_this_rock_reports, .int x_this_rock_count, .int x_this_rock_end, .int x_this_rock_z]), (h_this_rock_buoys, ia G 6 f_this_rock_buoys), (h_this_rock_currents, ia G 6 f_this_rock_currents), (h_this_rock_kinds, ia G 6 f_this_rock_kinds), (h_this_rock_lanes, ia G 6 f_this_rock_lanes), (h_this_rock_lights, ia G 16 f_this_rock_lights), (h_this_rock_now, ob 6 [.ref h_this_rock_now_off, .int x_this_rock_now_watch, .int x_this_rock_now_score, .int x_this_rock_now_home]), (h_this_rock_now_off, ia G 6 f_this_rock_now_off), (h_this_rock_rules, ob 5 [.ref h_this_rock_rules_kinds, .ref h_this_rock_rules_deeds, .ref h_this_rock_rules_begins, .ref h_this_rock_rules_steps, .ref h_this_rock_rules_lefts, .ref h_this_rock_rules_rights, .ref h_this_rock_rules_facts, .int x_this_rock_rules_count, .int x_this_rock_rules_size]), (h_this_rock_rules_begins, ia G 9 f_this_rock_rules_begins), (h_this_rock_rules_deeds, ia G 8 f_this_rock_rules_deeds), (h_this_rock_rules_facts, ia G 5 g49), (h_this_rock_rules_kinds, ia G 8 f_this_rock_rules_kinds), (h_this_rock_rules_lefts, ia G 200 f_this_rock_rules_lefts), (h_this_rock_rules_rights, ia G 200 f_this_rock_rules_rights), (h_this_rock_rules_steps, ia G 200 f_this_rock_rules_steps), (h_this_rock_trims, ia G 6 f_this_rock_trims), (h_this_rows, ia G 12 (upd (upd (upd g_this_rows ((3 : Int32) * v2).toNatClampNeg t41) (((3 : Int32) * v2) + (1 : Int32)).toNatClampNeg r44) (((3 : Int32) * v2) + (2 : Int32)).toNatClampNeg y47)), (h_this_trial, ob 6 [.ref h_this_trial_off, .int y45, .int y46, .int y47]), (h_this_trial_off, ia G 6 g48)]) C h 32 rfl hi52 dX8_prove_122 rfl (fun H locs h => ?_)
        obtain ⟨t53, et53⟩ : ∃ y : Int32, y = v2 + (1 : Int32) := ⟨_, rfl⟩
        replace hf := lt1_inv et53 hf
        refine lv_iinc (v := t53) (lv' := [(2, .int t53), (0, .ref h_this)]) hx hb dX8_prove_123 hl (k := 1) rfl (by rw [et53]; rfl) (by decide) rfl (fun ls hl => ?_)
        refine lv_goto (tgt := 51) hx hb dX8_prove_126 rfl ?_
        exact hK2 _ _ _ _ (ih t53 y_this_rowCount y_this_planner_length y_this_planner_wanted y_this_planner_best y_this_planner_ways y_this_planner_fewest y_this_planner_everHome g_this_planner_acts y_this_planner_ahead_0_watch y_this_planner_ahead_0_score y_this_planner_ahead_0_home g_this_planner_ahead_0_off y_this_planner_ahead_1_watch y_this_planner_ahead_1_score y_this_planner_ahead_1_home g_this_planner_ahead_1_off y_this_planner_ahead_2_watch y_this_planner_ahead_2_score y_this_planner_ahead_2_home g_this_planner_ahead_2_off y_this_planner_ahead_3_watch y_this_planner_ahead_3_score y_this_planner_ahead_3_home g_this_planner_ahead_3_off y_this_planner_ahead_4_watch y_this_planner_ahead_4_score y_this_planner_ahead_4_home g_this_planner_ahead_4_off g_this_planner_first g49 (upd (upd (upd g_this_rows ((3 : Int32) * v2).toNatClampNeg t41) (((3 : Int32) * v2) + (1 : Int32)).toNatClampNeg r44) (((3 : Int32) * v2) + (2 : Int32)).toNatClampNeg y47) y45 y46 y47 g48 hf) _ _ _ h (lv_sub hl [1, 0] rfl)
  refine lv_iload_n hx hb dX8_prove_0 rfl (lv_at hl 1 rfl) ?_
  refine lv_iconst (v := (0 : Int32)) hx hb dX8_prove_1 rfl ?_
  refine lv_iconst (v := (4 : Int32)) hx hb dX8_prove_2 rfl ?_
  replace hf := bd1_inv hf
  obtain ⟨r1, hc2, hf⟩ := hf
  refine r_ciS0 C h (c_X8_within hc2) ms_X8_79 rfl [] rfl rfl hl.1 rfl (Nat.le_of_ble_eq_true rfl) (rok (by decide)) dX8_prove_3 (fun H locs h => ?_)
  refine lv_if_ne (tgt := 11) hx hb dX8_prove_6 rfl (fun c3 => ?_) (fun c3 => ?_)
  · replace hf := ifn c3 hf
    refine lv_aload_n hx hb dX8_prove_11 rfl (lv_at hl 0 rfl) ?_
    refine r_get C h fk_X8_29 0 rfl rfl dX8_prove_12 ?_
    refine lv_aload_n hx hb dX8_prove_15 rfl (lv_at hl 0 rfl) ?_
    refine r_get C h fk_X8_10 0 rfl rfl dX8_prove_16 ?_
    refine lv_iload_n hx hb dX8_prove_19 rfl (lv_at hl 1 rfl) ?_
    refine lv_iconst (v := (0 : Int32)) hx hb dX8_prove_20 rfl ?_
    replace hf := bd29_inv hf
    obtain ⟨g4, y5, y6, y7, y8, y9, y10, g11, y12, y13, y14, g15, y16, y17, y18, g19, y20, y21, y22, g23, y24, y25, y26, g27, y28, y29, y30, g31, g32, hc33, hf⟩ := hf
    refine r_cvV (ws' := [(h_this, ob 8 [.ref h_this_rock, .ref h_this_kept, .ref h_this_trial, .ref h_this_planner, .ref h_this_reader, .ref h_this_draft, .ref h_this_host, .ref h_this_thing, .ref h_this_tape, .ref h_this_rows, .int x_this_tapeCount, .int x_this_rowCount, .int x_this_isKept]), (h_this_planner, ob 1 [.ref h_this_planner_ahead, .ref h_this_planner_acts, .ref h_this_planner_first, .int y5, .int y6, .int y7, .int y8, .int y9, .int y10]), (h_this_planner_acts, ia G 4 g11), (h_this_planner_ahead, ra G 5 (rl5 h_this_planner_ahead_0 h_this_planner_ahead_1 h_this_planner_ahead_2 h_this_planner_ahead_3 h_this_planner_ahead_4)), (h_this_planner_ahead_0, ob 6 [.ref h_this_planner_ahead_0_off, .int y12, .int y13, .int y14]), (h_this_planner_ahead_0_off, ia G 6 g15), (h_this_planner_ahead_1, ob 6 [.ref h_this_planner_ahead_1_off, .int y16, .int y17, .int y18]), (h_this_planner_ahead_1_off, ia G 6 g19), (h_this_planner_ahead_2, ob 6 [.ref h_this_planner_ahead_2_off, .int y20, .int y21, .int y22]), (h_this_planner_ahead_2_off, ia G 6 g23), (h_this_planner_ahead_3, ob 6 [.ref h_this_planner_ahead_3_off, .int y24, .int y25, .int y26]), (h_this_planner_ahead_3_off, ia G 6 g27), (h_this_planner_ahead_4, ob 6 [.ref h_this_planner_ahead_4_off, .int y28, .int y29, .int y30]), (h_this_planner_ahead_4_off, ia G 6 g31), (h_this_planner_first, ia G 4 g32), (h_this_rock, ob 3 [.ref h_this_rock_kinds, .ref h_this_rock_trims, .ref h_this_rock_lanes, .ref h_this_rock_lights, .ref h_this_rock_currents, .ref h_this_rock_buoys, .ref h_this_rock_now, .ref h_this_rock_rules, .ref h_this_rock_reports, .int x_this_rock_count, .int x_this_rock_end, .int x_this_rock_z]), (h_this_rock_buoys, ia G 6 f_this_rock_buoys), (h_this_rock_currents, ia G 6 f_this_rock_currents), (h_this_rock_kinds, ia G 6 f_this_rock_kinds), (h_this_rock_lanes, ia G 6 f_this_rock_lanes), (h_this_rock_lights, ia G 16 f_this_rock_lights), (h_this_rock_now, ob 6 [.ref h_this_rock_now_off, .int x_this_rock_now_watch, .int x_this_rock_now_score, .int x_this_rock_now_home]), (h_this_rock_now_off, ia G 6 f_this_rock_now_off), (h_this_rock_rules, ob 5 [.ref h_this_rock_rules_kinds, .ref h_this_rock_rules_deeds, .ref h_this_rock_rules_begins, .ref h_this_rock_rules_steps, .ref h_this_rock_rules_lefts, .ref h_this_rock_rules_rights, .ref h_this_rock_rules_facts, .int x_this_rock_rules_count, .int x_this_rock_rules_size]), (h_this_rock_rules_begins, ia G 9 f_this_rock_rules_begins), (h_this_rock_rules_deeds, ia G 8 f_this_rock_rules_deeds), (h_this_rock_rules_facts, ia G 5 g4), (h_this_rock_rules_kinds, ia G 8 f_this_rock_rules_kinds), (h_this_rock_rules_lefts, ia G 200 f_this_rock_rules_lefts), (h_this_rock_rules_rights, ia G 200 f_this_rock_rules_rights), (h_this_rock_rules_steps, ia G 200 f_this_rock_rules_steps), (h_this_rock_trims, ia G 6 f_this_rock_trims), (h_this_rows, ia G 12 f_this_rows), (h_this_trial, ob 6 [.ref h_this_trial_off, .int x_this_trial_watch, .int x_this_trial_score, .int x_this_trial_home]), (h_this_trial_off, ia G 6 f_this_trial_off)]) C h (c_X1_study hc33) mv_X8_209 rfl 1 rfl [15, 16, 17, 18, 19, 20, 21, 22, 23, 24, 25, 26, 27, 28, 29, 30, 31, 1, 2, 3, 4, 5, 6, 7, 8, 9, 10, 11, 12, 13, 14] rfl rfl rfl rfl rfl hl.1 rfl (Nat.le_of_ble_eq_true rfl) (rok (by decide)) dX8_prove_21 (fun H locs h => ?_)
    refine lv_aload_n hx hb dX8_prove_24 rfl (lv_at hl 0 rfl) ?_
    refine lv_aload_n hx hb dX8_prove_25 rfl (lv_at hl 0 rfl) ?_
    refine r_get C h fk_X8_29 0 rfl rfl dX8_prove_26 ?_
    refine r_get C h fk_X8_216 1 rfl rfl dX8_prove_29 ?_
    refine r_put (ws' := [(h_this, ob 8 [.ref h_this_rock, .ref h_this_kept, .ref h_this_trial, .ref h_this_planner, .ref h_this_reader, .ref h_this_draft, .ref h_this_host, .ref h_this_thing, .ref h_this_tape, .ref h_this_rows, .int x_this_tapeCount, .int y5, .int x_this_isKept]), (h_this_planner, ob 1 [.ref h_this_planner_ahead, .ref h_this_planner_acts, .ref h_this_planner_first, .int y5, .int y6, .int y7, .int y8, .int y9, .int y10]), (h_this_planner_acts, ia G 4 g11), (h_this_planner_ahead, ra G 5 (rl5 h_this_planner_ahead_0 h_this_planner_ahead_1 h_this_planner_ahead_2 h_this_planner_ahead_3 h_this_planner_ahead_4)), (h_this_planner_ahead_0, ob 6 [.ref h_this_planner_ahead_0_off, .int y12, .int y13, .int y14]), (h_this_planner_ahead_0_off, ia G 6 g15), (h_this_planner_ahead_1, ob 6 [.ref h_this_planner_ahead_1_off, .int y16, .int y17, .int y18]), (h_this_planner_ahead_1_off, ia G 6 g19), (h_this_planner_ahead_2, ob 6 [.ref h_this_planner_ahead_2_off, .int y20, .int y21, .int y22]), (h_this_planner_ahead_2_off, ia G 6 g23), (h_this_planner_ahead_3, ob 6 [.ref h_this_planner_ahead_3_off, .int y24, .int y25, .int y26]), (h_this_planner_ahead_3_off, ia G 6 g27), (h_this_planner_ahead_4, ob 6 [.ref h_this_planner_ahead_4_off, .int y28, .int y29, .int y30]), (h_this_planner_ahead_4_off, ia G 6 g31), (h_this_planner_first, ia G 4 g32), (h_this_rock, ob 3 [.ref h_this_rock_kinds, .ref h_this_rock_trims, .ref h_this_rock_lanes, .ref h_this_rock_lights, .ref h_this_rock_currents, .ref h_this_rock_buoys, .ref h_this_rock_now, .ref h_this_rock_rules, .ref h_this_rock_reports, .int x_this_rock_count, .int x_this_rock_end, .int x_this_rock_z]), (h_this_rock_buoys, ia G 6 f_this_rock_buoys), (h_this_rock_currents, ia G 6 f_this_rock_currents), (h_this_rock_kinds, ia G 6 f_this_rock_kinds), (h_this_rock_lanes, ia G 6 f_this_rock_lanes), (h_this_rock_lights, ia G 16 f_this_rock_lights), (h_this_rock_now, ob 6 [.ref h_this_rock_now_off, .int x_this_rock_now_watch, .int x_this_rock_now_score, .int x_this_rock_now_home]), (h_this_rock_now_off, ia G 6 f_this_rock_now_off), (h_this_rock_rules, ob 5 [.ref h_this_rock_rules_kinds, .ref h_this_rock_rules_deeds, .ref h_this_rock_rules_begins, .ref h_this_rock_rules_steps, .ref h_this_rock_rules_lefts, .ref h_this_rock_rules_rights, .ref h_this_rock_rules_facts, .int x_this_rock_rules_count, .int x_this_rock_rules_size]), (h_this_rock_rules_begins, ia G 9 f_this_rock_rules_begins), (h_this_rock_rules_deeds, ia G 8 f_this_rock_rules_deeds), (h_this_rock_rules_facts, ia G 5 g4), (h_this_rock_rules_kinds, ia G 8 f_this_rock_rules_kinds), (h_this_rock_rules_lefts, ia G 200 f_this_rock_rules_lefts), (h_this_rock_rules_rights, ia G 200 f_this_rock_rules_rights), (h_this_rock_rules_steps, ia G 200 f_this_rock_rules_steps), (h_this_rock_trims, ia G 6 f_this_rock_trims), (h_this_rows, ia G 12 f_this_rows), (h_this_trial, ob 6 [.ref h_this_trial_off, .int x_this_trial_watch, .int x_this_trial_score, .int x_this_trial_home]), (h_this_trial_off, ia G 6 f_this_trial_off)]) C h fw_X8_72 0 rfl rfl rfl (Nat.le_of_ble_eq_true rfl) dX8_prove_32 rfl (fun H locs h => ?_)
    refine lv_aload_n hx hb dX8_prove_35 rfl (lv_at hl 0 rfl) ?_
    refine r_get C h fk_X8_22 0 rfl rfl dX8_prove_36 ?_
    refine lv_aload_n hx hb dX8_prove_39 rfl (lv_at hl 0 rfl) ?_
    refine r_get C h fk_X8_10 0 rfl rfl dX8_prove_40 ?_
    refine r_get C h fk_X8_94 15 rfl rfl dX8_prove_43 ?_
    replace hf := bd4_inv hf
    obtain ⟨y34, y35, y36, g37, hc38, hf⟩ := hf
    refine r_cvV (ws' := [(h_this, ob 8 [.ref h_this_rock, .ref h_this_kept, .ref h_this_trial, .ref h_this_planner, .ref h_this_reader, .ref h_this_draft, .ref h_this_host, .ref h_this_thing, .ref h_this_tape, .ref h_this_rows, .int x_this_tapeCount, .int y5, .int x_this_isKept]), (h_this_planner, ob 1 [.ref h_this_planner_ahead, .ref h_this_planner_acts, .ref h_this_planner_first, .int y5, .int y6, .int y7, .int y8, .int y9, .int y10]), (h_this_planner_acts, ia G 4 g11), (h_this_planner_ahead, ra G 5 (rl5 h_this_planner_ahead_0 h_this_planner_ahead_1 h_this_planner_ahead_2 h_this_planner_ahead_3 h_this_planner_ahead_4)), (h_this_planner_ahead_0, ob 6 [.ref h_this_planner_ahead_0_off, .int y12, .int y13, .int y14]), (h_this_planner_ahead_0_off, ia G 6 g15), (h_this_planner_ahead_1, ob 6 [.ref h_this_planner_ahead_1_off, .int y16, .int y17, .int y18]), (h_this_planner_ahead_1_off, ia G 6 g19), (h_this_planner_ahead_2, ob 6 [.ref h_this_planner_ahead_2_off, .int y20, .int y21, .int y22]), (h_this_planner_ahead_2_off, ia G 6 g23), (h_this_planner_ahead_3, ob 6 [.ref h_this_planner_ahead_3_off, .int y24, .int y25, .int y26]), (h_this_planner_ahead_3_off, ia G 6 g27), (h_this_planner_ahead_4, ob 6 [.ref h_this_planner_ahead_4_off, .int y28, .int y29, .int y30]), (h_this_planner_ahead_4_off, ia G 6 g31), (h_this_planner_first, ia G 4 g32), (h_this_rock, ob 3 [.ref h_this_rock_kinds, .ref h_this_rock_trims, .ref h_this_rock_lanes, .ref h_this_rock_lights, .ref h_this_rock_currents, .ref h_this_rock_buoys, .ref h_this_rock_now, .ref h_this_rock_rules, .ref h_this_rock_reports, .int x_this_rock_count, .int x_this_rock_end, .int x_this_rock_z]), (h_this_rock_buoys, ia G 6 f_this_rock_buoys), (h_this_rock_currents, ia G 6 f_this_rock_currents), (h_this_rock_kinds, ia G 6 f_this_rock_kinds), (h_this_rock_lanes, ia G 6 f_this_rock_lanes), (h_this_rock_lights, ia G 16 f_this_rock_lights), (h_this_rock_now, ob 6 [.ref h_this_rock_now_off, .int x_this_rock_now_watch, .int x_this_rock_now_score, .int x_this_rock_now_home]), (h_this_rock_now_off, ia G 6 f_this_rock_now_off), (h_this_rock_rules, ob 5 [.ref h_this_rock_rules_kinds, .ref h_this_rock_rules_deeds, .ref h_this_rock_rules_begins, .ref h_this_rock_rules_steps, .ref h_this_rock_rules_lefts, .ref h_this_rock_rules_rights, .ref h_this_rock_rules_facts, .int x_this_rock_rules_count, .int x_this_rock_rules_size]), (h_this_rock_rules_begins, ia G 9 f_this_rock_rules_begins), (h_this_rock_rules_deeds, ia G 8 f_this_rock_rules_deeds), (h_this_rock_rules_facts, ia G 5 g4), (h_this_rock_rules_kinds, ia G 8 f_this_rock_rules_kinds), (h_this_rock_rules_lefts, ia G 200 f_this_rock_rules_lefts), (h_this_rock_rules_rights, ia G 200 f_this_rock_rules_rights), (h_this_rock_rules_steps, ia G 200 f_this_rock_rules_steps), (h_this_rock_trims, ia G 6 f_this_rock_trims), (h_this_rows, ia G 12 f_this_rows), (h_this_trial, ob 6 [.ref h_this_trial_off, .int y34, .int y35, .int y36]), (h_this_trial_off, ia G 6 g37)]) C h (c_X6_become hc38) mv_X8_189 rfl 33 rfl [21, 22, 33, 34] rfl rfl rfl rfl rfl hl.1 rfl (Nat.le_of_ble_eq_true rfl) (rok (by decide)) dX8_prove_46 (fun H locs h => ?_)
    refine lv_iconst (v := (0 : Int32)) hx hb dX8_prove_49 rfl ?_
    refine lv_istore_n (lv' := [(2, .int (0 : Int32)), (0, .ref h_this), (1, .int p0)]) hx hb dX8_prove_50 rfl hl (by decide) rfl (fun ls hl => ?_)
    exact hK2 _ _ _ _ (L51 1000 (0 : Int32) y5 y5 y6 y7 y8 y9 y10 g11 y12 y13 y14 g15 y16 y17 y18 g19 y20 y21 y22 g23 y24 y25 y26 g27 y28 y29 y30 g31 g32 g4 f_this_rows y34 y35 y36 g37 hf) _ _ _ h (lv_sub hl [1, 0] rfl)
  · replace hf := ifp c3 hf
    refine lv_iconst (v := (-1 : Int32)) hx hb dX8_prove_9 rfl ?_
    cases hf
    exact r_iret C h hr hlk rfl dX8_prove_10
def f_X8_hasCell (p0 : Int32) (p1 : Int32) (x_this_rowCount : Int32) : Option (Int32) := bd1 (f_X8_within p0 (0 : Int32) (x_this_rowCount - (1 : Int32))) (fun r1 => (if r1 = 0 then some (0 : Int32) else bd1 (f_X8_within p1 (0 : Int32) (2 : Int32)) (fun r4 => (if r4 = 0 then some (0 : Int32) else some (1 : Int32)))))
set_option maxRecDepth 100000 in
set_option maxHeartbeats 4000000 in
theorem c_X8_hasCell {l : Launch} {G : Gt} {h_this h_this_rock h_this_kept h_this_trial h_this_planner h_this_reader h_this_draft h_this_host h_this_thing h_this_tape h_this_rows : Nat} {p0 : Int32} {p1 : Int32} {x_this_tapeCount : Int32} {x_this_rowCount : Int32} {x_this_isKept : Int32} {r : Int32} (hf : f_X8_hasCell p0 p1 x_this_rowCount = some r) : mFi l G yX8_hasCell cX8_hasCell 3 .boolean 1 [.ref h_this, .int p0, .int p1] [(h_this, ob 8 [.ref h_this_rock, .ref h_this_kept, .ref h_this_trial, .ref h_this_planner, .ref h_this_reader, .ref h_this_draft, .ref h_this_host, .ref h_this_thing, .ref h_this_tape, .ref h_this_rows, .int x_this_tapeCount, .int x_this_rowCount, .int x_this_isKept])] r [(h_this, ob 8 [.ref h_this_rock, .ref h_this_kept, .ref h_this_trial, .ref h_this_planner, .ref h_this_reader, .ref h_this_draft, .ref h_this_host, .ref h_this_thing, .ref h_this_tape, .ref h_this_rows, .int x_this_tapeCount, .int x_this_rowCount, .int x_this_isKept])] := by
  refine mFi.of (by decide +kernel) (Nat.le_of_ble_eq_true rfl) ?_
  intro p e s m below meth c A C hr hlk h ls hl
  obtain ⟨hx, hb, hml, hown, hts⟩ := id C
  replace hl : lv_has ls 3 [(0, .ref h_this), (1, .int p0), (2, .int p1)] := hl
  unfold f_X8_hasCell at hf
  refine lv_iload_n hx hb dX8_hasCell_0 rfl (lv_at hl 1 rfl) ?_
  refine lv_iconst (v := (0 : Int32)) hx hb dX8_hasCell_1 rfl ?_
  refine lv_aload_n hx hb dX8_hasCell_2 rfl (lv_at hl 0 rfl) ?_
  refine r_get C h fk_X8_72 0 rfl rfl dX8_hasCell_3 ?_
  refine lv_iconst (v := (1 : Int32)) hx hb dX8_hasCell_6 rfl ?_
  refine lv_isub hx hb dX8_hasCell_7 ?_
  replace hf := bd1_inv hf
  obtain ⟨r1, hc2, hf⟩ := hf
  refine r_ciS0 C h (c_X8_within hc2) ms_X8_79 rfl [] rfl rfl hl.1 rfl (Nat.le_of_ble_eq_true rfl) (rok (by decide)) dX8_hasCell_8 (fun H locs h => ?_)
  refine lv_if_eq (tgt := 27) hx hb dX8_hasCell_11 rfl (fun c3 => ?_) (fun c3 => ?_)
  · replace hf := ifp c3 hf
    refine lv_iconst (v := (0 : Int32)) hx hb dX8_hasCell_27 rfl ?_
    cases hf
    exact r_iret C h hr hlk rfl dX8_hasCell_28
  · replace hf := ifn c3 hf
    refine lv_iload_n hx hb dX8_hasCell_14 rfl (lv_at hl 2 rfl) ?_
    refine lv_iconst (v := (0 : Int32)) hx hb dX8_hasCell_15 rfl ?_
    refine lv_iconst (v := (2 : Int32)) hx hb dX8_hasCell_16 rfl ?_
    replace hf := bd1_inv hf
    obtain ⟨r4, hc5, hf⟩ := hf
    refine r_ciS0 C h (c_X8_within hc5) ms_X8_79 rfl [] rfl rfl hl.1 rfl (Nat.le_of_ble_eq_true rfl) (rok (by decide)) dX8_hasCell_17 (fun H locs h => ?_)
    refine lv_if_eq (tgt := 27) hx hb dX8_hasCell_20 rfl (fun c6 => ?_) (fun c6 => ?_)
    · replace hf := ifp c6 hf
      refine lv_iconst (v := (0 : Int32)) hx hb dX8_hasCell_27 rfl ?_
      cases hf
      exact r_iret C h hr hlk rfl dX8_hasCell_28
    · replace hf := ifn c6 hf
      refine lv_iconst (v := (1 : Int32)) hx hb dX8_hasCell_23 rfl ?_
      refine lv_goto (tgt := 28) hx hb dX8_hasCell_24 rfl ?_
      cases hf
      exact r_iret C h hr hlk rfl dX8_hasCell_28
def f_X8_row (p0 : Int32) (p1 : Int32) (x_this_rowCount : Int32) (f_this_rows : Nat → Int32) : Option (Int32) := bd1 (f_X8_hasCell p0 p1 x_this_rowCount) (fun r1 => (if r1 = 0 then some (-9 : Int32) else chkI (((3 : Int32) * p0) + p1) 12 (some (f_this_rows (((3 : Int32) * p0) + p1).toNatClampNeg))))
set_option maxRecDepth 100000 in
set_option maxHeartbeats 4000000 in
theorem c_X8_row {l : Launch} {G : Gt} {h_this h_this_rock h_this_kept h_this_trial h_this_planner h_this_reader h_this_draft h_this_host h_this_thing h_this_tape h_this_rows : Nat} {p0 : Int32} {p1 : Int32} {x_this_tapeCount : Int32} {x_this_rowCount : Int32} {x_this_isKept : Int32} {f_this_rows : Nat → Int32} {r : Int32} (hf : f_X8_row p0 p1 x_this_rowCount f_this_rows = some r) : mFi l G yX8_row cX8_row 3 .int 2 [.ref h_this, .int p0, .int p1] [(h_this, ob 8 [.ref h_this_rock, .ref h_this_kept, .ref h_this_trial, .ref h_this_planner, .ref h_this_reader, .ref h_this_draft, .ref h_this_host, .ref h_this_thing, .ref h_this_tape, .ref h_this_rows, .int x_this_tapeCount, .int x_this_rowCount, .int x_this_isKept]), (h_this_rows, ia G 12 f_this_rows)] r [(h_this, ob 8 [.ref h_this_rock, .ref h_this_kept, .ref h_this_trial, .ref h_this_planner, .ref h_this_reader, .ref h_this_draft, .ref h_this_host, .ref h_this_thing, .ref h_this_tape, .ref h_this_rows, .int x_this_tapeCount, .int x_this_rowCount, .int x_this_isKept]), (h_this_rows, ia G 12 f_this_rows)] := by
  refine mFi.of (by decide +kernel) (Nat.le_of_ble_eq_true rfl) ?_
  intro p e s m below meth c A C hr hlk h ls hl
  obtain ⟨hx, hb, hml, hown, hts⟩ := id C
  replace hl : lv_has ls 3 [(0, .ref h_this), (1, .int p0), (2, .int p1)] := hl
  unfold f_X8_row at hf
  refine lv_aload_n hx hb dX8_row_0 rfl (lv_at hl 0 rfl) ?_
  refine lv_iload_n hx hb dX8_row_1 rfl (lv_at hl 1 rfl) ?_
  refine lv_iload_n hx hb dX8_row_2 rfl (lv_at hl 2 rfl) ?_
  replace hf := bd1_inv hf
  obtain ⟨r1, hc2, hf⟩ := hf
  refine r_ciV0 C h (c_X8_hasCell hc2) mv_X8_290 rfl 0 rfl [0] rfl rfl hl.1 rfl (Nat.le_of_ble_eq_true rfl) (rok (by decide)) dX8_row_3 (fun H locs h => ?_)
  refine lv_if_eq (tgt := 22) hx hb dX8_row_6 rfl (fun c3 => ?_) (fun c3 => ?_)
  · replace hf := ifp c3 hf
    refine lv_bipush (v := (-9 : Int32)) hx hb dX8_row_22 rfl ?_
    cases hf
    exact r_iret C h hr hlk rfl dX8_row_24
  · replace hf := ifn c3 hf
    refine lv_aload_n hx hb dX8_row_9 rfl (lv_at hl 0 rfl) ?_
    refine r_get C h fk_X8_65 0 rfl rfl dX8_row_10 ?_
    refine lv_iconst (v := (3 : Int32)) hx hb dX8_row_13 rfl ?_
    refine lv_iload_n hx hb dX8_row_14 rfl (lv_at hl 1 rfl) ?_
    refine lv_imul hx hb dX8_row_15 ?_
    refine lv_iload_n hx hb dX8_row_16 rfl (lv_at hl 2 rfl) ?_
    refine lv_iadd hx hb dX8_row_17 ?_
    replace hf := chkI_inv hf
    obtain ⟨hi4, hf⟩ := hf
    refine r_iald C h 1 rfl hi4 dX8_row_18 ?_
    refine lv_goto (tgt := 24) hx hb dX8_row_19 rfl ?_
    cases hf
    exact r_iret C h hr hlk rfl dX8_row_24
def f_X8_alterRow (p0 : Int32) (p1 : Int32) (p2 : Int32) (x_this_rowCount : Int32) (f_this_rows : Nat → Int32) : Option (Int32 × (Nat → Int32)) := bd1 (f_X8_hasCell p0 p1 x_this_rowCount) (fun r1 => (if r1 = 0 then some ((-9 : Int32), f_this_rows) else bd2 (f_X8_put (((3 : Int32) * p0) + p1) p2 12 f_this_rows) (fun r4 g5 => some (r4, g5))))
set_option maxRecDepth 100000 in
set_option maxHeartbeats 4000000 in
theorem c_X8_alterRow {l : Launch} {G : Gt} {h_this h_this_rock h_this_kept h_this_trial h_this_planner h_this_reader h_this_draft h_this_host h_this_thing h_this_tape h_this_rows : Nat} {p0 : Int32} {p1 : Int32} {p2 : Int32} {x_this_tapeCount : Int32} {x_this_rowCount : Int32} {x_this_isKept : Int32} {f_this_rows : Nat → Int32} {r : Int32} {m_this_rows : Nat → Int32} (hf : f_X8_alterRow p0 p1 p2 x_this_rowCount f_this_rows = some (r, m_this_rows)) : mFi l G yX8_alterRow cX8_alterRow 4 .int 2 [.ref h_this, .int p0, .int p1, .int p2] [(h_this, ob 8 [.ref h_this_rock, .ref h_this_kept, .ref h_this_trial, .ref h_this_planner, .ref h_this_reader, .ref h_this_draft, .ref h_this_host, .ref h_this_thing, .ref h_this_tape, .ref h_this_rows, .int x_this_tapeCount, .int x_this_rowCount, .int x_this_isKept]), (h_this_rows, ia G 12 f_this_rows)] r [(h_this, ob 8 [.ref h_this_rock, .ref h_this_kept, .ref h_this_trial, .ref h_this_planner, .ref h_this_reader, .ref h_this_draft, .ref h_this_host, .ref h_this_thing, .ref h_this_tape, .ref h_this_rows, .int x_this_tapeCount, .int x_this_rowCount, .int x_this_isKept]), (h_this_rows, ia G 12 m_this_rows)] := by
  refine mFi.of (by decide +kernel) (Nat.le_of_ble_eq_true rfl) ?_
  intro p e s m below meth c A C hr hlk h ls hl
  obtain ⟨hx, hb, hml, hown, hts⟩ := id C
  replace hl : lv_has ls 4 [(0, .ref h_this), (1, .int p0), (2, .int p1), (3, .int p2)] := hl
  unfold f_X8_alterRow at hf
  refine lv_aload_n hx hb dX8_alterRow_0 rfl (lv_at hl 0 rfl) ?_
  refine lv_iload_n hx hb dX8_alterRow_1 rfl (lv_at hl 1 rfl) ?_
  refine lv_iload_n hx hb dX8_alterRow_2 rfl (lv_at hl 2 rfl) ?_
  replace hf := bd1_inv hf
  obtain ⟨r1, hc2, hf⟩ := hf
  refine r_ciV0 C h (c_X8_hasCell hc2) mv_X8_290 rfl 0 rfl [0] rfl rfl hl.1 rfl (Nat.le_of_ble_eq_true rfl) (rok (by decide)) dX8_alterRow_3 (fun H locs h => ?_)
  refine lv_if_eq (tgt := 25) hx hb dX8_alterRow_6 rfl (fun c3 => ?_) (fun c3 => ?_)
  · replace hf := ifp c3 hf
    refine lv_bipush (v := (-9 : Int32)) hx hb dX8_alterRow_25 rfl ?_
    cases hf
    exact r_iret C h hr hlk rfl dX8_alterRow_27
  · replace hf := ifn c3 hf
    refine lv_aload_n hx hb dX8_alterRow_9 rfl (lv_at hl 0 rfl) ?_
    refine r_get C h fk_X8_65 0 rfl rfl dX8_alterRow_10 ?_
    refine lv_iconst (v := (3 : Int32)) hx hb dX8_alterRow_13 rfl ?_
    refine lv_iload_n hx hb dX8_alterRow_14 rfl (lv_at hl 1 rfl) ?_
    refine lv_imul hx hb dX8_alterRow_15 ?_
    refine lv_iload_n hx hb dX8_alterRow_16 rfl (lv_at hl 2 rfl) ?_
    refine lv_iadd hx hb dX8_alterRow_17 ?_
    refine lv_iload_n hx hb dX8_alterRow_18 rfl (lv_at hl 3 rfl) ?_
    replace hf := bd2_inv hf
    obtain ⟨r4, g5, hc6, hf⟩ := hf
    refine r_ciS (ws' := [(h_this, ob 8 [.ref h_this_rock, .ref h_this_kept, .ref h_this_trial, .ref h_this_planner, .ref h_this_reader, .ref h_this_draft, .ref h_this_host, .ref h_this_thing, .ref h_this_tape, .ref h_this_rows, .int x_this_tapeCount, .int x_this_rowCount, .int x_this_isKept]), (h_this_rows, ia G 12 g5)]) C h (c_X8_put hc6) ms_X8_130 rfl [1] rfl rfl rfl rfl rfl hl.1 rfl (Nat.le_of_ble_eq_true rfl) (rok (by decide)) dX8_alterRow_19 (fun H locs h => ?_)
    refine lv_goto (tgt := 27) hx hb dX8_alterRow_22 rfl ?_
    cases hf
    exact r_iret C h hr hlk rfl dX8_alterRow_27
def f_X3_hasAct (p0 : Int32) (x_this_count : Int32) : Option (Int32) := (if p0 < 0 then some (0 : Int32) else (if x_this_count < p0 then some (0 : Int32) else some (1 : Int32)))
set_option maxRecDepth 100000 in
set_option maxHeartbeats 4000000 in
theorem c_X3_hasAct {l : Launch} {G : Gt} {h_this h_this_kinds h_this_trims h_this_lanes h_this_lights h_this_currents h_this_buoys h_this_now h_this_rules h_this_reports : Nat} {p0 : Int32} {x_this_count : Int32} {x_this_end : Int32} {x_this_z : Int32} {r : Int32} (hf : f_X3_hasAct p0 x_this_count = some r) : mFi l G yX3_hasAct cX3_hasAct 2 .boolean 0 [.ref h_this, .int p0] [(h_this, ob 3 [.ref h_this_kinds, .ref h_this_trims, .ref h_this_lanes, .ref h_this_lights, .ref h_this_currents, .ref h_this_buoys, .ref h_this_now, .ref h_this_rules, .ref h_this_reports, .int x_this_count, .int x_this_end, .int x_this_z])] r [(h_this, ob 3 [.ref h_this_kinds, .ref h_this_trims, .ref h_this_lanes, .ref h_this_lights, .ref h_this_currents, .ref h_this_buoys, .ref h_this_now, .ref h_this_rules, .ref h_this_reports, .int x_this_count, .int x_this_end, .int x_this_z])] := by
  refine mFi.of (by decide +kernel) (Nat.le_of_ble_eq_true rfl) ?_
  intro p e s m below meth c A C hr hlk h ls hl
  obtain ⟨hx, hb, hml, hown, hts⟩ := id C
  replace hl : lv_has ls 2 [(0, .ref h_this), (1, .int p0)] := hl
  unfold f_X3_hasAct at hf
  refine lv_iload_n hx hb dX3_hasAct_0 rfl (lv_at hl 1 rfl) ?_
  refine lv_if_lt (tgt := 16) hx hb dX3_hasAct_1 rfl (fun c1 => ?_) (fun c1 => ?_)
  · replace hf := ifp c1 hf
    refine lv_iconst (v := (0 : Int32)) hx hb dX3_hasAct_16 rfl ?_
    cases hf
    exact r_iret C h hr hlk rfl dX3_hasAct_17
  · replace hf := ifn c1 hf
    refine lv_iload_n hx hb dX3_hasAct_4 rfl (lv_at hl 1 rfl) ?_
    refine lv_aload_n hx hb dX3_hasAct_5 rfl (lv_at hl 0 rfl) ?_
    refine r_get C h fk_X3_51 0 rfl rfl dX3_hasAct_6 ?_
    refine lv_icmp_gt (tgt := 16) hx hb dX3_hasAct_9 rfl (fun c2 => ?_) (fun c2 => ?_)
    · replace hf := ifp c2 hf
      refine lv_iconst (v := (0 : Int32)) hx hb dX3_hasAct_16 rfl ?_
      cases hf
      exact r_iret C h hr hlk rfl dX3_hasAct_17
    · replace hf := ifn c2 hf
      refine lv_iconst (v := (1 : Int32)) hx hb dX3_hasAct_12 rfl ?_
      refine lv_goto (tgt := 17) hx hb dX3_hasAct_13 rfl ?_
      cases hf
      exact r_iret C h hr hlk rfl dX3_hasAct_17
def f_X8_judge_L16 (x_this_rowCount : Int32) (x_this_rock_count : Int32) (x_this_rock_end : Int32) (f_this_rock_buoys : Nat → Int32) (f_this_rock_currents : Nat → Int32) (f_this_rock_kinds : Nat → Int32) (f_this_rock_lanes : Nat → Int32) (f_this_rock_lights : Nat → Int32) (x_this_rock_rules_count : Int32) (f_this_rock_rules_begins : Nat → Int32) (f_this_rock_rules_deeds : Nat → Int32) (f_this_rock_rules_kinds : Nat → Int32) (f_this_rock_rules_lefts : Nat → Int32) (f_this_rock_rules_rights : Nat → Int32) (f_this_rock_rules_steps : Nat → Int32) (f_this_rock_trims : Nat → Int32) (f_this_rows : Nat → Int32) : Nat → Int32 → (Nat → Int32) → Int32 → Int32 → Int32 → (Nat → Int32) → Option (Int32 × (Nat → Int32) × Int32 × Int32 × Int32 × (Nat → Int32))
  | 0, _, _, _, _, _, _ => none
  | n + 1, v1, g_this_rock_rules_facts, y_this_trial_watch, y_this_trial_score, y_this_trial_home, g_this_trial_off => (if x_this_rowCount ≤ v1 then some ((0 : Int32), g_this_rock_rules_facts, y_this_trial_watch, y_this_trial_score, y_this_trial_home, g_this_trial_off) else chkI ((3 : Int32) * v1) 12 (lt1 (f_this_rows ((3 : Int32) * v1).toNatClampNeg) (fun (t8 : Int32) => bd1 (f_X3_hasAct t8 x_this_rock_count) (fun r9 => (if r9 = 0 then some (v1 + (1 : Int32), g_this_rock_rules_facts, y_this_trial_watch, y_this_trial_score, y_this_trial_home, g_this_trial_off) else bd1 (f_X3_isOver y_this_trial_watch x_this_rock_end) (fun r12 => (if r12 = 0 then bd6 (f_X3_pass t8 y_this_trial_watch y_this_trial_score y_this_trial_home g_this_trial_off x_this_rock_count f_this_rock_buoys f_this_rock_currents f_this_rock_kinds f_this_rock_lanes f_this_rock_lights x_this_rock_rules_count f_this_rock_rules_begins f_this_rock_rules_deeds g_this_rock_rules_facts f_this_rock_rules_kinds f_this_rock_rules_lefts f_this_rock_rules_rights f_this_rock_rules_steps f_this_rock_trims) (fun r15 y16 y17 y18 g19 g20 => chkI (((3 : Int32) * v1) + (1 : Int32)) 12 ((if r15 = (f_this_rows (((3 : Int32) * v1) + (1 : Int32)).toNatClampNeg) then chkI (((3 : Int32) * v1) + (2 : Int32)) 12 ((if y18 = (f_this_rows (((3 : Int32) * v1) + (2 : Int32)).toNatClampNeg) then lt1 (v1 + (1 : Int32)) (fun (t26 : Int32) => (f_X8_judge_L16 x_this_rowCount x_this_rock_count x_this_rock_end f_this_rock_buoys f_this_rock_currents f_this_rock_kinds f_this_rock_lanes f_this_rock_lights x_this_rock_rules_count f_this_rock_rules_begins f_this_rock_rules_deeds f_this_rock_rules_kinds f_this_rock_rules_lefts f_this_rock_rules_rights f_this_rock_rules_steps f_this_rock_trims f_this_rows n) t26 g20 y16 y17 y18 g19) else some (v1 + (1 : Int32), g20, y16, y17, y18, g19))) else some (v1 + (1 : Int32), g20, y16, y17, y18, g19)))) else some (v1 + (1 : Int32), g_this_rock_rules_facts, y_this_trial_watch, y_this_trial_score, y_this_trial_home, g_this_trial_off))))))))
def f_X8_judge (x_this_rowCount : Int32) (x_this_rock_count : Int32) (x_this_rock_end : Int32) (f_this_rock_buoys : Nat → Int32) (f_this_rock_currents : Nat → Int32) (f_this_rock_kinds : Nat → Int32) (f_this_rock_lanes : Nat → Int32) (f_this_rock_lights : Nat → Int32) (x_this_rock_now_watch : Int32) (x_this_rock_now_score : Int32) (x_this_rock_now_home : Int32) (f_this_rock_now_off : Nat → Int32) (x_this_rock_rules_count : Int32) (f_this_rock_rules_begins : Nat → Int32) (f_this_rock_rules_deeds : Nat → Int32) (f_this_rock_rules_facts : Nat → Int32) (f_this_rock_rules_kinds : Nat → Int32) (f_this_rock_rules_lefts : Nat → Int32) (f_this_rock_rules_rights : Nat → Int32) (f_this_rock_rules_steps : Nat → Int32) (f_this_rock_trims : Nat → Int32) (f_this_rows : Nat → Int32) (f_this_trial_off : Nat → Int32) : Option (Int32 × (Nat → Int32) × Int32 × Int32 × Int32 × (Nat → Int32)) := bd4 (f_X6_become x_this_rock_now_watch x_this_rock_now_score x_this_rock_now_home f_this_rock_now_off f_this_trial_off) (fun y1 y2 y3 g4 => f_X8_judge_L16 x_this_rowCount x_this_rock_count x_this_rock_end f_this_rock_buoys f_this_rock_currents f_this_rock_kinds f_this_rock_lanes f_this_rock_lights x_this_rock_rules_count f_this_rock_rules_begins f_this_rock_rules_deeds f_this_rock_rules_kinds f_this_rock_rules_lefts f_this_rock_rules_rights f_this_rock_rules_steps f_this_rock_trims f_this_rows 1000 (0 : Int32) f_this_rock_rules_facts y1 y2 y3 g4)
set_option maxRecDepth 100000 in
set_option maxHeartbeats 4000000 in
theorem c_X8_judge {l : Launch} {G : Gt} {h_this h_this_rock h_this_kept h_this_trial h_this_planner h_this_reader h_this_draft h_this_host h_this_thing h_this_tape h_this_rows h_this_rock_kinds h_this_rock_trims h_this_rock_lanes h_this_rock_lights h_this_rock_currents h_this_rock_buoys h_this_rock_now h_this_rock_rules h_this_rock_reports h_this_rock_now_off h_this_rock_rules_kinds h_this_rock_rules_deeds h_this_rock_rules_begins h_this_rock_rules_steps h_this_rock_rules_lefts h_this_rock_rules_rights h_this_rock_rules_facts h_this_trial_off : Nat} {x_this_tapeCount : Int32} {x_this_rowCount : Int32} {x_this_isKept : Int32} {x_this_rock_count : Int32} {x_this_rock_end : Int32} {x_this_rock_z : Int32} {f_this_rock_buoys : Nat → Int32} {f_this_rock_currents : Nat → Int32} {f_this_rock_kinds : Nat → Int32} {f_this_rock_lanes : Nat → Int32} {f_this_rock_lights : Nat → Int32} {x_this_rock_now_watch : Int32} {x_this_rock_now_score : Int32} {x_this_rock_now_home : Int32} {f_this_rock_now_off : Nat → Int32} {x_this_rock_rules_count : Int32} {x_this_rock_rules_size : Int32} {f_this_rock_rules_begins : Nat → Int32} {f_this_rock_rules_deeds : Nat → Int32} {f_this_rock_rules_facts : Nat → Int32} {f_this_rock_rules_kinds : Nat → Int32} {f_this_rock_rules_lefts : Nat → Int32} {f_this_rock_rules_rights : Nat → Int32} {f_this_rock_rules_steps : Nat → Int32} {f_this_rock_trims : Nat → Int32} {f_this_rows : Nat → Int32} {x_this_trial_watch : Int32} {x_this_trial_score : Int32} {x_this_trial_home : Int32} {f_this_trial_off : Nat → Int32} {r : Int32} {m_this_rock_rules_facts : Nat → Int32} {m_this_trial_watch : Int32} {m_this_trial_score : Int32} {m_this_trial_home : Int32} {m_this_trial_off : Nat → Int32} (hf : f_X8_judge x_this_rowCount x_this_rock_count x_this_rock_end f_this_rock_buoys f_this_rock_currents f_this_rock_kinds f_this_rock_lanes f_this_rock_lights x_this_rock_now_watch x_this_rock_now_score x_this_rock_now_home f_this_rock_now_off x_this_rock_rules_count f_this_rock_rules_begins f_this_rock_rules_deeds f_this_rock_rules_facts f_this_rock_rules_kinds f_this_rock_rules_lefts f_this_rock_rules_rights f_this_rock_rules_steps f_this_rock_trims f_this_rows f_this_trial_off = some (r, m_this_rock_rules_facts, m_this_trial_watch, m_this_trial_score, m_this_trial_home, m_this_trial_off)) : mFi l G yX8_judge cX8_judge 4 .int 5 [.ref h_this] [(h_this, ob 8 [.ref h_this_rock, .ref h_this_kept, .ref h_this_trial, .ref h_this_planner, .ref h_this_reader, .ref h_this_draft, .ref h_this_host, .ref h_this_thing, .ref h_this_tape, .ref h_this_rows, .int x_this_tapeCount, .int x_this_rowCount, .int x_this_isKept]), (h_this_rock, ob 3 [.ref h_this_rock_kinds, .ref h_this_rock_trims, .ref h_this_rock_lanes, .ref h_this_rock_lights, .ref h_this_rock_currents, .ref h_this_rock_buoys, .ref h_this_rock_now, .ref h_this_rock_rules, .ref h_this_rock_reports, .int x_this_rock_count, .int x_this_rock_end, .int x_this_rock_z]), (h_this_rock_buoys, ia G 6 f_this_rock_buoys), (h_this_rock_currents, ia G 6 f_this_rock_currents), (h_this_rock_kinds, ia G 6 f_this_rock_kinds), (h_this_rock_lanes, ia G 6 f_this_rock_lanes), (h_this_rock_lights, ia G 16 f_this_rock_lights), (h_this_rock_now, ob 6 [.ref h_this_rock_now_off, .int x_this_rock_now_watch, .int x_this_rock_now_score, .int x_this_rock_now_home]), (h_this_rock_now_off, ia G 6 f_this_rock_now_off), (h_this_rock_rules, ob 5 [.ref h_this_rock_rules_kinds, .ref h_this_rock_rules_deeds, .ref h_this_rock_rules_begins, .ref h_this_rock_rules_steps, .ref h_this_rock_rules_lefts, .ref h_this_rock_rules_rights, .ref h_this_rock_rules_facts, .int x_this_rock_rules_count, .int x_this_rock_rules_size]), (h_this_rock_rules_begins, ia G 9 f_this_rock_rules_begins), (h_this_rock_rules_deeds, ia G 8 f_this_rock_rules_deeds), (h_this_rock_rules_facts, ia G 5 f_this_rock_rules_facts), (h_this_rock_rules_kinds, ia G 8 f_this_rock_rules_kinds), (h_this_rock_rules_lefts, ia G 200 f_this_rock_rules_lefts), (h_this_rock_rules_rights, ia G 200 f_this_rock_rules_rights), (h_this_rock_rules_steps, ia G 200 f_this_rock_rules_steps), (h_this_rock_trims, ia G 6 f_this_rock_trims), (h_this_rows, ia G 12 f_this_rows), (h_this_trial, ob 6 [.ref h_this_trial_off, .int x_this_trial_watch, .int x_this_trial_score, .int x_this_trial_home]), (h_this_trial_off, ia G 6 f_this_trial_off)] r [(h_this, ob 8 [.ref h_this_rock, .ref h_this_kept, .ref h_this_trial, .ref h_this_planner, .ref h_this_reader, .ref h_this_draft, .ref h_this_host, .ref h_this_thing, .ref h_this_tape, .ref h_this_rows, .int x_this_tapeCount, .int x_this_rowCount, .int x_this_isKept]), (h_this_rock, ob 3 [.ref h_this_rock_kinds, .ref h_this_rock_trims, .ref h_this_rock_lanes, .ref h_this_rock_lights, .ref h_this_rock_currents, .ref h_this_rock_buoys, .ref h_this_rock_now, .ref h_this_rock_rules, .ref h_this_rock_reports, .int x_this_rock_count, .int x_this_rock_end, .int x_this_rock_z]), (h_this_rock_buoys, ia G 6 f_this_rock_buoys), (h_this_rock_currents, ia G 6 f_this_rock_currents), (h_this_rock_kinds, ia G 6 f_this_rock_kinds), (h_this_rock_lanes, ia G 6 f_this_rock_lanes), (h_this_rock_lights, ia G 16 f_this_rock_lights), (h_this_rock_now, ob 6 [.ref h_this_rock_now_off, .int x_this_rock_now_watch, .int x_this_rock_now_score, .int x_this_rock_now_home]), (h_this_rock_now_off, ia G 6 f_this_rock_now_off), (h_this_rock_rules, ob 5 [.ref h_this_rock_rules_kinds, .ref h_this_rock_rules_deeds, .ref h_this_rock_rules_begins, .ref h_this_rock_rules_steps, .ref h_this_rock_rules_lefts, .ref h_this_rock_rules_rights, .ref h_this_rock_rules_facts, .int x_this_rock_rules_count, .int x_this_rock_rules_size]), (h_this_rock_rules_begins, ia G 9 f_this_rock_rules_begins), (h_this_rock_rules_deeds, ia G 8 f_this_rock_rules_deeds), (h_this_rock_rules_facts, ia G 5 m_this_rock_rules_facts), (h_this_rock_rules_kinds, ia G 8 f_this_rock_rules_kinds), (h_this_rock_rules_lefts, ia G 200 f_this_rock_rules_lefts), (h_this_rock_rules_rights, ia G 200 f_this_rock_rules_rights), (h_this_rock_rules_steps, ia G 200 f_this_rock_rules_steps), (h_this_rock_trims, ia G 6 f_this_rock_trims), (h_this_rows, ia G 12 f_this_rows), (h_this_trial, ob 6 [.ref h_this_trial_off, .int m_this_trial_watch, .int m_this_trial_score, .int m_this_trial_home]), (h_this_trial_off, ia G 6 m_this_trial_off)] := by
  refine mFi.of (by decide +kernel) (Nat.le_of_ble_eq_true rfl) ?_
  intro p e s m below meth c A C hr hlk h ls hl
  obtain ⟨hx, hb, hml, hown, hts⟩ := id C
  replace hl : lv_has ls 4 [(0, .ref h_this)] := hl
  unfold f_X8_judge at hf
  refine with_K G A 4 (fun K hK1 hK2 => ?_)
  have L16 : ∀ (n : Nat) (v1 : Int32) (g_this_rock_rules_facts : Nat → Int32) (y_this_trial_watch : Int32) (y_this_trial_score : Int32) (y_this_trial_home : Int32) (g_this_trial_off : Nat → Int32), f_X8_judge_L16 x_this_rowCount x_this_rock_count x_this_rock_end f_this_rock_buoys f_this_rock_currents f_this_rock_kinds f_this_rock_lanes f_this_rock_lights x_this_rock_rules_count f_this_rock_rules_begins f_this_rock_rules_deeds f_this_rock_rules_kinds f_this_rock_rules_lefts f_this_rock_rules_rights f_this_rock_rules_steps f_this_rock_trims f_this_rows n v1 g_this_rock_rules_facts y_this_trial_watch y_this_trial_score y_this_trial_home g_this_trial_off = some (r, m_this_rock_rules_facts, m_this_trial_watch, m_this_trial_score, m_this_trial_home, m_this_trial_off) → K 16 ([] : List Value) [(h_this, ob 8 [.ref h_this_rock, .ref h_this_kept, .ref h_this_trial, .ref h_this_planner, .ref h_this_reader, .ref h_this_draft, .ref h_this_host, .ref h_this_thing, .ref h_this_tape, .ref h_this_rows, .int x_this_tapeCount, .int x_this_rowCount, .int x_this_isKept]), (h_this_rock, ob 3 [.ref h_this_rock_kinds, .ref h_this_rock_trims, .ref h_this_rock_lanes, .ref h_this_rock_lights, .ref h_this_rock_currents, .ref h_this_rock_buoys, .ref h_this_rock_now, .ref h_this_rock_rules, .ref h_this_rock_reports, .int x_this_rock_count, .int x_this_rock_end, .int x_this_rock_z]), (h_this_rock_buoys, ia G 6 f_this_rock_buoys), (h_this_rock_currents, ia G 6 f_this_rock_currents), (h_this_rock_kinds, ia G 6 f_this_rock_kinds), (h_this_rock_lanes, ia G 6 f_this_rock_lanes), (h_this_rock_lights, ia G 16 f_this_rock_lights), (h_this_rock_now, ob 6 [.ref h_this_rock_now_off, .int x_this_rock_now_watch, .int x_this_rock_now_score, .int x_this_rock_now_home]), (h_this_rock_now_off, ia G 6 f_this_rock_now_off), (h_this_rock_rules, ob 5 [.ref h_this_rock_rules_kinds, .ref h_this_rock_rules_deeds, .ref h_this_rock_rules_begins, .ref h_this_rock_rules_steps, .ref h_this_rock_rules_lefts, .ref h_this_rock_rules_rights, .ref h_this_rock_rules_facts, .int x_this_rock_rules_count, .int x_this_rock_rules_size]), (h_this_rock_rules_begins, ia G 9 f_this_rock_rules_begins), (h_this_rock_rules_deeds, ia G 8 f_this_rock_rules_deeds), (h_this_rock_rules_facts, ia G 5 g_this_rock_rules_facts), (h_this_rock_rules_kinds, ia G 8 f_this_rock_rules_kinds), (h_this_rock_rules_lefts, ia G 200 f_this_rock_rules_lefts), (h_this_rock_rules_rights, ia G 200 f_this_rock_rules_rights), (h_this_rock_rules_steps, ia G 200 f_this_rock_rules_steps), (h_this_rock_trims, ia G 6 f_this_rock_trims), (h_this_rows, ia G 12 f_this_rows), (h_this_trial, ob 6 [.ref h_this_trial_off, .int y_this_trial_watch, .int y_this_trial_score, .int y_this_trial_home]), (h_this_trial_off, ia G 6 g_this_trial_off)] [(0, .ref h_this), (1, .int v1)] := by
    intro n
    induction n with
    | zero =>
      intro v1 g_this_rock_rules_facts y_this_trial_watch y_this_trial_score y_this_trial_home g_this_trial_off hf
      replace hf : (none : Option _) = some _ := hf
      cases hf
    | succ n ih =>
      intro v1 g_this_rock_rules_facts y_this_trial_watch y_this_trial_score y_this_trial_home g_this_trial_off hf
      rw [f_X8_judge_L16] at hf
      refine hK1 _ _ _ _ (fun H locs ls h hl => ?_)
      refine lv_iload_n hx hb dX8_judge_16 rfl (lv_at hl 1 rfl) ?_
      refine lv_aload_n hx hb dX8_judge_17 rfl (lv_at hl 0 rfl) ?_
      refine r_get C h fk_X8_72 0 rfl rfl dX8_judge_18 ?_
      refine lv_icmp_ge (tgt := 119) hx hb dX8_judge_21 rfl (fun c6 => ?_) (fun c6 => ?_)
      · replace hf := ifp c6 hf
        refine lv_iconst (v := (0 : Int32)) hx hb dX8_judge_119 rfl ?_
        cases hf
        exact r_iret C h hr hlk rfl dX8_judge_120
      · replace hf := ifn c6 hf
        refine lv_aload_n hx hb dX8_judge_24 rfl (lv_at hl 0 rfl) ?_
        refine r_get C h fk_X8_65 0 rfl rfl dX8_judge_25 ?_
        refine lv_iconst (v := (3 : Int32)) hx hb dX8_judge_28 rfl ?_
        refine lv_iload_n hx hb dX8_judge_29 rfl (lv_at hl 1 rfl) ?_
        refine lv_imul hx hb dX8_judge_30 ?_
        replace hf := chkI_inv hf
        obtain ⟨hi7, hf⟩ := hf
        refine r_iald C h 18 rfl hi7 dX8_judge_31 ?_
        refine lv_topi (fun t8 et8 => ?_)
        replace hf := lt1_inv et8 hf
        refine lv_istore_n (lv' := [(2, .int t8), (0, .ref h_this), (1, .int v1)]) hx hb dX8_judge_32 rfl hl (by decide) rfl (fun ls hl => ?_)
        refine lv_aload_n hx hb dX8_judge_33 rfl (lv_at hl 1 rfl) ?_
        refine r_get C h fk_X8_10 0 rfl rfl dX8_judge_34 ?_
        refine lv_iload_n hx hb dX8_judge_37 rfl (lv_at hl 0 rfl) ?_
        replace hf := bd1_inv hf
        obtain ⟨r9, hc10, hf⟩ := hf
        refine r_ciV0 C h (c_X3_hasAct hc10) mv_X8_294 rfl 1 rfl [1] rfl rfl hl.1 rfl (Nat.le_of_ble_eq_true rfl) (rok (by decide)) dX8_judge_38 (fun H locs h => ?_)
        refine lv_if_eq (tgt := 58) hx hb dX8_judge_41 rfl (fun c11 => ?_) (fun c11 => ?_)
        · replace hf := ifp c11 hf
          refine lv_iload_n hx hb dX8_judge_58 rfl (lv_at hl 2 rfl) ?_
          refine lv_iconst (v := (1 : Int32)) hx hb dX8_judge_59 rfl ?_
          refine lv_iadd hx hb dX8_judge_60 ?_
          cases hf
          exact r_iret C h hr hlk rfl dX8_judge_61
        · replace hf := ifn c11 hf
          refine lv_aload_n hx hb dX8_judge_44 rfl (lv_at hl 1 rfl) ?_
          refine r_get C h fk_X8_10 0 rfl rfl dX8_judge_45 ?_
          refine lv_aload_n hx hb dX8_judge_48 rfl (lv_at hl 1 rfl) ?_
          refine r_get C h fk_X8_22 0 rfl rfl dX8_judge_49 ?_
          replace hf := bd1_inv hf
          obtain ⟨r12, hc13, hf⟩ := hf
          refine r_ciV0 C h (c_X3_isOver hc13) mv_X8_159 rfl 1 rfl [19, 1] rfl rfl hl.1 rfl (Nat.le_of_ble_eq_true rfl) (rok (by decide)) dX8_judge_52 (fun H locs h => ?_)
          refine lv_if_eq (tgt := 62) hx hb dX8_judge_55 rfl (fun c14 => ?_) (fun c14 => ?_)
          · replace hf := ifp c14 hf
            refine lv_aload_n hx hb dX8_judge_62 rfl (lv_at hl 1 rfl) ?_
            refine r_get C h fk_X8_10 0 rfl rfl dX8_judge_63 ?_
            refine lv_aload_n hx hb dX8_judge_66 rfl (lv_at hl 1 rfl) ?_
            refine r_get C h fk_X8_22 0 rfl rfl dX8_judge_67 ?_
            refine lv_iload_n hx hb dX8_judge_70 rfl (lv_at hl 0 rfl) ?_
            replace hf := bd6_inv hf
            obtain ⟨r15, y16, y17, y18, g19, g20, hc21, hf⟩ := hf
            refine r_ciV (ws' := [(h_this, ob 8 [.ref h_this_rock, .ref h_this_kept, .ref h_this_trial, .ref h_this_planner, .ref h_this_reader, .ref h_this_draft, .ref h_this_host, .ref h_this_thing, .ref h_this_tape, .ref h_this_rows, .int x_this_tapeCount, .int x_this_rowCount, .int x_this_isKept]), (h_this_rock, ob 3 [.ref h_this_rock_kinds, .ref h_this_rock_trims, .ref h_this_rock_lanes, .ref h_this_rock_lights, .ref h_this_rock_currents, .ref h_this_rock_buoys, .ref h_this_rock_now, .ref h_this_rock_rules, .ref h_this_rock_reports, .int x_this_rock_count, .int x_this_rock_end, .int x_this_rock_z]), (h_this_rock_buoys, ia G 6 f_this_rock_buoys), (h_this_rock_currents, ia G 6 f_this_rock_currents), (h_this_rock_kinds, ia G 6 f_this_rock_kinds), (h_this_rock_lanes, ia G 6 f_this_rock_lanes), (h_this_rock_lights, ia G 16 f_this_rock_lights), (h_this_rock_now, ob 6 [.ref h_this_rock_now_off, .int x_this_rock_now_watch, .int x_this_rock_now_score, .int x_this_rock_now_home]), (h_this_rock_now_off, ia G 6 f_this_rock_now_off), (h_this_rock_rules, ob 5 [.ref h_this_rock_rules_kinds, .ref h_this_rock_rules_deeds, .ref h_this_rock_rules_begins, .ref h_this_rock_rules_steps, .ref h_this_rock_rules_lefts, .ref h_this_rock_rules_rights, .ref h_this_rock_rules_facts, .int x_this_rock_rules_count, .int x_this_rock_rules_size]), (h_this_rock_rules_begins, ia G 9 f_this_rock_rules_begins), (h_this_rock_rules_deeds, ia G 8 f_this_rock_rules_deeds), (h_this_rock_rules_facts, ia G 5 g20), (h_this_rock_rules_kinds, ia G 8 f_this_rock_rules_kinds), (h_this_rock_rules_lefts, ia G 200 f_this_rock_rules_lefts), (h_this_rock_rules_rights, ia G 200 f_this_rock_rules_rights), (h_this_rock_rules_steps, ia G 200 f_this_rock_rules_steps), (h_this_rock_trims, ia G 6 f_this_rock_trims), (h_this_rows, ia G 12 f_this_rows), (h_this_trial, ob 6 [.ref h_this_trial_off, .int y16, .int y17, .int y18]), (h_this_trial_off, ia G 6 g19)]) C h (c_X3_pass hc21) mv_X8_287 rfl 1 rfl [19, 20, 1, 2, 3, 4, 5, 6, 9, 10, 11, 12, 13, 14, 15, 16, 17] rfl rfl rfl rfl rfl hl.1 rfl (Nat.le_of_ble_eq_true rfl) (rok (by decide)) dX8_judge_71 (fun H locs h => ?_)
            refine lv_istore_n (lv' := [(3, .int r15), (2, .int t8), (0, .ref h_this), (1, .int v1)]) hx hb dX8_judge_74 rfl hl (by decide) rfl (fun ls hl => ?_)
            refine lv_iload_n hx hb dX8_judge_75 rfl (lv_at hl 0 rfl) ?_
            refine lv_aload_n hx hb dX8_judge_76 rfl (lv_at hl 2 rfl) ?_
            refine r_get C h fk_X8_65 0 rfl rfl dX8_judge_77 ?_
            refine lv_iconst (v := (3 : Int32)) hx hb dX8_judge_80 rfl ?_
            refine lv_iload_n hx hb dX8_judge_81 rfl (lv_at hl 3 rfl) ?_
            refine lv_imul hx hb dX8_judge_82 ?_
            refine lv_iconst (v := (1 : Int32)) hx hb dX8_judge_83 rfl ?_
            refine lv_iadd hx hb dX8_judge_84 ?_
            replace hf := chkI_inv hf
            obtain ⟨hi22, hf⟩ := hf
            refine r_iald C h 18 rfl hi22 dX8_judge_85 ?_
            refine lv_icmp_ne (tgt := 109) hx hb dX8_judge_86 rfl (fun c23 => ?_) (fun c23 => ?_)
            · replace hf := ifn c23 hf
              refine lv_iload_n hx hb dX8_judge_109 rfl (lv_at hl 3 rfl) ?_
              refine lv_iconst (v := (1 : Int32)) hx hb dX8_judge_110 rfl ?_
              refine lv_iadd hx hb dX8_judge_111 ?_
              cases hf
              exact r_iret C h hr hlk rfl dX8_judge_112
            · replace hf := ifp c23 hf
              refine lv_aload_n hx hb dX8_judge_89 rfl (lv_at hl 2 rfl) ?_
              refine r_get C h fk_X8_22 0 rfl rfl dX8_judge_90 ?_
              refine r_get C h fk_X8_156 19 rfl rfl dX8_judge_93 ?_
              refine lv_aload_n hx hb dX8_judge_96 rfl (lv_at hl 2 rfl) ?_
              refine r_get C h fk_X8_65 0 rfl rfl dX8_judge_97 ?_
              refine lv_iconst (v := (3 : Int32)) hx hb dX8_judge_100 rfl ?_
              refine lv_iload_n hx hb dX8_judge_101 rfl (lv_at hl 3 rfl) ?_
              refine lv_imul hx hb dX8_judge_102 ?_
              refine lv_iconst (v := (2 : Int32)) hx hb dX8_judge_103 rfl ?_
              refine lv_iadd hx hb dX8_judge_104 ?_
              replace hf := chkI_inv hf
              obtain ⟨hi24, hf⟩ := hf
              refine r_iald C h 18 rfl hi24 dX8_judge_105 ?_
              refine lv_icmp_eq (tgt := 113) hx hb dX8_judge_106 rfl (fun c25 => ?_) (fun c25 => ?_)
              · replace hf := ifp c25 hf
                obtain ⟨t26, et26⟩ : ∃ y : Int32, y = v1 + (1 : Int32) := ⟨_, rfl⟩
                replace hf := lt1_inv et26 hf
                refine lv_iinc (v := t26) (lv' := [(1, .int t26), (3, .int r15), (2, .int t8), (0, .ref h_this)]) hx hb dX8_judge_113 hl (k := 3) rfl (by rw [et26]; rfl) (by decide) rfl (fun ls hl => ?_)
                refine lv_goto (tgt := 16) hx hb dX8_judge_116 rfl ?_
                exact hK2 _ _ _ _ (ih t26 g20 y16 y17 y18 g19 hf) _ _ _ h (lv_sub hl [3, 0] rfl)
              · replace hf := ifn c25 hf
                refine lv_iload_n hx hb dX8_judge_109 rfl (lv_at hl 3 rfl) ?_
                refine lv_iconst (v := (1 : Int32)) hx hb dX8_judge_110 rfl ?_
                refine lv_iadd hx hb dX8_judge_111 ?_
                cases hf
                exact r_iret C h hr hlk rfl dX8_judge_112
          · replace hf := ifn c14 hf
            refine lv_iload_n hx hb dX8_judge_58 rfl (lv_at hl 2 rfl) ?_
            refine lv_iconst (v := (1 : Int32)) hx hb dX8_judge_59 rfl ?_
            refine lv_iadd hx hb dX8_judge_60 ?_
            cases hf
            exact r_iret C h hr hlk rfl dX8_judge_61
  refine lv_aload_n hx hb dX8_judge_0 rfl (lv_at hl 0 rfl) ?_
  refine r_get C h fk_X8_22 0 rfl rfl dX8_judge_1 ?_
  refine lv_aload_n hx hb dX8_judge_4 rfl (lv_at hl 0 rfl) ?_
  refine r_get C h fk_X8_10 0 rfl rfl dX8_judge_5 ?_
  refine r_get C h fk_X8_94 1 rfl rfl dX8_judge_8 ?_
  replace hf := bd4_inv hf
  obtain ⟨y1, y2, y3, g4, hc5, hf⟩ := hf
  refine r_cvV (ws' := [(h_this, ob 8 [.ref h_this_rock, .ref h_this_kept, .ref h_this_trial, .ref h_this_planner, .ref h_this_reader, .ref h_this_draft, .ref h_this_host, .ref h_this_thing, .ref h_this_tape, .ref h_this_rows, .int x_this_tapeCount, .int x_this_rowCount, .int x_this_isKept]), (h_this_rock, ob 3 [.ref h_this_rock_kinds, .ref h_this_rock_trims, .ref h_this_rock_lanes, .ref h_this_rock_lights, .ref h_this_rock_currents, .ref h_this_rock_buoys, .ref h_this_rock_now, .ref h_this_rock_rules, .ref h_this_rock_reports, .int x_this_rock_count, .int x_this_rock_end, .int x_this_rock_z]), (h_this_rock_buoys, ia G 6 f_this_rock_buoys), (h_this_rock_currents, ia G 6 f_this_rock_currents), (h_this_rock_kinds, ia G 6 f_this_rock_kinds), (h_this_rock_lanes, ia G 6 f_this_rock_lanes), (h_this_rock_lights, ia G 16 f_this_rock_lights), (h_this_rock_now, ob 6 [.ref h_this_rock_now_off, .int x_this_rock_now_watch, .int x_this_rock_now_score, .int x_this_rock_now_home]), (h_this_rock_now_off, ia G 6 f_this_rock_now_off), (h_this_rock_rules, ob 5 [.ref h_this_rock_rules_kinds, .ref h_this_rock_rules_deeds, .ref h_this_rock_rules_begins, .ref h_this_rock_rules_steps, .ref h_this_rock_rules_lefts, .ref h_this_rock_rules_rights, .ref h_this_rock_rules_facts, .int x_this_rock_rules_count, .int x_this_rock_rules_size]), (h_this_rock_rules_begins, ia G 9 f_this_rock_rules_begins), (h_this_rock_rules_deeds, ia G 8 f_this_rock_rules_deeds), (h_this_rock_rules_facts, ia G 5 f_this_rock_rules_facts), (h_this_rock_rules_kinds, ia G 8 f_this_rock_rules_kinds), (h_this_rock_rules_lefts, ia G 200 f_this_rock_rules_lefts), (h_this_rock_rules_rights, ia G 200 f_this_rock_rules_rights), (h_this_rock_rules_steps, ia G 200 f_this_rock_rules_steps), (h_this_rock_trims, ia G 6 f_this_rock_trims), (h_this_rows, ia G 12 f_this_rows), (h_this_trial, ob 6 [.ref h_this_trial_off, .int y1, .int y2, .int y3]), (h_this_trial_off, ia G 6 g4)]) C h (c_X6_become hc5) mv_X8_189 rfl 19 rfl [7, 8, 19, 20] rfl rfl rfl rfl rfl hl.1 rfl (Nat.le_of_ble_eq_true rfl) (rok (by decide)) dX8_judge_11 (fun H locs h => ?_)
  refine lv_iconst (v := (0 : Int32)) hx hb dX8_judge_14 rfl ?_
  refine lv_istore_n (lv' := [(1, .int (0 : Int32)), (0, .ref h_this)]) hx hb dX8_judge_15 rfl hl (by decide) rfl (fun ls hl => ?_)
  exact hK2 _ _ _ _ (L16 1000 (0 : Int32) f_this_rock_rules_facts y1 y2 y3 g4 hf) _ _ _ h (lv_sub hl [1, 0] rfl)
def f_X0_hasSheet (p0 : Int32) : Option (Int32) := (if p0 < 0 then some (0 : Int32) else (if (4 : Int32) ≤ p0 then some (0 : Int32) else some (1 : Int32)))
set_option maxRecDepth 100000 in
set_option maxHeartbeats 4000000 in
theorem c_X0_hasSheet {l : Launch} {G : Gt} {p0 : Int32} {r : Int32} (hf : f_X0_hasSheet p0 = some r) : mFi l G yX0_hasSheet cX0_hasSheet 1 .boolean 0 [.int p0] ([] : va_W) r ([] : va_W) := by
  refine mFi.of (by decide +kernel) (Nat.le_of_ble_eq_true rfl) ?_
  intro p e s m below meth c A C hr hlk h ls hl
  obtain ⟨hx, hb, hml, hown, hts⟩ := id C
  replace hl : lv_has ls 1 [(0, .int p0)] := hl
  unfold f_X0_hasSheet at hf
  refine lv_iload_n hx hb dX0_hasSheet_0 rfl (lv_at hl 0 rfl) ?_
  refine lv_if_lt (tgt := 13) hx hb dX0_hasSheet_1 rfl (fun c1 => ?_) (fun c1 => ?_)
  · replace hf := ifp c1 hf
    refine lv_iconst (v := (0 : Int32)) hx hb dX0_hasSheet_13 rfl ?_
    cases hf
    exact r_iret C h hr hlk rfl dX0_hasSheet_14
  · replace hf := ifn c1 hf
    refine lv_iload_n hx hb dX0_hasSheet_4 rfl (lv_at hl 0 rfl) ?_
    refine lv_iconst (v := (4 : Int32)) hx hb dX0_hasSheet_5 rfl ?_
    refine lv_icmp_ge (tgt := 13) hx hb dX0_hasSheet_6 rfl (fun c2 => ?_) (fun c2 => ?_)
    · replace hf := ifp c2 hf
      refine lv_iconst (v := (0 : Int32)) hx hb dX0_hasSheet_13 rfl ?_
      cases hf
      exact r_iret C h hr hlk rfl dX0_hasSheet_14
    · replace hf := ifn c2 hf
      refine lv_iconst (v := (1 : Int32)) hx hb dX0_hasSheet_9 rfl ?_
      refine lv_goto (tgt := 14) hx hb dX0_hasSheet_10 rfl ?_
      cases hf
      exact r_iret C h hr hlk rfl dX0_hasSheet_14
def f_J7_rangeCheck_23922 (p0 : Int32) (p1 : Int32) (p2 : Int32) : Option (Unit) := (if p1 ≤ p2 then (if 0 ≤ p1 then (if p2 ≤ p0 then some () else none) else none) else none)
set_option maxRecDepth 100000 in
set_option maxHeartbeats 4000000 in
theorem c_J7_rangeCheck_23922 {l : Launch} {G : Gt} {p0 : Int32} {p1 : Int32} {p2 : Int32} (hf : f_J7_rangeCheck_23922 p0 p1 p2 = some ()) : mFv l G yJ7_rangeCheck_23922 cJ7_rangeCheck_23922 3 0 [.int p0, .int p1, .int p2] ([] : va_W) ([] : va_W) := by
  refine mFv.of (by decide +kernel) (Nat.le_of_ble_eq_true rfl) ?_
  intro p e s m below meth c A C hr hlk h ls hl
  obtain ⟨hx, hb, hml, hown, hts⟩ := id C
  replace hl : lv_has ls 3 [(0, .int p0), (1, .int p1), (2, .int p2)] := hl
  unfold f_J7_rangeCheck_23922 at hf
  refine lv_iload_n hx hb dJ7_rangeCheck_23922_0 rfl (lv_at hl 1 rfl) ?_
  refine lv_iload_n hx hb dJ7_rangeCheck_23922_1 rfl (lv_at hl 2 rfl) ?_
  refine lv_icmp_le (tgt := 46) hx hb dJ7_rangeCheck_23922_2 rfl (fun c1 => ?_) (fun c1 => ?_)
  · replace hf := ifp c1 hf
    refine lv_iload_n hx hb dJ7_rangeCheck_23922_46 rfl (lv_at hl 1 rfl) ?_
    refine lv_if_ge (tgt := 59) hx hb dJ7_rangeCheck_23922_47 rfl (fun c2 => ?_) (fun c2 => ?_)
    · replace hf := ifp c2 hf
      refine lv_iload_n hx hb dJ7_rangeCheck_23922_59 rfl (lv_at hl 2 rfl) ?_
      refine lv_iload_n hx hb dJ7_rangeCheck_23922_60 rfl (lv_at hl 0 rfl) ?_
      refine lv_icmp_le (tgt := 73) hx hb dJ7_rangeCheck_23922_61 rfl (fun c3 => ?_) (fun c3 => ?_)
      · replace hf := ifp c3 hf
        cases hf
        exact r_vret C h hr hlk dJ7_rangeCheck_23922_73
      · replace hf := ifn c3 hf
        cases hf
    · replace hf := ifn c2 hf
      cases hf
  · replace hf := ifn c1 hf
    cases hf
def f_J7_fill_fda19_L10 (p2 : Int32) (p3 : Int32) (n_a0 : Nat) : Nat → Int32 → (Nat → Int32) → Option ((Nat → Int32))
  | 0, _, _ => none
  | n + 1, v4, g_a0 => (if p2 ≤ v4 then some g_a0 else chkI v4 n_a0 (lt1 (v4 + (1 : Int32)) (fun (t5 : Int32) => (f_J7_fill_fda19_L10 p2 p3 n_a0 n) t5 (upd g_a0 v4.toNatClampNeg p3))))
def f_J7_fill_fda19 (p1 : Int32) (p2 : Int32) (p3 : Int32) (n_a0 : Nat) (f_a0 : Nat → Int32) : Option ((Nat → Int32)) := bd1 (f_J7_rangeCheck_23922 (Int32.ofNat n_a0) p1 p2) (fun _ => f_J7_fill_fda19_L10 p2 p3 n_a0 1000 p1 f_a0)
set_option maxRecDepth 100000 in
set_option maxHeartbeats 4000000 in
theorem c_J7_fill_fda19 {l : Launch} {G : Gt} {h_a0 : Nat} {p1 : Int32} {p2 : Int32} {p3 : Int32} {n_a0 : Nat} {f_a0 : Nat → Int32} {m_a0 : Nat → Int32} (hf : f_J7_fill_fda19 p1 p2 p3 n_a0 f_a0 = some m_a0) : mFv l G yJ7_fill_fda19 cJ7_fill_fda19 5 1 [.ref h_a0, .int p1, .int p2, .int p3] [(h_a0, ia G n_a0 f_a0)] [(h_a0, ia G n_a0 m_a0)] := by
  refine mFv.of (by decide +kernel) (Nat.le_of_ble_eq_true rfl) ?_
  intro p e s m below meth c A C hr hlk h ls hl
  obtain ⟨hx, hb, hml, hown, hts⟩ := id C
  replace hl : lv_has ls 5 [(0, .ref h_a0), (1, .int p1), (2, .int p2), (3, .int p3)] := hl
  unfold f_J7_fill_fda19 at hf
  refine with_K G A 5 (fun K hK1 hK2 => ?_)
  have L10 : ∀ (n : Nat) (v4 : Int32) (g_a0 : Nat → Int32), f_J7_fill_fda19_L10 p2 p3 n_a0 n v4 g_a0 = some m_a0 → K 10 ([] : List Value) [(h_a0, ia G n_a0 g_a0)] [(0, .ref h_a0), (2, .int p2), (3, .int p3), (4, .int v4)] := by
    intro n
    induction n with
    | zero =>
      intro v4 g_a0 hf
      replace hf : (none : Option _) = some _ := hf
      cases hf
    | succ n ih =>
      intro v4 g_a0 hf
      rw [f_J7_fill_fda19_L10] at hf
      refine hK1 _ _ _ _ (fun H locs ls h hl => ?_)
      refine lv_iload hx hb dJ7_fill_fda19_10 (lv_at hl 3 rfl) ?_
      refine lv_iload_n hx hb dJ7_fill_fda19_12 rfl (lv_at hl 1 rfl) ?_
      refine lv_icmp_ge (tgt := 27) hx hb dJ7_fill_fda19_13 rfl (fun c3 => ?_) (fun c3 => ?_)
      · replace hf := ifp c3 hf
        cases hf
        exact r_vret C h hr hlk dJ7_fill_fda19_27
      · replace hf := ifn c3 hf
        refine lv_aload_n hx hb dJ7_fill_fda19_16 rfl (lv_at hl 0 rfl) ?_
        refine lv_iload hx hb dJ7_fill_fda19_17 (lv_at hl 3 rfl) ?_
        refine lv_iload_n hx hb dJ7_fill_fda19_19 rfl (lv_at hl 2 rfl) ?_
        replace hf := chkI_inv hf
        obtain ⟨hi4, hf⟩ := hf
        refine r_iast (ws' := [(h_a0, ia G n_a0 (upd g_a0 v4.toNatClampNeg p3))]) C h 0 rfl hi4 dJ7_fill_fda19_20 rfl (fun H locs h => ?_)
        obtain ⟨t5, et5⟩ : ∃ y : Int32, y = v4 + (1 : Int32) := ⟨_, rfl⟩
        replace hf := lt1_inv et5 hf
        refine lv_iinc (v := t5) (lv' := [(4, .int t5), (0, .ref h_a0), (2, .int p2), (3, .int p3)]) hx hb dJ7_fill_fda19_21 hl (k := 3) rfl (by rw [et5]; rfl) (by decide) rfl (fun ls hl => ?_)
        refine lv_goto (tgt := 10) hx hb dJ7_fill_fda19_24 rfl ?_
        exact hK2 _ _ _ _ (ih t5 (upd g_a0 v4.toNatClampNeg p3) hf) _ _ _ h (lv_sub hl [1, 2, 3, 0] rfl)
  refine lv_aload_n hx hb dJ7_fill_fda19_0 rfl (lv_at hl 0 rfl) ?_
  refine r_alen C h 0 rfl dJ7_fill_fda19_1 ?_
  refine lv_iload_n hx hb dJ7_fill_fda19_2 rfl (lv_at hl 1 rfl) ?_
  refine lv_iload_n hx hb dJ7_fill_fda19_3 rfl (lv_at hl 2 rfl) ?_
  replace hf := bd1_inv hf
  obtain ⟨u2, hc1, hf⟩ := hf
  refine r_cvS0 C h (c_J7_rangeCheck_23922 hc1) ms_J7_13 rfl [] rfl rfl hl.1 rfl (Nat.le_of_ble_eq_true rfl) (rok (by decide)) dJ7_fill_fda19_4 (fun H locs h => ?_)
  refine lv_iload_n hx hb dJ7_fill_fda19_7 rfl (lv_at hl 1 rfl) ?_
  refine lv_istore (lv' := [(4, .int p1), (0, .ref h_a0), (1, .int p1), (2, .int p2), (3, .int p3)]) hx hb dJ7_fill_fda19_8 hl (by decide) rfl (fun ls hl => ?_)
  exact hK2 _ _ _ _ (L10 1000 p1 f_a0 hf) _ _ _ h (lv_sub hl [1, 3, 4, 0] rfl)
def f_X0_lay_b22 (p0 : Int32) (f_this_items : Nat → Int32) (f_this_sizes : Nat → Int32) (s1 : Int32) (s2 : Int32) (g_this_sorts : Nat → Int32) : Option ((Nat → Int32) × (Nat → Int32) × (Nat → Int32)) := chkI s1 4 (bd1 (f_J7_fill_fda19 (p0 * (40 : Int32)) ((p0 + (1 : Int32)) * (40 : Int32)) (0 : Int32) 160 f_this_items) (fun g4 => some (g4, upd f_this_sizes s1.toNatClampNeg s2, g_this_sorts)))
def f_X0_lay (p0 : Int32) (p1 : Int32) (p2 : Int32) (f_this_items : Nat → Int32) (f_this_sizes : Nat → Int32) (f_this_sorts : Nat → Int32) : Option ((Nat → Int32) × (Nat → Int32) × (Nat → Int32)) := chkI p0 4 ((if p1 = (-1 : Int32) then f_X0_lay_b22 p0 f_this_items f_this_sizes p0 (0 : Int32) (upd f_this_sorts p0.toNatClampNeg p1) else f_X0_lay_b22 p0 f_this_items f_this_sizes p0 p2 (upd f_this_sorts p0.toNatClampNeg p1)))
set_option maxRecDepth 100000 in
set_option maxHeartbeats 4000000 in
theorem c_X0_lay {l : Launch} {G : Gt} {h_this h_this_sorts h_this_sizes h_this_items h_this_holds h_this_shelfShips h_this_shelfSorts h_this_shelfSizes : Nat} {p0 : Int32} {p1 : Int32} {p2 : Int32} {f_this_items : Nat → Int32} {f_this_sizes : Nat → Int32} {f_this_sorts : Nat → Int32} {m_this_items : Nat → Int32} {m_this_sizes : Nat → Int32} {m_this_sorts : Nat → Int32} (hf : f_X0_lay p0 p1 p2 f_this_items f_this_sizes f_this_sorts = some (m_this_items, m_this_sizes, m_this_sorts)) : mFv l G yX0_lay cX0_lay 4 2 [.ref h_this, .int p0, .int p1, .int p2] [(h_this, ob 0 [.ref h_this_sorts, .ref h_this_sizes, .ref h_this_items, .ref h_this_holds, .ref h_this_shelfShips, .ref h_this_shelfSorts, .ref h_this_shelfSizes]), (h_this_items, ia G 160 f_this_items), (h_this_sizes, ia G 4 f_this_sizes), (h_this_sorts, ia G 4 f_this_sorts)] [(h_this, ob 0 [.ref h_this_sorts, .ref h_this_sizes, .ref h_this_items, .ref h_this_holds, .ref h_this_shelfShips, .ref h_this_shelfSorts, .ref h_this_shelfSizes]), (h_this_items, ia G 160 m_this_items), (h_this_sizes, ia G 4 m_this_sizes), (h_this_sorts, ia G 4 m_this_sorts)] := by
  refine mFv.of (by decide +kernel) (Nat.le_of_ble_eq_true rfl) ?_
  intro p e s m below meth c A C hr hlk h ls hl
  obtain ⟨hx, hb, hml, hown, hts⟩ := id C
  replace hl : lv_has ls 4 [(0, .ref h_this), (1, .int p0), (2, .int p1), (3, .int p2)] := hl
  unfold f_X0_lay at hf
  refine with_K G A 4 (fun K hK1 hK2 => ?_)
  have B22 : ∀ (s1 : Int32) (s2 : Int32) (g_this_sorts : Nat → Int32), f_X0_lay_b22 p0 f_this_items f_this_sizes s1 s2 g_this_sorts = some (m_this_items, m_this_sizes, m_this_sorts) → K 22 [.int s2, .int s1, .ref h_this_sizes] [(h_this, ob 0 [.ref h_this_sorts, .ref h_this_sizes, .ref h_this_items, .ref h_this_holds, .ref h_this_shelfShips, .ref h_this_shelfSorts, .ref h_this_shelfSizes]), (h_this_items, ia G 160 f_this_items), (h_this_sizes, ia G 4 f_this_sizes), (h_this_sorts, ia G 4 g_this_sorts)] [(0, .ref h_this), (1, .int p0)] := by
    intro s1 s2 g_this_sorts hf
    unfold f_X0_lay_b22 at hf
    refine hK1 _ _ _ _ (fun H locs ls h hl => ?_)
    replace hf := chkI_inv hf
    obtain ⟨hi3, hf⟩ := hf
    refine r_iast (ws' := [(h_this, ob 0 [.ref h_this_sorts, .ref h_this_sizes, .ref h_this_items, .ref h_this_holds, .ref h_this_shelfShips, .ref h_this_shelfSorts, .ref h_this_shelfSizes]), (h_this_items, ia G 160 f_this_items), (h_this_sizes, ia G 4 (upd f_this_sizes s1.toNatClampNeg s2)), (h_this_sorts, ia G 4 g_this_sorts)]) C h 2 rfl hi3 dX0_lay_22 rfl (fun H locs h => ?_)
    refine lv_aload_n hx hb dX0_lay_23 rfl (lv_at hl 0 rfl) ?_
    refine r_get C h fk_X0_18 0 rfl rfl dX0_lay_24 ?_
    refine lv_iload_n hx hb dX0_lay_27 rfl (lv_at hl 1 rfl) ?_
    refine lv_bipush (v := (40 : Int32)) hx hb dX0_lay_28 rfl ?_
    refine lv_imul hx hb dX0_lay_30 ?_
    refine lv_iload_n hx hb dX0_lay_31 rfl (lv_at hl 1 rfl) ?_
    refine lv_iconst (v := (1 : Int32)) hx hb dX0_lay_32 rfl ?_
    refine lv_iadd hx hb dX0_lay_33 ?_
    refine lv_bipush (v := (40 : Int32)) hx hb dX0_lay_34 rfl ?_
    refine lv_imul hx hb dX0_lay_36 ?_
    refine lv_iconst (v := (0 : Int32)) hx hb dX0_lay_37 rfl ?_
    replace hf := bd1_inv hf
    obtain ⟨g4, hc5, hf⟩ := hf
    refine r_cvS (ws' := [(h_this, ob 0 [.ref h_this_sorts, .ref h_this_sizes, .ref h_this_items, .ref h_this_holds, .ref h_this_shelfShips, .ref h_this_shelfSorts, .ref h_this_shelfSizes]), (h_this_items, ia G 160 g4), (h_this_sizes, ia G 4 (upd f_this_sizes s1.toNatClampNeg s2)), (h_this_sorts, ia G 4 g_this_sorts)]) C h (c_J7_fill_fda19 hc5) ms_X0_43 rfl [1] rfl rfl rfl rfl rfl hl.1 rfl (Nat.le_of_ble_eq_true rfl) (rok (by decide)) dX0_lay_38 (fun H locs h => ?_)
    cases hf
    exact r_vret C h hr hlk dX0_lay_41
  refine lv_aload_n hx hb dX0_lay_0 rfl (lv_at hl 0 rfl) ?_
  refine r_get C h fk_X0_9 0 rfl rfl dX0_lay_1 ?_
  refine lv_iload_n hx hb dX0_lay_4 rfl (lv_at hl 1 rfl) ?_
  refine lv_iload_n hx hb dX0_lay_5 rfl (lv_at hl 2 rfl) ?_
  replace hf := chkI_inv hf
  obtain ⟨hi1, hf⟩ := hf
  refine r_iast (ws' := [(h_this, ob 0 [.ref h_this_sorts, .ref h_this_sizes, .ref h_this_items, .ref h_this_holds, .ref h_this_shelfShips, .ref h_this_shelfSorts, .ref h_this_shelfSizes]), (h_this_items, ia G 160 f_this_items), (h_this_sizes, ia G 4 f_this_sizes), (h_this_sorts, ia G 4 (upd f_this_sorts p0.toNatClampNeg p1))]) C h 3 rfl hi1 dX0_lay_6 rfl (fun H locs h => ?_)
  refine lv_aload_n hx hb dX0_lay_7 rfl (lv_at hl 0 rfl) ?_
  refine r_get C h fk_X0_15 0 rfl rfl dX0_lay_8 ?_
  refine lv_iload_n hx hb dX0_lay_11 rfl (lv_at hl 1 rfl) ?_
  refine lv_iload_n hx hb dX0_lay_12 rfl (lv_at hl 2 rfl) ?_
  refine lv_iconst (v := (-1 : Int32)) hx hb dX0_lay_13 rfl ?_
  refine lv_icmp_ne (tgt := 21) hx hb dX0_lay_14 rfl (fun c2 => ?_) (fun c2 => ?_)
  · replace hf := ifn c2 hf
    refine lv_iload_n hx hb dX0_lay_21 rfl (lv_at hl 3 rfl) ?_
    exact hK2 _ _ _ _ (B22 p0 p2 (upd f_this_sorts p0.toNatClampNeg p1) hf) _ _ _ h (lv_sub hl [0, 1] rfl)
  · replace hf := ifp c2 hf
    refine lv_iconst (v := (0 : Int32)) hx hb dX0_lay_17 rfl ?_
    refine lv_goto (tgt := 22) hx hb dX0_lay_18 rfl ?_
    exact hK2 _ _ _ _ (B22 p0 (0 : Int32) (upd f_this_sorts p0.toNatClampNeg p1) hf) _ _ _ h (lv_sub hl [0, 1] rfl)
def f_X8_sheet_b31 (p0 : Int32) (p1 : Int32) (p2 : Int32) (f_this_host_items : Nat → Int32) (f_this_host_sizes : Nat → Int32) (f_this_host_sorts : Nat → Int32) : Option (Int32 × (Nat → Int32) × (Nat → Int32) × (Nat → Int32)) := (if p1 = (-1 : Int32) then bd3 (f_X0_lay p0 p1 p2 f_this_host_items f_this_host_sizes f_this_host_sorts) (fun g9 g10 g11 => some ((1 : Int32), g9, g10, g11)) else (if 0 ≤ p2 then bd3 (f_X0_lay p0 p1 p2 f_this_host_items f_this_host_sizes f_this_host_sorts) (fun g14 g15 g16 => some ((1 : Int32), g14, g15, g16)) else some ((-14 : Int32), f_this_host_items, f_this_host_sizes, f_this_host_sorts)))
def f_X8_sheet (p0 : Int32) (p1 : Int32) (p2 : Int32) (f_this_host_items : Nat → Int32) (f_this_host_sizes : Nat → Int32) (f_this_host_sorts : Nat → Int32) : Option (Int32 × (Nat → Int32) × (Nat → Int32) × (Nat → Int32)) := bd1 (f_X0_hasSheet p0) (fun r1 => (if r1 = 0 then some ((-1 : Int32), f_this_host_items, f_this_host_sizes, f_this_host_sorts) else bd1 (f_X8_within p1 (-1 : Int32) (4 : Int32)) (fun r4 => (if r4 = 0 then some ((-1 : Int32), f_this_host_items, f_this_host_sizes, f_this_host_sorts) else (if p1 = (-1 : Int32) then f_X8_sheet_b31 p0 p1 p2 f_this_host_items f_this_host_sizes f_this_host_sorts else (if p2 ≤ (40 : Int32) then f_X8_sheet_b31 p0 p1 p2 f_this_host_items f_this_host_sizes f_this_host_sorts else some ((-1 : Int32), f_this_host_items, f_this_host_sizes, f_this_host_sorts)))))))
set_option maxRecDepth 100000 in
set_option maxHeartbeats 4000000 in
theorem c_X8_sheet {l : Launch} {G : Gt} {h_this h_this_rock h_this_kept h_this_trial h_this_planner h_this_reader h_this_draft h_this_host h_this_thing h_this_tape h_this_rows h_this_host_sorts h_this_host_sizes h_this_host_items h_this_host_holds h_this_host_shelfShips h_this_host_shelfSorts h_this_host_shelfSizes : Nat} {p0 : Int32} {p1 : Int32} {p2 : Int32} {x_this_tapeCount : Int32} {x_this_rowCount : Int32} {x_this_isKept : Int32} {f_this_host_items : Nat → Int32} {f_this_host_sizes : Nat → Int32} {f_this_host_sorts : Nat → Int32} {r : Int32} {m_this_host_items : Nat → Int32} {m_this_host_sizes : Nat → Int32} {m_this_host_sorts : Nat → Int32} (hf : f_X8_sheet p0 p1 p2 f_this_host_items f_this_host_sizes f_this_host_sorts = some (r, m_this_host_items, m_this_host_sizes, m_this_host_sorts)) : mFi l G yX8_sheet cX8_sheet 4 .int 3 [.ref h_this, .int p0, .int p1, .int p2] [(h_this, ob 8 [.ref h_this_rock, .ref h_this_kept, .ref h_this_trial, .ref h_this_planner, .ref h_this_reader, .ref h_this_draft, .ref h_this_host, .ref h_this_thing, .ref h_this_tape, .ref h_this_rows, .int x_this_tapeCount, .int x_this_rowCount, .int x_this_isKept]), (h_this_host, ob 0 [.ref h_this_host_sorts, .ref h_this_host_sizes, .ref h_this_host_items, .ref h_this_host_holds, .ref h_this_host_shelfShips, .ref h_this_host_shelfSorts, .ref h_this_host_shelfSizes]), (h_this_host_items, ia G 160 f_this_host_items), (h_this_host_sizes, ia G 4 f_this_host_sizes), (h_this_host_sorts, ia G 4 f_this_host_sorts)] r [(h_this, ob 8 [.ref h_this_rock, .ref h_this_kept, .ref h_this_trial, .ref h_this_planner, .ref h_this_reader, .ref h_this_draft, .ref h_this_host, .ref h_this_thing, .ref h_this_tape, .ref h_this_rows, .int x_this_tapeCount, .int x_this_rowCount, .int x_this_isKept]), (h_this_host, ob 0 [.ref h_this_host_sorts, .ref h_this_host_sizes, .ref h_this_host_items, .ref h_this_host_holds, .ref h_this_host_shelfShips, .ref h_this_host_shelfSorts, .ref h_this_host_shelfSizes]), (h_this_host_items, ia G 160 m_this_host_items), (h_this_host_sizes, ia G 4 m_this_host_sizes), (h_this_host_sorts, ia G 4 m_this_host_sorts)] := by
  refine mFi.of (by decide +kernel) (Nat.le_of_ble_eq_true rfl) ?_
  intro p e s m below meth c A C hr hlk h ls hl
  obtain ⟨hx, hb, hml, hown, hts⟩ := id C
  replace hl : lv_has ls 4 [(0, .ref h_this), (1, .int p0), (2, .int p1), (3, .int p2)] := hl
  unfold f_X8_sheet at hf
  refine with_K G A 4 (fun K hK1 hK2 => ?_)
  have B31 : f_X8_sheet_b31 p0 p1 p2 f_this_host_items f_this_host_sizes f_this_host_sorts = some (r, m_this_host_items, m_this_host_sizes, m_this_host_sorts) → K 31 ([] : List Value) [(h_this, ob 8 [.ref h_this_rock, .ref h_this_kept, .ref h_this_trial, .ref h_this_planner, .ref h_this_reader, .ref h_this_draft, .ref h_this_host, .ref h_this_thing, .ref h_this_tape, .ref h_this_rows, .int x_this_tapeCount, .int x_this_rowCount, .int x_this_isKept]), (h_this_host, ob 0 [.ref h_this_host_sorts, .ref h_this_host_sizes, .ref h_this_host_items, .ref h_this_host_holds, .ref h_this_host_shelfShips, .ref h_this_host_shelfSorts, .ref h_this_host_shelfSizes]), (h_this_host_items, ia G 160 f_this_host_items), (h_this_host_sizes, ia G 4 f_this_host_sizes), (h_this_host_sorts, ia G 4 f_this_host_sorts)] [(0, .ref h_this), (1, .int p0), (2, .int p1), (3, .int p2)] := by
    intro hf
    unfold f_X8_sheet_b31 at hf
    refine hK1 _ _ _ _ (fun H locs ls h hl => ?_)
    refine lv_iload_n hx hb dX8_sheet_31 rfl (lv_at hl 2 rfl) ?_
    refine lv_iconst (v := (-1 : Int32)) hx hb dX8_sheet_32 rfl ?_
    refine lv_icmp_eq (tgt := 43) hx hb dX8_sheet_33 rfl (fun c8 => ?_) (fun c8 => ?_)
    · replace hf := ifp c8 hf
      refine lv_aload_n hx hb dX8_sheet_43 rfl (lv_at hl 0 rfl) ?_
      refine r_get C h fk_X8_50 0 rfl rfl dX8_sheet_44 ?_
      refine lv_iload_n hx hb dX8_sheet_47 rfl (lv_at hl 1 rfl) ?_
      refine lv_iload_n hx hb dX8_sheet_48 rfl (lv_at hl 2 rfl) ?_
      refine lv_iload_n hx hb dX8_sheet_49 rfl (lv_at hl 3 rfl) ?_
      replace hf := bd3_inv hf
      obtain ⟨g9, g10, g11, hc12, hf⟩ := hf
      refine r_cvV (ws' := [(h_this, ob 8 [.ref h_this_rock, .ref h_this_kept, .ref h_this_trial, .ref h_this_planner, .ref h_this_reader, .ref h_this_draft, .ref h_this_host, .ref h_this_thing, .ref h_this_tape, .ref h_this_rows, .int x_this_tapeCount, .int x_this_rowCount, .int x_this_isKept]), (h_this_host, ob 0 [.ref h_this_host_sorts, .ref h_this_host_sizes, .ref h_this_host_items, .ref h_this_host_holds, .ref h_this_host_shelfShips, .ref h_this_host_shelfSorts, .ref h_this_host_shelfSizes]), (h_this_host_items, ia G 160 g9), (h_this_host_sizes, ia G 4 g10), (h_this_host_sorts, ia G 4 g11)]) C h (c_X0_lay hc12) mv_X8_300 rfl 1 rfl [1, 2, 3, 4] rfl rfl rfl rfl rfl hl.1 rfl (Nat.le_of_ble_eq_true rfl) (rok (by decide)) dX8_sheet_50 (fun H locs h => ?_)
      refine lv_iconst (v := (1 : Int32)) hx hb dX8_sheet_53 rfl ?_
      cases hf
      exact r_iret C h hr hlk rfl dX8_sheet_54
    · replace hf := ifn c8 hf
      refine lv_iload_n hx hb dX8_sheet_36 rfl (lv_at hl 3 rfl) ?_
      refine lv_if_ge (tgt := 43) hx hb dX8_sheet_37 rfl (fun c13 => ?_) (fun c13 => ?_)
      · replace hf := ifp c13 hf
        refine lv_aload_n hx hb dX8_sheet_43 rfl (lv_at hl 0 rfl) ?_
        refine r_get C h fk_X8_50 0 rfl rfl dX8_sheet_44 ?_
        refine lv_iload_n hx hb dX8_sheet_47 rfl (lv_at hl 1 rfl) ?_
        refine lv_iload_n hx hb dX8_sheet_48 rfl (lv_at hl 2 rfl) ?_
        refine lv_iload_n hx hb dX8_sheet_49 rfl (lv_at hl 3 rfl) ?_
        replace hf := bd3_inv hf
        obtain ⟨g14, g15, g16, hc17, hf⟩ := hf
        refine r_cvV (ws' := [(h_this, ob 8 [.ref h_this_rock, .ref h_this_kept, .ref h_this_trial, .ref h_this_planner, .ref h_this_reader, .ref h_this_draft, .ref h_this_host, .ref h_this_thing, .ref h_this_tape, .ref h_this_rows, .int x_this_tapeCount, .int x_this_rowCount, .int x_this_isKept]), (h_this_host, ob 0 [.ref h_this_host_sorts, .ref h_this_host_sizes, .ref h_this_host_items, .ref h_this_host_holds, .ref h_this_host_shelfShips, .ref h_this_host_shelfSorts, .ref h_this_host_shelfSizes]), (h_this_host_items, ia G 160 g14), (h_this_host_sizes, ia G 4 g15), (h_this_host_sorts, ia G 4 g16)]) C h (c_X0_lay hc17) mv_X8_300 rfl 1 rfl [1, 2, 3, 4] rfl rfl rfl rfl rfl hl.1 rfl (Nat.le_of_ble_eq_true rfl) (rok (by decide)) dX8_sheet_50 (fun H locs h => ?_)
        refine lv_iconst (v := (1 : Int32)) hx hb dX8_sheet_53 rfl ?_
        cases hf
        exact r_iret C h hr hlk rfl dX8_sheet_54
      · replace hf := ifn c13 hf
        refine lv_bipush (v := (-14 : Int32)) hx hb dX8_sheet_40 rfl ?_
        cases hf
        exact r_iret C h hr hlk rfl dX8_sheet_42
  refine lv_iload_n hx hb dX8_sheet_0 rfl (lv_at hl 1 rfl) ?_
  replace hf := bd1_inv hf
  obtain ⟨r1, hc2, hf⟩ := hf
  refine r_ciS0 C h (c_X0_hasSheet hc2) ms_X8_297 rfl [] rfl rfl hl.1 rfl (Nat.le_of_ble_eq_true rfl) (rok (by decide)) dX8_sheet_1 (fun H locs h => ?_)
  refine lv_if_eq (tgt := 16) hx hb dX8_sheet_4 rfl (fun c3 => ?_) (fun c3 => ?_)
  · replace hf := ifp c3 hf
    refine lv_iconst (v := (-1 : Int32)) hx hb dX8_sheet_16 rfl ?_
    cases hf
    exact r_iret C h hr hlk rfl dX8_sheet_17
  · replace hf := ifn c3 hf
    refine lv_iload_n hx hb dX8_sheet_7 rfl (lv_at hl 2 rfl) ?_
    refine lv_iconst (v := (-1 : Int32)) hx hb dX8_sheet_8 rfl ?_
    refine lv_iconst (v := (4 : Int32)) hx hb dX8_sheet_9 rfl ?_
    replace hf := bd1_inv hf
    obtain ⟨r4, hc5, hf⟩ := hf
    refine r_ciS0 C h (c_X8_within hc5) ms_X8_79 rfl [] rfl rfl hl.1 rfl (Nat.le_of_ble_eq_true rfl) (rok (by decide)) dX8_sheet_10 (fun H locs h => ?_)
    refine lv_if_ne (tgt := 18) hx hb dX8_sheet_13 rfl (fun c6 => ?_) (fun c6 => ?_)
    · replace hf := ifn c6 hf
      refine lv_iload_n hx hb dX8_sheet_18 rfl (lv_at hl 2 rfl) ?_
      refine lv_iconst (v := (-1 : Int32)) hx hb dX8_sheet_19 rfl ?_
      refine lv_icmp_eq (tgt := 31) hx hb dX8_sheet_20 rfl (fun c7 => ?_) (fun c7 => ?_)
      · replace hf := ifp c7 hf
        exact hK2 _ _ _ _ (B31 hf) _ _ _ h (lv_sub hl [0, 1, 2, 3] rfl)
      · replace hf := ifn c7 hf
        refine lv_iload_n hx hb dX8_sheet_23 rfl (lv_at hl 3 rfl) ?_
        refine lv_bipush (v := (40 : Int32)) hx hb dX8_sheet_24 rfl ?_
        refine lv_icmp_le (tgt := 31) hx hb dX8_sheet_26 rfl (fun c18 => ?_) (fun c18 => ?_)
        · replace hf := ifp c18 hf
          exact hK2 _ _ _ _ (B31 hf) _ _ _ h (lv_sub hl [0, 1, 2, 3] rfl)
        · replace hf := ifn c18 hf
          refine lv_iconst (v := (-1 : Int32)) hx hb dX8_sheet_29 rfl ?_
          cases hf
          exact r_iret C h hr hlk rfl dX8_sheet_30
    · replace hf := ifp c6 hf
      refine lv_iconst (v := (-1 : Int32)) hx hb dX8_sheet_16 rfl ?_
      cases hf
      exact r_iret C h hr hlk rfl dX8_sheet_17
def f_X0_isMissing (p0 : Int32) (f_this_sorts : Nat → Int32) : Option (Int32) := chkI p0 4 ((if (f_this_sorts p0.toNatClampNeg) = (-1 : Int32) then some (1 : Int32) else some (0 : Int32)))
set_option maxRecDepth 100000 in
set_option maxHeartbeats 4000000 in
theorem c_X0_isMissing {l : Launch} {G : Gt} {h_this h_this_sorts h_this_sizes h_this_items h_this_holds h_this_shelfShips h_this_shelfSorts h_this_shelfSizes : Nat} {p0 : Int32} {f_this_sorts : Nat → Int32} {r : Int32} (hf : f_X0_isMissing p0 f_this_sorts = some r) : mFi l G yX0_isMissing cX0_isMissing 2 .boolean 0 [.ref h_this, .int p0] [(h_this, ob 0 [.ref h_this_sorts, .ref h_this_sizes, .ref h_this_items, .ref h_this_holds, .ref h_this_shelfShips, .ref h_this_shelfSorts, .ref h_this_shelfSizes]), (h_this_sorts, ia G 4 f_this_sorts)] r [(h_this, ob 0 [.ref h_this_sorts, .ref h_this_sizes, .ref h_this_items, .ref h_this_holds, .ref h_this_shelfShips, .ref h_this_shelfSorts, .ref h_this_shelfSizes]), (h_this_sorts, ia G 4 f_this_sorts)] := by
  refine mFi.of (by decide +kernel) (Nat.le_of_ble_eq_true rfl) ?_
  intro p e s m below meth c A C hr hlk h ls hl
  obtain ⟨hx, hb, hml, hown, hts⟩ := id C
  replace hl : lv_has ls 2 [(0, .ref h_this), (1, .int p0)] := hl
  unfold f_X0_isMissing at hf
  refine lv_aload_n hx hb dX0_isMissing_0 rfl (lv_at hl 0 rfl) ?_
  refine r_get C h fk_X0_9 0 rfl rfl dX0_isMissing_1 ?_
  refine lv_iload_n hx hb dX0_isMissing_4 rfl (lv_at hl 1 rfl) ?_
  replace hf := chkI_inv hf
  obtain ⟨hi1, hf⟩ := hf
  refine r_iald C h 1 rfl hi1 dX0_isMissing_5 ?_
  refine lv_iconst (v := (-1 : Int32)) hx hb dX0_isMissing_6 rfl ?_
  refine lv_icmp_ne (tgt := 14) hx hb dX0_isMissing_7 rfl (fun c2 => ?_) (fun c2 => ?_)
  · replace hf := ifn c2 hf
    refine lv_iconst (v := (0 : Int32)) hx hb dX0_isMissing_14 rfl ?_
    cases hf
    exact r_iret C h hr hlk rfl dX0_isMissing_15
  · replace hf := ifp c2 hf
    refine lv_iconst (v := (1 : Int32)) hx hb dX0_isMissing_10 rfl ?_
    refine lv_goto (tgt := 15) hx hb dX0_isMissing_11 rfl ?_
    cases hf
    exact r_iret C h hr hlk rfl dX0_isMissing_15
def f_X0_hasItem (p0 : Int32) (p1 : Int32) (f_this_sizes : Nat → Int32) : Option (Int32) := (if p1 < 0 then some (0 : Int32) else chkI p0 4 ((if (f_this_sizes p0.toNatClampNeg) ≤ p1 then some (0 : Int32) else some (1 : Int32))))
set_option maxRecDepth 100000 in
set_option maxHeartbeats 4000000 in
theorem c_X0_hasItem {l : Launch} {G : Gt} {h_this h_this_sorts h_this_sizes h_this_items h_this_holds h_this_shelfShips h_this_shelfSorts h_this_shelfSizes : Nat} {p0 : Int32} {p1 : Int32} {f_this_sizes : Nat → Int32} {r : Int32} (hf : f_X0_hasItem p0 p1 f_this_sizes = some r) : mFi l G yX0_hasItem cX0_hasItem 3 .boolean 0 [.ref h_this, .int p0, .int p1] [(h_this, ob 0 [.ref h_this_sorts, .ref h_this_sizes, .ref h_this_items, .ref h_this_holds, .ref h_this_shelfShips, .ref h_this_shelfSorts, .ref h_this_shelfSizes]), (h_this_sizes, ia G 4 f_this_sizes)] r [(h_this, ob 0 [.ref h_this_sorts, .ref h_this_sizes, .ref h_this_items, .ref h_this_holds, .ref h_this_shelfShips, .ref h_this_shelfSorts, .ref h_this_shelfSizes]), (h_this_sizes, ia G 4 f_this_sizes)] := by
  refine mFi.of (by decide +kernel) (Nat.le_of_ble_eq_true rfl) ?_
  intro p e s m below meth c A C hr hlk h ls hl
  obtain ⟨hx, hb, hml, hown, hts⟩ := id C
  replace hl : lv_has ls 3 [(0, .ref h_this), (1, .int p0), (2, .int p1)] := hl
  unfold f_X0_hasItem at hf
  refine lv_iload_n hx hb dX0_hasItem_0 rfl (lv_at hl 2 rfl) ?_
  refine lv_if_lt (tgt := 18) hx hb dX0_hasItem_1 rfl (fun c1 => ?_) (fun c1 => ?_)
  · replace hf := ifp c1 hf
    refine lv_iconst (v := (0 : Int32)) hx hb dX0_hasItem_18 rfl ?_
    cases hf
    exact r_iret C h hr hlk rfl dX0_hasItem_19
  · replace hf := ifn c1 hf
    refine lv_iload_n hx hb dX0_hasItem_4 rfl (lv_at hl 2 rfl) ?_
    refine lv_aload_n hx hb dX0_hasItem_5 rfl (lv_at hl 0 rfl) ?_
    refine r_get C h fk_X0_15 0 rfl rfl dX0_hasItem_6 ?_
    refine lv_iload_n hx hb dX0_hasItem_9 rfl (lv_at hl 1 rfl) ?_
    replace hf := chkI_inv hf
    obtain ⟨hi2, hf⟩ := hf
    refine r_iald C h 1 rfl hi2 dX0_hasItem_10 ?_
    refine lv_icmp_ge (tgt := 18) hx hb dX0_hasItem_11 rfl (fun c3 => ?_) (fun c3 => ?_)
    · replace hf := ifp c3 hf
      refine lv_iconst (v := (0 : Int32)) hx hb dX0_hasItem_18 rfl ?_
      cases hf
      exact r_iret C h hr hlk rfl dX0_hasItem_19
    · replace hf := ifn c3 hf
      refine lv_iconst (v := (1 : Int32)) hx hb dX0_hasItem_14 rfl ?_
      refine lv_goto (tgt := 19) hx hb dX0_hasItem_15 rfl ?_
      cases hf
      exact r_iret C h hr hlk rfl dX0_hasItem_19
def f_X0_narrowed (p0 : Int32) (p1 : Int32) : Option (Int32) := (if p0 = (0 : Int32) then some (p1.toInt8.toInt32) else (if p0 = (1 : Int32) then some (p1.toInt16.toInt32) else (if p0 = (2 : Int32) then some p1 else (if p0 = (3 : Int32) then some p1 else (if p0 = (4 : Int32) then (if p1 = 0 then some (0 : Int32) else some (1 : Int32)) else some p1)))))
set_option maxRecDepth 100000 in
set_option maxHeartbeats 4000000 in
theorem c_X0_narrowed {l : Launch} {G : Gt} {p0 : Int32} {p1 : Int32} {r : Int32} (hf : f_X0_narrowed p0 p1 = some r) : mFi l G yX0_narrowed cX0_narrowed 2 .int 0 [.int p0, .int p1] ([] : va_W) r ([] : va_W) := by
  refine mFi.of (by decide +kernel) (Nat.le_of_ble_eq_true rfl) ?_
  intro p e s m below meth c A C hr hlk h ls hl
  obtain ⟨hx, hb, hml, hown, hts⟩ := id C
  replace hl : lv_has ls 2 [(0, .int p0), (1, .int p1)] := hl
  unfold f_X0_narrowed at hf
  refine lv_iload_n hx hb dX0_narrowed_0 rfl (lv_at hl 0 rfl) ?_
  by_cases c1 : p0 = (0 : Int32)
  · replace hf := ifp c1 hf
    refine r_tab (tgt := 36) C dX0_narrowed_1 (0 : Int32) c1 (by decide) rfl rfl ?_
    refine lv_iload_n hx hb dX0_narrowed_36 rfl (lv_at hl 1 rfl) ?_
    refine lv_i2b hx hb dX0_narrowed_37 rfl ?_
    cases hf
    exact r_iret C h hr hlk rfl dX0_narrowed_38
  · replace hf := ifn c1 hf
    by_cases c2 : p0 = (1 : Int32)
    · replace hf := ifp c2 hf
      refine r_tab (tgt := 39) C dX0_narrowed_1 (1 : Int32) c2 (by decide) rfl rfl ?_
      refine lv_iload_n hx hb dX0_narrowed_39 rfl (lv_at hl 1 rfl) ?_
      refine lv_i2s hx hb dX0_narrowed_40 rfl ?_
      cases hf
      exact r_iret C h hr hlk rfl dX0_narrowed_41
    · replace hf := ifn c2 hf
      by_cases c3 : p0 = (2 : Int32)
      · replace hf := ifp c3 hf
        refine r_tab (tgt := 52) C dX0_narrowed_1 (2 : Int32) c3 (by decide) rfl rfl ?_
        refine lv_iload_n hx hb dX0_narrowed_52 rfl (lv_at hl 1 rfl) ?_
        cases hf
        exact r_iret C h hr hlk rfl dX0_narrowed_53
      · replace hf := ifn c3 hf
        by_cases c4 : p0 = (3 : Int32)
        · replace hf := ifp c4 hf
          refine r_tab (tgt := 52) C dX0_narrowed_1 (3 : Int32) c4 (by decide) rfl rfl ?_
          refine lv_iload_n hx hb dX0_narrowed_52 rfl (lv_at hl 1 rfl) ?_
          cases hf
          exact r_iret C h hr hlk rfl dX0_narrowed_53
        · replace hf := ifn c4 hf
          by_cases c5 : p0 = (4 : Int32)
          · replace hf := ifp c5 hf
            refine r_tab (tgt := 42) C dX0_narrowed_1 (4 : Int32) c5 (by decide) rfl rfl ?_
            refine lv_iload_n hx hb dX0_narrowed_42 rfl (lv_at hl 1 rfl) ?_
            refine lv_if_eq (tgt := 50) hx hb dX0_narrowed_43 rfl (fun c6 => ?_) (fun c6 => ?_)
            · replace hf := ifp c6 hf
              refine lv_iconst (v := (0 : Int32)) hx hb dX0_narrowed_50 rfl ?_
              cases hf
              exact r_iret C h hr hlk rfl dX0_narrowed_51
            · replace hf := ifn c6 hf
              refine lv_iconst (v := (1 : Int32)) hx hb dX0_narrowed_46 rfl ?_
              refine lv_goto (tgt := 51) hx hb dX0_narrowed_47 rfl ?_
              cases hf
              exact r_iret C h hr hlk rfl dX0_narrowed_51
          · replace hf := ifn c5 hf
            refine r_tabD (tgt := 52) C dX0_narrowed_1 [(0 : Int32), (1 : Int32), (2 : Int32), (3 : Int32), (4 : Int32)] (by decide) (nel_c c1 (nel_c c2 (nel_c c3 (nel_c c4 (nel_c c5 nel_0))))) rfl ?_
            refine lv_iload_n hx hb dX0_narrowed_52 rfl (lv_at hl 1 rfl) ?_
            cases hf
            exact r_iret C h hr hlk rfl dX0_narrowed_53
def f_X0_put (p0 : Int32) (p1 : Int32) (p2 : Int32) (f_this_items : Nat → Int32) (f_this_sorts : Nat → Int32) : Option ((Nat → Int32)) := chkI p0 4 (bd1 (f_X0_narrowed (f_this_sorts p0.toNatClampNeg) p2) (fun r2 => chkI ((p0 * (40 : Int32)) + p1) 160 (some (upd f_this_items ((p0 * (40 : Int32)) + p1).toNatClampNeg r2))))
set_option maxRecDepth 100000 in
set_option maxHeartbeats 4000000 in
theorem c_X0_put {l : Launch} {G : Gt} {h_this h_this_sorts h_this_sizes h_this_items h_this_holds h_this_shelfShips h_this_shelfSorts h_this_shelfSizes : Nat} {p0 : Int32} {p1 : Int32} {p2 : Int32} {f_this_items : Nat → Int32} {f_this_sorts : Nat → Int32} {m_this_items : Nat → Int32} (hf : f_X0_put p0 p1 p2 f_this_items f_this_sorts = some m_this_items) : mFv l G yX0_put cX0_put 4 1 [.ref h_this, .int p0, .int p1, .int p2] [(h_this, ob 0 [.ref h_this_sorts, .ref h_this_sizes, .ref h_this_items, .ref h_this_holds, .ref h_this_shelfShips, .ref h_this_shelfSorts, .ref h_this_shelfSizes]), (h_this_items, ia G 160 f_this_items), (h_this_sorts, ia G 4 f_this_sorts)] [(h_this, ob 0 [.ref h_this_sorts, .ref h_this_sizes, .ref h_this_items, .ref h_this_holds, .ref h_this_shelfShips, .ref h_this_shelfSorts, .ref h_this_shelfSizes]), (h_this_items, ia G 160 m_this_items), (h_this_sorts, ia G 4 f_this_sorts)] := by
  refine mFv.of (by decide +kernel) (Nat.le_of_ble_eq_true rfl) ?_
  intro p e s m below meth c A C hr hlk h ls hl
  obtain ⟨hx, hb, hml, hown, hts⟩ := id C
  replace hl : lv_has ls 4 [(0, .ref h_this), (1, .int p0), (2, .int p1), (3, .int p2)] := hl
  unfold f_X0_put at hf
  refine lv_aload_n hx hb dX0_put_0 rfl (lv_at hl 0 rfl) ?_
  refine r_get C h fk_X0_18 0 rfl rfl dX0_put_1 ?_
  refine lv_iload_n hx hb dX0_put_4 rfl (lv_at hl 1 rfl) ?_
  refine lv_bipush (v := (40 : Int32)) hx hb dX0_put_5 rfl ?_
  refine lv_imul hx hb dX0_put_7 ?_
  refine lv_iload_n hx hb dX0_put_8 rfl (lv_at hl 2 rfl) ?_
  refine lv_iadd hx hb dX0_put_9 ?_
  refine lv_aload_n hx hb dX0_put_10 rfl (lv_at hl 0 rfl) ?_
  refine r_get C h fk_X0_9 0 rfl rfl dX0_put_11 ?_
  refine lv_iload_n hx hb dX0_put_14 rfl (lv_at hl 1 rfl) ?_
  replace hf := chkI_inv hf
  obtain ⟨hi1, hf⟩ := hf
  refine r_iald C h 2 rfl hi1 dX0_put_15 ?_
  refine lv_iload_n hx hb dX0_put_16 rfl (lv_at hl 3 rfl) ?_
  replace hf := bd1_inv hf
  obtain ⟨r2, hc3, hf⟩ := hf
  refine r_ciS0 C h (c_X0_narrowed hc3) ms_X0_46 rfl [] rfl rfl hl.1 rfl (Nat.le_of_ble_eq_true rfl) (rok (by decide)) dX0_put_17 (fun H locs h => ?_)
  replace hf := chkI_inv hf
  obtain ⟨hi4, hf⟩ := hf
  refine r_iast (ws' := [(h_this, ob 0 [.ref h_this_sorts, .ref h_this_sizes, .ref h_this_items, .ref h_this_holds, .ref h_this_shelfShips, .ref h_this_shelfSorts, .ref h_this_shelfSizes]), (h_this_items, ia G 160 (upd f_this_items ((p0 * (40 : Int32)) + p1).toNatClampNeg r2)), (h_this_sorts, ia G 4 f_this_sorts)]) C h 1 rfl hi4 dX0_put_20 rfl (fun H locs h => ?_)
  cases hf
  exact r_vret C h hr hlk dX0_put_21
def f_X8_write (p0 : Int32) (p1 : Int32) (p2 : Int32) (f_this_host_items : Nat → Int32) (f_this_host_sizes : Nat → Int32) (f_this_host_sorts : Nat → Int32) : Option (Int32 × (Nat → Int32)) := bd1 (f_X0_hasSheet p0) (fun r1 => (if r1 = 0 then some ((-1 : Int32), f_this_host_items) else bd1 (f_X0_isMissing p0 f_this_host_sorts) (fun r4 => (if r4 = 0 then bd1 (f_X0_hasItem p0 p1 f_this_host_sizes) (fun r7 => (if r7 = 0 then some ((-12 : Int32), f_this_host_items) else bd1 (f_X0_put p0 p1 p2 f_this_host_items f_this_host_sorts) (fun g10 => some ((1 : Int32), g10)))) else some ((-11 : Int32), f_this_host_items)))))
set_option maxRecDepth 100000 in
set_option maxHeartbeats 4000000 in
theorem c_X8_write {l : Launch} {G : Gt} {h_this h_this_rock h_this_kept h_this_trial h_this_planner h_this_reader h_this_draft h_this_host h_this_thing h_this_tape h_this_rows h_this_host_sorts h_this_host_sizes h_this_host_items h_this_host_holds h_this_host_shelfShips h_this_host_shelfSorts h_this_host_shelfSizes : Nat} {p0 : Int32} {p1 : Int32} {p2 : Int32} {x_this_tapeCount : Int32} {x_this_rowCount : Int32} {x_this_isKept : Int32} {f_this_host_items : Nat → Int32} {f_this_host_sizes : Nat → Int32} {f_this_host_sorts : Nat → Int32} {r : Int32} {m_this_host_items : Nat → Int32} (hf : f_X8_write p0 p1 p2 f_this_host_items f_this_host_sizes f_this_host_sorts = some (r, m_this_host_items)) : mFi l G yX8_write cX8_write 4 .int 2 [.ref h_this, .int p0, .int p1, .int p2] [(h_this, ob 8 [.ref h_this_rock, .ref h_this_kept, .ref h_this_trial, .ref h_this_planner, .ref h_this_reader, .ref h_this_draft, .ref h_this_host, .ref h_this_thing, .ref h_this_tape, .ref h_this_rows, .int x_this_tapeCount, .int x_this_rowCount, .int x_this_isKept]), (h_this_host, ob 0 [.ref h_this_host_sorts, .ref h_this_host_sizes, .ref h_this_host_items, .ref h_this_host_holds, .ref h_this_host_shelfShips, .ref h_this_host_shelfSorts, .ref h_this_host_shelfSizes]), (h_this_host_items, ia G 160 f_this_host_items), (h_this_host_sizes, ia G 4 f_this_host_sizes), (h_this_host_sorts, ia G 4 f_this_host_sorts)] r [(h_this, ob 8 [.ref h_this_rock, .ref h_this_kept, .ref h_this_trial, .ref h_this_planner, .ref h_this_reader, .ref h_this_draft, .ref h_this_host, .ref h_this_thing, .ref h_this_tape, .ref h_this_rows, .int x_this_tapeCount, .int x_this_rowCount, .int x_this_isKept]), (h_this_host, ob 0 [.ref h_this_host_sorts, .ref h_this_host_sizes, .ref h_this_host_items, .ref h_this_host_holds, .ref h_this_host_shelfShips, .ref h_this_host_shelfSorts, .ref h_this_host_shelfSizes]), (h_this_host_items, ia G 160 m_this_host_items), (h_this_host_sizes, ia G 4 f_this_host_sizes), (h_this_host_sorts, ia G 4 f_this_host_sorts)] := by
  refine mFi.of (by decide +kernel) (Nat.le_of_ble_eq_true rfl) ?_
  intro p e s m below meth c A C hr hlk h ls hl
  obtain ⟨hx, hb, hml, hown, hts⟩ := id C
  replace hl : lv_has ls 4 [(0, .ref h_this), (1, .int p0), (2, .int p1), (3, .int p2)] := hl
  unfold f_X8_write at hf
  refine lv_iload_n hx hb dX8_write_0 rfl (lv_at hl 1 rfl) ?_
  replace hf := bd1_inv hf
  obtain ⟨r1, hc2, hf⟩ := hf
  refine r_ciS0 C h (c_X0_hasSheet hc2) ms_X8_297 rfl [] rfl rfl hl.1 rfl (Nat.le_of_ble_eq_true rfl) (rok (by decide)) dX8_write_1 (fun H locs h => ?_)
  refine lv_if_ne (tgt := 9) hx hb dX8_write_4 rfl (fun c3 => ?_) (fun c3 => ?_)
  · replace hf := ifn c3 hf
    refine lv_aload_n hx hb dX8_write_9 rfl (lv_at hl 0 rfl) ?_
    refine r_get C h fk_X8_50 0 rfl rfl dX8_write_10 ?_
    refine lv_iload_n hx hb dX8_write_13 rfl (lv_at hl 1 rfl) ?_
    replace hf := bd1_inv hf
    obtain ⟨r4, hc5, hf⟩ := hf
    refine r_ciV0 C h (c_X0_isMissing hc5) mv_X8_304 rfl 1 rfl [1, 4] rfl rfl hl.1 rfl (Nat.le_of_ble_eq_true rfl) (rok (by decide)) dX8_write_14 (fun H locs h => ?_)
    refine lv_if_eq (tgt := 23) hx hb dX8_write_17 rfl (fun c6 => ?_) (fun c6 => ?_)
    · replace hf := ifp c6 hf
      refine lv_aload_n hx hb dX8_write_23 rfl (lv_at hl 0 rfl) ?_
      refine r_get C h fk_X8_50 0 rfl rfl dX8_write_24 ?_
      refine lv_iload_n hx hb dX8_write_27 rfl (lv_at hl 1 rfl) ?_
      refine lv_iload_n hx hb dX8_write_28 rfl (lv_at hl 2 rfl) ?_
      replace hf := bd1_inv hf
      obtain ⟨r7, hc8, hf⟩ := hf
      refine r_ciV0 C h (c_X0_hasItem hc8) mv_X8_307 rfl 1 rfl [1, 3] rfl rfl hl.1 rfl (Nat.le_of_ble_eq_true rfl) (rok (by decide)) dX8_write_29 (fun H locs h => ?_)
      refine lv_if_ne (tgt := 38) hx hb dX8_write_32 rfl (fun c9 => ?_) (fun c9 => ?_)
      · replace hf := ifn c9 hf
        refine lv_aload_n hx hb dX8_write_38 rfl (lv_at hl 0 rfl) ?_
        refine r_get C h fk_X8_50 0 rfl rfl dX8_write_39 ?_
        refine lv_iload_n hx hb dX8_write_42 rfl (lv_at hl 1 rfl) ?_
        refine lv_iload_n hx hb dX8_write_43 rfl (lv_at hl 2 rfl) ?_
        refine lv_iload_n hx hb dX8_write_44 rfl (lv_at hl 3 rfl) ?_
        replace hf := bd1_inv hf
        obtain ⟨g10, hc11, hf⟩ := hf
        refine r_cvV (ws' := [(h_this, ob 8 [.ref h_this_rock, .ref h_this_kept, .ref h_this_trial, .ref h_this_planner, .ref h_this_reader, .ref h_this_draft, .ref h_this_host, .ref h_this_thing, .ref h_this_tape, .ref h_this_rows, .int x_this_tapeCount, .int x_this_rowCount, .int x_this_isKept]), (h_this_host, ob 0 [.ref h_this_host_sorts, .ref h_this_host_sizes, .ref h_this_host_items, .ref h_this_host_holds, .ref h_this_host_shelfShips, .ref h_this_host_shelfSorts, .ref h_this_host_shelfSizes]), (h_this_host_items, ia G 160 g10), (h_this_host_sizes, ia G 4 f_this_host_sizes), (h_this_host_sorts, ia G 4 f_this_host_sorts)]) C h (c_X0_put hc11) mv_X8_310 rfl 1 rfl [1, 2, 4] rfl rfl rfl rfl rfl hl.1 rfl (Nat.le_of_ble_eq_true rfl) (rok (by decide)) dX8_write_45 (fun H locs h => ?_)
        refine lv_iconst (v := (1 : Int32)) hx hb dX8_write_48 rfl ?_
        cases hf
        exact r_iret C h hr hlk rfl dX8_write_49
      · replace hf := ifp c9 hf
        refine lv_bipush (v := (-12 : Int32)) hx hb dX8_write_35 rfl ?_
        cases hf
        exact r_iret C h hr hlk rfl dX8_write_37
    · replace hf := ifn c6 hf
      refine lv_bipush (v := (-11 : Int32)) hx hb dX8_write_20 rfl ?_
      cases hf
      exact r_iret C h hr hlk rfl dX8_write_22
  · replace hf := ifp c3 hf
    refine lv_iconst (v := (-1 : Int32)) hx hb dX8_write_7 rfl ?_
    cases hf
    exact r_iret C h hr hlk rfl dX8_write_8
def f_X0_refusalOf (p0 : Int32) (p1 : Int32) (f_this_sorts : Nat → Int32) : Option (Int32) := bd1 (f_X0_isMissing p0 f_this_sorts) (fun r1 => (if r1 = 0 then chkI p0 4 ((if (f_this_sorts p0.toNatClampNeg) = p1 then some (0 : Int32) else some (-13 : Int32))) else some (-11 : Int32)))
set_option maxRecDepth 100000 in
set_option maxHeartbeats 4000000 in
theorem c_X0_refusalOf {l : Launch} {G : Gt} {h_this h_this_sorts h_this_sizes h_this_items h_this_holds h_this_shelfShips h_this_shelfSorts h_this_shelfSizes : Nat} {p0 : Int32} {p1 : Int32} {f_this_sorts : Nat → Int32} {r : Int32} (hf : f_X0_refusalOf p0 p1 f_this_sorts = some r) : mFi l G yX0_refusalOf cX0_refusalOf 3 .int 1 [.ref h_this, .int p0, .int p1] [(h_this, ob 0 [.ref h_this_sorts, .ref h_this_sizes, .ref h_this_items, .ref h_this_holds, .ref h_this_shelfShips, .ref h_this_shelfSorts, .ref h_this_shelfSizes]), (h_this_sorts, ia G 4 f_this_sorts)] r [(h_this, ob 0 [.ref h_this_sorts, .ref h_this_sizes, .ref h_this_items, .ref h_this_holds, .ref h_this_shelfShips, .ref h_this_shelfSorts, .ref h_this_shelfSizes]), (h_this_sorts, ia G 4 f_this_sorts)] := by
  refine mFi.of (by decide +kernel) (Nat.le_of_ble_eq_true rfl) ?_
  intro p e s m below meth c A C hr hlk h ls hl
  obtain ⟨hx, hb, hml, hown, hts⟩ := id C
  replace hl : lv_has ls 3 [(0, .ref h_this), (1, .int p0), (2, .int p1)] := hl
  unfold f_X0_refusalOf at hf
  refine lv_aload_n hx hb dX0_refusalOf_0 rfl (lv_at hl 0 rfl) ?_
  refine lv_iload_n hx hb dX0_refusalOf_1 rfl (lv_at hl 1 rfl) ?_
  replace hf := bd1_inv hf
  obtain ⟨r1, hc2, hf⟩ := hf
  refine r_ciV0 C h (c_X0_isMissing hc2) mv_X0_39 rfl 0 rfl [0, 1] rfl rfl hl.1 rfl (Nat.le_of_ble_eq_true rfl) (rok (by decide)) dX0_refusalOf_2 (fun H locs h => ?_)
  refine lv_if_eq (tgt := 11) hx hb dX0_refusalOf_5 rfl (fun c3 => ?_) (fun c3 => ?_)
  · replace hf := ifp c3 hf
    refine lv_aload_n hx hb dX0_refusalOf_11 rfl (lv_at hl 0 rfl) ?_
    refine r_get C h fk_X0_9 0 rfl rfl dX0_refusalOf_12 ?_
    refine lv_iload_n hx hb dX0_refusalOf_15 rfl (lv_at hl 1 rfl) ?_
    replace hf := chkI_inv hf
    obtain ⟨hi4, hf⟩ := hf
    refine r_iald C h 1 rfl hi4 dX0_refusalOf_16 ?_
    refine lv_iload_n hx hb dX0_refusalOf_17 rfl (lv_at hl 2 rfl) ?_
    refine lv_icmp_ne (tgt := 25) hx hb dX0_refusalOf_18 rfl (fun c5 => ?_) (fun c5 => ?_)
    · replace hf := ifn c5 hf
      refine lv_bipush (v := (-13 : Int32)) hx hb dX0_refusalOf_25 rfl ?_
      cases hf
      exact r_iret C h hr hlk rfl dX0_refusalOf_27
    · replace hf := ifp c5 hf
      refine lv_iconst (v := (0 : Int32)) hx hb dX0_refusalOf_21 rfl ?_
      refine lv_goto (tgt := 27) hx hb dX0_refusalOf_22 rfl ?_
      cases hf
      exact r_iret C h hr hlk rfl dX0_refusalOf_27
  · replace hf := ifn c3 hf
    refine lv_bipush (v := (-11 : Int32)) hx hb dX0_refusalOf_8 rfl ?_
    cases hf
    exact r_iret C h hr hlk rfl dX0_refusalOf_10
def f_X0_get (p0 : Int32) (p1 : Int32) (f_this_items : Nat → Int32) : Option (Int32) := chkI ((p0 * (40 : Int32)) + p1) 160 (some (f_this_items ((p0 * (40 : Int32)) + p1).toNatClampNeg))
set_option maxRecDepth 100000 in
set_option maxHeartbeats 4000000 in
theorem c_X0_get {l : Launch} {G : Gt} {h_this h_this_sorts h_this_sizes h_this_items h_this_holds h_this_shelfShips h_this_shelfSorts h_this_shelfSizes : Nat} {p0 : Int32} {p1 : Int32} {f_this_items : Nat → Int32} {r : Int32} (hf : f_X0_get p0 p1 f_this_items = some r) : mFi l G yX0_get cX0_get 3 .int 0 [.ref h_this, .int p0, .int p1] [(h_this, ob 0 [.ref h_this_sorts, .ref h_this_sizes, .ref h_this_items, .ref h_this_holds, .ref h_this_shelfShips, .ref h_this_shelfSorts, .ref h_this_shelfSizes]), (h_this_items, ia G 160 f_this_items)] r [(h_this, ob 0 [.ref h_this_sorts, .ref h_this_sizes, .ref h_this_items, .ref h_this_holds, .ref h_this_shelfShips, .ref h_this_shelfSorts, .ref h_this_shelfSizes]), (h_this_items, ia G 160 f_this_items)] := by
  refine mFi.of (by decide +kernel) (Nat.le_of_ble_eq_true rfl) ?_
  intro p e s m below meth c A C hr hlk h ls hl
  obtain ⟨hx, hb, hml, hown, hts⟩ := id C
  replace hl : lv_has ls 3 [(0, .ref h_this), (1, .int p0), (2, .int p1)] := hl
  unfold f_X0_get at hf
  refine lv_aload_n hx hb dX0_get_0 rfl (lv_at hl 0 rfl) ?_
  refine r_get C h fk_X0_18 0 rfl rfl dX0_get_1 ?_
  refine lv_iload_n hx hb dX0_get_4 rfl (lv_at hl 1 rfl) ?_
  refine lv_bipush (v := (40 : Int32)) hx hb dX0_get_5 rfl ?_
  refine lv_imul hx hb dX0_get_7 ?_
  refine lv_iload_n hx hb dX0_get_8 rfl (lv_at hl 2 rfl) ?_
  refine lv_iadd hx hb dX0_get_9 ?_
  replace hf := chkI_inv hf
  obtain ⟨hi1, hf⟩ := hf
  refine r_iald C h 1 rfl hi1 dX0_get_10 ?_
  cases hf
  exact r_iret C h hr hlk rfl dX0_get_11
def f_X8_item (p0 : Int32) (p1 : Int32) (p2 : Int32) (f_this_host_items : Nat → Int32) (f_this_host_sizes : Nat → Int32) (f_this_host_sorts : Nat → Int32) : Option (Int32) := bd1 (f_X0_hasSheet p0) (fun r1 => (if r1 = 0 then some (-1 : Int32) else bd1 (f_X8_within p1 (0 : Int32) (4 : Int32)) (fun r4 => (if r4 = 0 then some (-1 : Int32) else bd1 (f_X0_refusalOf p0 p1 f_this_host_sorts) (fun r7 => (if r7 = 0 then bd1 (f_X0_hasItem p0 p2 f_this_host_sizes) (fun r10 => (if r10 = 0 then some (-12 : Int32) else bd1 (f_X0_get p0 p2 f_this_host_items) (fun r13 => some r13))) else some r7))))))
set_option maxRecDepth 100000 in
set_option maxHeartbeats 4000000 in
theorem c_X8_item {l : Launch} {G : Gt} {h_this h_this_rock h_this_kept h_this_trial h_this_planner h_this_reader h_this_draft h_this_host h_this_thing h_this_tape h_this_rows h_this_host_sorts h_this_host_sizes h_this_host_items h_this_host_holds h_this_host_shelfShips h_this_host_shelfSorts h_this_host_shelfSizes : Nat} {p0 : Int32} {p1 : Int32} {p2 : Int32} {x_this_tapeCount : Int32} {x_this_rowCount : Int32} {x_this_isKept : Int32} {f_this_host_items : Nat → Int32} {f_this_host_sizes : Nat → Int32} {f_this_host_sorts : Nat → Int32} {r : Int32} (hf : f_X8_item p0 p1 p2 f_this_host_items f_this_host_sizes f_this_host_sorts = some r) : mFi l G yX8_item cX8_item 5 .int 2 [.ref h_this, .int p0, .int p1, .int p2] [(h_this, ob 8 [.ref h_this_rock, .ref h_this_kept, .ref h_this_trial, .ref h_this_planner, .ref h_this_reader, .ref h_this_draft, .ref h_this_host, .ref h_this_thing, .ref h_this_tape, .ref h_this_rows, .int x_this_tapeCount, .int x_this_rowCount, .int x_this_isKept]), (h_this_host, ob 0 [.ref h_this_host_sorts, .ref h_this_host_sizes, .ref h_this_host_items, .ref h_this_host_holds, .ref h_this_host_shelfShips, .ref h_this_host_shelfSorts, .ref h_this_host_shelfSizes]), (h_this_host_items, ia G 160 f_this_host_items), (h_this_host_sizes, ia G 4 f_this_host_sizes), (h_this_host_sorts, ia G 4 f_this_host_sorts)] r [(h_this, ob 8 [.ref h_this_rock, .ref h_this_kept, .ref h_this_trial, .ref h_this_planner, .ref h_this_reader, .ref h_this_draft, .ref h_this_host, .ref h_this_thing, .ref h_this_tape, .ref h_this_rows, .int x_this_tapeCount, .int x_this_rowCount, .int x_this_isKept]), (h_this_host, ob 0 [.ref h_this_host_sorts, .ref h_this_host_sizes, .ref h_this_host_items, .ref h_this_host_holds, .ref h_this_host_shelfShips, .ref h_this_host_shelfSorts, .ref h_this_host_shelfSizes]), (h_this_host_items, ia G 160 f_this_host_items), (h_this_host_sizes, ia G 4 f_this_host_sizes), (h_this_host_sorts, ia G 4 f_this_host_sorts)] := by
  refine mFi.of (by decide +kernel) (Nat.le_of_ble_eq_true rfl) ?_
  intro p e s m below meth c A C hr hlk h ls hl
  obtain ⟨hx, hb, hml, hown, hts⟩ := id C
  replace hl : lv_has ls 5 [(0, .ref h_this), (1, .int p0), (2, .int p1), (3, .int p2)] := hl
  unfold f_X8_item at hf
  refine lv_iload_n hx hb dX8_item_0 rfl (lv_at hl 1 rfl) ?_
  replace hf := bd1_inv hf
  obtain ⟨r1, hc2, hf⟩ := hf
  refine r_ciS0 C h (c_X0_hasSheet hc2) ms_X8_297 rfl [] rfl rfl hl.1 rfl (Nat.le_of_ble_eq_true rfl) (rok (by decide)) dX8_item_1 (fun H locs h => ?_)
  refine lv_if_eq (tgt := 16) hx hb dX8_item_4 rfl (fun c3 => ?_) (fun c3 => ?_)
  · replace hf := ifp c3 hf
    refine lv_iconst (v := (-1 : Int32)) hx hb dX8_item_16 rfl ?_
    cases hf
    exact r_iret C h hr hlk rfl dX8_item_17
  · replace hf := ifn c3 hf
    refine lv_iload_n hx hb dX8_item_7 rfl (lv_at hl 2 rfl) ?_
    refine lv_iconst (v := (0 : Int32)) hx hb dX8_item_8 rfl ?_
    refine lv_iconst (v := (4 : Int32)) hx hb dX8_item_9 rfl ?_
    replace hf := bd1_inv hf
    obtain ⟨r4, hc5, hf⟩ := hf
    refine r_ciS0 C h (c_X8_within hc5) ms_X8_79 rfl [] rfl rfl hl.1 rfl (Nat.le_of_ble_eq_true rfl) (rok (by decide)) dX8_item_10 (fun H locs h => ?_)
    refine lv_if_ne (tgt := 18) hx hb dX8_item_13 rfl (fun c6 => ?_) (fun c6 => ?_)
    · replace hf := ifn c6 hf
      refine lv_aload_n hx hb dX8_item_18 rfl (lv_at hl 0 rfl) ?_
      refine r_get C h fk_X8_50 0 rfl rfl dX8_item_19 ?_
      refine lv_iload_n hx hb dX8_item_22 rfl (lv_at hl 1 rfl) ?_
      refine lv_iload_n hx hb dX8_item_23 rfl (lv_at hl 2 rfl) ?_
      replace hf := bd1_inv hf
      obtain ⟨r7, hc8, hf⟩ := hf
      refine r_ciV0 C h (c_X0_refusalOf hc8) mv_X8_312 rfl 1 rfl [1, 4] rfl rfl hl.1 rfl (Nat.le_of_ble_eq_true rfl) (rok (by decide)) dX8_item_24 (fun H locs h => ?_)
      refine lv_istore (lv' := [(4, .int r7), (0, .ref h_this), (1, .int p0), (2, .int p1), (3, .int p2)]) hx hb dX8_item_27 hl (by decide) rfl (fun ls hl => ?_)
      refine lv_iload hx hb dX8_item_29 (lv_at hl 0 rfl) ?_
      refine lv_if_eq (tgt := 37) hx hb dX8_item_31 rfl (fun c9 => ?_) (fun c9 => ?_)
      · replace hf := ifp c9 hf
        refine lv_aload_n hx hb dX8_item_37 rfl (lv_at hl 1 rfl) ?_
        refine r_get C h fk_X8_50 0 rfl rfl dX8_item_38 ?_
        refine lv_iload_n hx hb dX8_item_41 rfl (lv_at hl 2 rfl) ?_
        refine lv_iload_n hx hb dX8_item_42 rfl (lv_at hl 4 rfl) ?_
        replace hf := bd1_inv hf
        obtain ⟨r10, hc11, hf⟩ := hf
        refine r_ciV0 C h (c_X0_hasItem hc11) mv_X8_307 rfl 1 rfl [1, 3] rfl rfl hl.1 rfl (Nat.le_of_ble_eq_true rfl) (rok (by decide)) dX8_item_43 (fun H locs h => ?_)
        refine lv_if_eq (tgt := 61) hx hb dX8_item_46 rfl (fun c12 => ?_) (fun c12 => ?_)
        · replace hf := ifp c12 hf
          refine lv_bipush (v := (-12 : Int32)) hx hb dX8_item_61 rfl ?_
          cases hf
          exact r_iret C h hr hlk rfl dX8_item_63
        · replace hf := ifn c12 hf
          refine lv_aload_n hx hb dX8_item_49 rfl (lv_at hl 1 rfl) ?_
          refine r_get C h fk_X8_50 0 rfl rfl dX8_item_50 ?_
          refine lv_iload_n hx hb dX8_item_53 rfl (lv_at hl 2 rfl) ?_
          refine lv_iload_n hx hb dX8_item_54 rfl (lv_at hl 4 rfl) ?_
          replace hf := bd1_inv hf
          obtain ⟨r13, hc14, hf⟩ := hf
          refine r_ciV0 C h (c_X0_get hc14) mv_X8_315 rfl 1 rfl [1, 2] rfl rfl hl.1 rfl (Nat.le_of_ble_eq_true rfl) (rok (by decide)) dX8_item_55 (fun H locs h => ?_)
          refine lv_goto (tgt := 63) hx hb dX8_item_58 rfl ?_
          cases hf
          exact r_iret C h hr hlk rfl dX8_item_63
      · replace hf := ifn c9 hf
        refine lv_iload hx hb dX8_item_34 (lv_at hl 0 rfl) ?_
        cases hf
        exact r_iret C h hr hlk rfl dX8_item_36
    · replace hf := ifp c6 hf
      refine lv_iconst (v := (-1 : Int32)) hx hb dX8_item_16 rfl ?_
      cases hf
      exact r_iret C h hr hlk rfl dX8_item_17
def f_X8_goAll_L44 (p0 : Int32) (p1 : Int32) (p2 : Int32) (f_this_host_items : Nat → Int32) (f_this_host_sizes : Nat → Int32) (x_this_rock_count : Int32) (x_this_rock_end : Int32) (f_this_rock_buoys : Nat → Int32) (f_this_rock_currents : Nat → Int32) (f_this_rock_kinds : Nat → Int32) (f_this_rock_lanes : Nat → Int32) (f_this_rock_lights : Nat → Int32) (x_this_rock_rules_count : Int32) (f_this_rock_rules_begins : Nat → Int32) (f_this_rock_rules_deeds : Nat → Int32) (f_this_rock_rules_kinds : Nat → Int32) (f_this_rock_rules_lefts : Nat → Int32) (f_this_rock_rules_rights : Nat → Int32) (f_this_rock_rules_steps : Nat → Int32) (f_this_rock_trims : Nat → Int32) : Nat → Int32 → Int32 → Int32 → Int32 → Int32 → (Nat → Int32) → (Nat → Int32) → Option (Int32 × Int32 × Int32 × Int32 × (Nat → Int32) × (Nat → Int32))
  | 0, _, _, _, _, _, _, _ => none
  | n + 1, v5, v6, y_this_rock_now_watch, y_this_rock_now_score, y_this_rock_now_home, g_this_rock_now_off, g_this_rock_rules_facts => (if p2 ≤ v6 then some (v5, y_this_rock_now_watch, y_this_rock_now_score, y_this_rock_now_home, g_this_rock_now_off, g_this_rock_rules_facts) else bd1 (f_X0_hasItem p0 (p1 + v6) f_this_host_sizes) (fun r11 => (if r11 = 0 then some ((-12 : Int32), y_this_rock_now_watch, y_this_rock_now_score, y_this_rock_now_home, g_this_rock_now_off, g_this_rock_rules_facts) else bd1 (f_X0_get p0 (p1 + v6) f_this_host_items) (fun r14 => bd1 (f_X3_hasAct r14 x_this_rock_count) (fun r16 => (if r16 = 0 then lt1 (v6 + (1 : Int32)) (fun (t19 : Int32) => (f_X8_goAll_L44 p0 p1 p2 f_this_host_items f_this_host_sizes x_this_rock_count x_this_rock_end f_this_rock_buoys f_this_rock_currents f_this_rock_kinds f_this_rock_lanes f_this_rock_lights x_this_rock_rules_count f_this_rock_rules_begins f_this_rock_rules_deeds f_this_rock_rules_kinds f_this_rock_rules_lefts f_this_rock_rules_rights f_this_rock_rules_steps f_this_rock_trims n) v5 t19 y_this_rock_now_watch y_this_rock_now_score y_this_rock_now_home g_this_rock_now_off g_this_rock_rules_facts) else bd1 (f_X3_isOver y_this_rock_now_watch x_this_rock_end) (fun r20 => (if r20 = 0 then bd6 (f_X3_pass r14 y_this_rock_now_watch y_this_rock_now_score y_this_rock_now_home g_this_rock_now_off x_this_rock_count f_this_rock_buoys f_this_rock_currents f_this_rock_kinds f_this_rock_lanes f_this_rock_lights x_this_rock_rules_count f_this_rock_rules_begins f_this_rock_rules_deeds g_this_rock_rules_facts f_this_rock_rules_kinds f_this_rock_rules_lefts f_this_rock_rules_rights f_this_rock_rules_steps f_this_rock_trims) (fun r24 y25 y26 y27 g28 g29 => lt1 (v5 + r24) (fun (t31 : Int32) => lt1 (v6 + (1 : Int32)) (fun (t32 : Int32) => (f_X8_goAll_L44 p0 p1 p2 f_this_host_items f_this_host_sizes x_this_rock_count x_this_rock_end f_this_rock_buoys f_this_rock_currents f_this_rock_kinds f_this_rock_lanes f_this_rock_lights x_this_rock_rules_count f_this_rock_rules_begins f_this_rock_rules_deeds f_this_rock_rules_kinds f_this_rock_rules_lefts f_this_rock_rules_rights f_this_rock_rules_steps f_this_rock_trims n) t31 t32 y25 y26 y27 g28 g29))) else lt1 (v6 + (1 : Int32)) (fun (t23 : Int32) => (f_X8_goAll_L44 p0 p1 p2 f_this_host_items f_this_host_sizes x_this_rock_count x_this_rock_end f_this_rock_buoys f_this_rock_currents f_this_rock_kinds f_this_rock_lanes f_this_rock_lights x_this_rock_rules_count f_this_rock_rules_begins f_this_rock_rules_deeds f_this_rock_rules_kinds f_this_rock_rules_lefts f_this_rock_rules_rights f_this_rock_rules_steps f_this_rock_trims n) v5 t23 y_this_rock_now_watch y_this_rock_now_score y_this_rock_now_home g_this_rock_now_off g_this_rock_rules_facts)))))))))
def f_X8_goAll (p0 : Int32) (p1 : Int32) (p2 : Int32) (f_this_host_items : Nat → Int32) (f_this_host_sizes : Nat → Int32) (f_this_host_sorts : Nat → Int32) (x_this_rock_count : Int32) (x_this_rock_end : Int32) (f_this_rock_buoys : Nat → Int32) (f_this_rock_currents : Nat → Int32) (f_this_rock_kinds : Nat → Int32) (f_this_rock_lanes : Nat → Int32) (f_this_rock_lights : Nat → Int32) (x_this_rock_now_watch : Int32) (x_this_rock_now_score : Int32) (x_this_rock_now_home : Int32) (f_this_rock_now_off : Nat → Int32) (x_this_rock_rules_count : Int32) (f_this_rock_rules_begins : Nat → Int32) (f_this_rock_rules_deeds : Nat → Int32) (f_this_rock_rules_facts : Nat → Int32) (f_this_rock_rules_kinds : Nat → Int32) (f_this_rock_rules_lefts : Nat → Int32) (f_this_rock_rules_rights : Nat → Int32) (f_this_rock_rules_steps : Nat → Int32) (f_this_rock_trims : Nat → Int32) : Option (Int32 × Int32 × Int32 × Int32 × (Nat → Int32) × (Nat → Int32)) := bd1 (f_X0_hasSheet p0) (fun r1 => (if r1 = 0 then some ((-1 : Int32), x_this_rock_now_watch, x_this_rock_now_score, x_this_rock_now_home, f_this_rock_now_off, f_this_rock_rules_facts) else bd1 (f_X8_within p2 (0 : Int32) (20 : Int32)) (fun r4 => (if r4 = 0 then some ((-1 : Int32), x_this_rock_now_watch, x_this_rock_now_score, x_this_rock_now_home, f_this_rock_now_off, f_this_rock_rules_facts) else bd1 (f_X0_refusalOf p0 (0 : Int32) f_this_host_sorts) (fun r7 => (if r7 = 0 then f_X8_goAll_L44 p0 p1 p2 f_this_host_items f_this_host_sizes x_this_rock_count x_this_rock_end f_this_rock_buoys f_this_rock_currents f_this_rock_kinds f_this_rock_lanes f_this_rock_lights x_this_rock_rules_count f_this_rock_rules_begins f_this_rock_rules_deeds f_this_rock_rules_kinds f_this_rock_rules_lefts f_this_rock_rules_rights f_this_rock_rules_steps f_this_rock_trims 1000 (0 : Int32) (0 : Int32) x_this_rock_now_watch x_this_rock_now_score x_this_rock_now_home f_this_rock_now_off f_this_rock_rules_facts else some (r7, x_this_rock_now_watch, x_this_rock_now_score, x_this_rock_now_home, f_this_rock_now_off, f_this_rock_rules_facts)))))))
set_option maxRecDepth 100000 in
set_option maxHeartbeats 4000000 in
theorem c_X8_goAll {l : Launch} {G : Gt} {h_this h_this_rock h_this_kept h_this_trial h_this_planner h_this_reader h_this_draft h_this_host h_this_thing h_this_tape h_this_rows h_this_host_sorts h_this_host_sizes h_this_host_items h_this_host_holds h_this_host_shelfShips h_this_host_shelfSorts h_this_host_shelfSizes h_this_rock_kinds h_this_rock_trims h_this_rock_lanes h_this_rock_lights h_this_rock_currents h_this_rock_buoys h_this_rock_now h_this_rock_rules h_this_rock_reports h_this_rock_now_off h_this_rock_rules_kinds h_this_rock_rules_deeds h_this_rock_rules_begins h_this_rock_rules_steps h_this_rock_rules_lefts h_this_rock_rules_rights h_this_rock_rules_facts : Nat} {p0 : Int32} {p1 : Int32} {p2 : Int32} {x_this_tapeCount : Int32} {x_this_rowCount : Int32} {x_this_isKept : Int32} {f_this_host_items : Nat → Int32} {f_this_host_sizes : Nat → Int32} {f_this_host_sorts : Nat → Int32} {x_this_rock_count : Int32} {x_this_rock_end : Int32} {x_this_rock_z : Int32} {f_this_rock_buoys : Nat → Int32} {f_this_rock_currents : Nat → Int32} {f_this_rock_kinds : Nat → Int32} {f_this_rock_lanes : Nat → Int32} {f_this_rock_lights : Nat → Int32} {x_this_rock_now_watch : Int32} {x_this_rock_now_score : Int32} {x_this_rock_now_home : Int32} {f_this_rock_now_off : Nat → Int32} {x_this_rock_rules_count : Int32} {x_this_rock_rules_size : Int32} {f_this_rock_rules_begins : Nat → Int32} {f_this_rock_rules_deeds : Nat → Int32} {f_this_rock_rules_facts : Nat → Int32} {f_this_rock_rules_kinds : Nat → Int32} {f_this_rock_rules_lefts : Nat → Int32} {f_this_rock_rules_rights : Nat → Int32} {f_this_rock_rules_steps : Nat → Int32} {f_this_rock_trims : Nat → Int32} {r : Int32} {m_this_rock_now_watch : Int32} {m_this_rock_now_score : Int32} {m_this_rock_now_home : Int32} {m_this_rock_now_off : Nat → Int32} {m_this_rock_rules_facts : Nat → Int32} (hf : f_X8_goAll p0 p1 p2 f_this_host_items f_this_host_sizes f_this_host_sorts x_this_rock_count x_this_rock_end f_this_rock_buoys f_this_rock_currents f_this_rock_kinds f_this_rock_lanes f_this_rock_lights x_this_rock_now_watch x_this_rock_now_score x_this_rock_now_home f_this_rock_now_off x_this_rock_rules_count f_this_rock_rules_begins f_this_rock_rules_deeds f_this_rock_rules_facts f_this_rock_rules_kinds f_this_rock_rules_lefts f_this_rock_rules_rights f_this_rock_rules_steps f_this_rock_trims = some (r, m_this_rock_now_watch, m_this_rock_now_score, m_this_rock_now_home, m_this_rock_now_off, m_this_rock_rules_facts)) : mFi l G yX8_goAll cX8_goAll 8 .int 5 [.ref h_this, .int p0, .int p1, .int p2] [(h_this, ob 8 [.ref h_this_rock, .ref h_this_kept, .ref h_this_trial, .ref h_this_planner, .ref h_this_reader, .ref h_this_draft, .ref h_this_host, .ref h_this_thing, .ref h_this_tape, .ref h_this_rows, .int x_this_tapeCount, .int x_this_rowCount, .int x_this_isKept]), (h_this_host, ob 0 [.ref h_this_host_sorts, .ref h_this_host_sizes, .ref h_this_host_items, .ref h_this_host_holds, .ref h_this_host_shelfShips, .ref h_this_host_shelfSorts, .ref h_this_host_shelfSizes]), (h_this_host_items, ia G 160 f_this_host_items), (h_this_host_sizes, ia G 4 f_this_host_sizes), (h_this_host_sorts, ia G 4 f_this_host_sorts), (h_this_rock, ob 3 [.ref h_this_rock_kinds, .ref h_this_rock_trims, .ref h_this_rock_lanes, .ref h_this_rock_lights, .ref h_this_rock_currents, .ref h_this_rock_buoys, .ref h_this_rock_now, .ref h_this_rock_rules, .ref h_this_rock_reports, .int x_this_rock_count, .int x_this_rock_end, .int x_this_rock_z]), (h_this_rock_buoys, ia G 6 f_this_rock_buoys), (h_this_rock_currents, ia G 6 f_this_rock_currents), (h_this_rock_kinds, ia G 6 f_this_rock_kinds), (h_this_rock_lanes, ia G 6 f_this_rock_lanes), (h_this_rock_lights, ia G 16 f_this_rock_lights), (h_this_rock_now, ob 6 [.ref h_this_rock_now_off, .int x_this_rock_now_watch, .int x_this_rock_now_score, .int x_this_rock_now_home]), (h_this_rock_now_off, ia G 6 f_this_rock_now_off), (h_this_rock_rules, ob 5 [.ref h_this_rock_rules_kinds, .ref h_this_rock_rules_deeds, .ref h_this_rock_rules_begins, .ref h_this_rock_rules_steps, .ref h_this_rock_rules_lefts, .ref h_this_rock_rules_rights, .ref h_this_rock_rules_facts, .int x_this_rock_rules_count, .int x_this_rock_rules_size]), (h_this_rock_rules_begins, ia G 9 f_this_rock_rules_begins), (h_this_rock_rules_deeds, ia G 8 f_this_rock_rules_deeds), (h_this_rock_rules_facts, ia G 5 f_this_rock_rules_facts), (h_this_rock_rules_kinds, ia G 8 f_this_rock_rules_kinds), (h_this_rock_rules_lefts, ia G 200 f_this_rock_rules_lefts), (h_this_rock_rules_rights, ia G 200 f_this_rock_rules_rights), (h_this_rock_rules_steps, ia G 200 f_this_rock_rules_steps), (h_this_rock_trims, ia G 6 f_this_rock_trims)] r [(h_this, ob 8 [.ref h_this_rock, .ref h_this_kept, .ref h_this_trial, .ref h_this_planner, .ref h_this_reader, .ref h_this_draft, .ref h_this_host, .ref h_this_thing, .ref h_this_tape, .ref h_this_rows, .int x_this_tapeCount, .int x_this_rowCount, .int x_this_isKept]), (h_this_host, ob 0 [.ref h_this_host_sorts, .ref h_this_host_sizes, .ref h_this_host_items, .ref h_this_host_holds, .ref h_this_host_shelfShips, .ref h_this_host_shelfSorts, .ref h_this_host_shelfSizes]), (h_this_host_items, ia G 160 f_this_host_items), (h_this_host_sizes, ia G 4 f_this_host_sizes), (h_this_host_sorts, ia G 4 f_this_host_sorts), (h_this_rock, ob 3 [.ref h_this_rock_kinds, .ref h_this_rock_trims, .ref h_this_rock_lanes, .ref h_this_rock_lights, .ref h_this_rock_currents, .ref h_this_rock_buoys, .ref h_this_rock_now, .ref h_this_rock_rules, .ref h_this_rock_reports, .int x_this_rock_count, .int x_this_rock_end, .int x_this_rock_z]), (h_this_rock_buoys, ia G 6 f_this_rock_buoys), (h_this_rock_currents, ia G 6 f_this_rock_currents), (h_this_rock_kinds, ia G 6 f_this_rock_kinds), (h_this_rock_lanes, ia G 6 f_this_rock_lanes), (h_this_rock_lights, ia G 16 f_this_rock_lights), (h_this_rock_now, ob 6 [.ref h_this_rock_now_off, .int m_this_rock_now_watch, .int m_this_rock_now_score, .int m_this_rock_now_home]), (h_this_rock_now_off, ia G 6 m_this_rock_now_off), (h_this_rock_rules, ob 5 [.ref h_this_rock_rules_kinds, .ref h_this_rock_rules_deeds, .ref h_this_rock_rules_begins, .ref h_this_rock_rules_steps, .ref h_this_rock_rules_lefts, .ref h_this_rock_rules_rights, .ref h_this_rock_rules_facts, .int x_this_rock_rules_count, .int x_this_rock_rules_size]), (h_this_rock_rules_begins, ia G 9 f_this_rock_rules_begins), (h_this_rock_rules_deeds, ia G 8 f_this_rock_rules_deeds), (h_this_rock_rules_facts, ia G 5 m_this_rock_rules_facts), (h_this_rock_rules_kinds, ia G 8 f_this_rock_rules_kinds), (h_this_rock_rules_lefts, ia G 200 f_this_rock_rules_lefts), (h_this_rock_rules_rights, ia G 200 f_this_rock_rules_rights), (h_this_rock_rules_steps, ia G 200 f_this_rock_rules_steps), (h_this_rock_trims, ia G 6 f_this_rock_trims)] := by
  refine mFi.of (by decide +kernel) (Nat.le_of_ble_eq_true rfl) ?_
  intro p e s m below meth c A C hr hlk h ls hl
  obtain ⟨hx, hb, hml, hown, hts⟩ := id C
  replace hl : lv_has ls 8 [(0, .ref h_this), (1, .int p0), (2, .int p1), (3, .int p2)] := hl
  unfold f_X8_goAll at hf
  refine with_K G A 8 (fun K hK1 hK2 => ?_)
  have L44 : ∀ (n : Nat) (v5 : Int32) (v6 : Int32) (y_this_rock_now_watch : Int32) (y_this_rock_now_score : Int32) (y_this_rock_now_home : Int32) (g_this_rock_now_off : Nat → Int32) (g_this_rock_rules_facts : Nat → Int32), f_X8_goAll_L44 p0 p1 p2 f_this_host_items f_this_host_sizes x_this_rock_count x_this_rock_end f_this_rock_buoys f_this_rock_currents f_this_rock_kinds f_this_rock_lanes f_this_rock_lights x_this_rock_rules_count f_this_rock_rules_begins f_this_rock_rules_deeds f_this_rock_rules_kinds f_this_rock_rules_lefts f_this_rock_rules_rights f_this_rock_rules_steps f_this_rock_trims n v5 v6 y_this_rock_now_watch y_this_rock_now_score y_this_rock_now_home g_this_rock_now_off g_this_rock_rules_facts = some (r, m_this_rock_now_watch, m_this_rock_now_score, m_this_rock_now_home, m_this_rock_now_off, m_this_rock_rules_facts) → K 44 ([] : List Value) [(h_this, ob 8 [.ref h_this_rock, .ref h_this_kept, .ref h_this_trial, .ref h_this_planner, .ref h_this_reader, .ref h_this_draft, .ref h_this_host, .ref h_this_thing, .ref h_this_tape, .ref h_this_rows, .int x_this_tapeCount, .int x_this_rowCount, .int x_this_isKept]), (h_this_host, ob 0 [.ref h_this_host_sorts, .ref h_this_host_sizes, .ref h_this_host_items, .ref h_this_host_holds, .ref h_this_host_shelfShips, .ref h_this_host_shelfSorts, .ref h_this_host_shelfSizes]), (h_this_host_items, ia G 160 f_this_host_items), (h_this_host_sizes, ia G 4 f_this_host_sizes), (h_this_host_sorts, ia G 4 f_this_host_sorts), (h_this_rock, ob 3 [.ref h_this_rock_kinds, .ref h_this_rock_trims, .ref h_this_rock_lanes, .ref h_this_rock_lights, .ref h_this_rock_currents, .ref h_this_rock_buoys, .ref h_this_rock_now, .ref h_this_rock_rules, .ref h_this_rock_reports, .int x_this_rock_count, .int x_this_rock_end, .int x_this_rock_z]), (h_this_rock_buoys, ia G 6 f_this_rock_buoys), (h_this_rock_currents, ia G 6 f_this_rock_currents), (h_this_rock_kinds, ia G 6 f_this_rock_kinds), (h_this_rock_lanes, ia G 6 f_this_rock_lanes), (h_this_rock_lights, ia G 16 f_this_rock_lights), (h_this_rock_now, ob 6 [.ref h_this_rock_now_off, .int y_this_rock_now_watch, .int y_this_rock_now_score, .int y_this_rock_now_home]), (h_this_rock_now_off, ia G 6 g_this_rock_now_off), (h_this_rock_rules, ob 5 [.ref h_this_rock_rules_kinds, .ref h_this_rock_rules_deeds, .ref h_this_rock_rules_begins, .ref h_this_rock_rules_steps, .ref h_this_rock_rules_lefts, .ref h_this_rock_rules_rights, .ref h_this_rock_rules_facts, .int x_this_rock_rules_count, .int x_this_rock_rules_size]), (h_this_rock_rules_begins, ia G 9 f_this_rock_rules_begins), (h_this_rock_rules_deeds, ia G 8 f_this_rock_rules_deeds), (h_this_rock_rules_facts, ia G 5 g_this_rock_rules_facts), (h_this_rock_rules_kinds, ia G 8 f_this_rock_rules_kinds), (h_this_rock_rules_lefts, ia G 200 f_this_rock_rules_lefts), (h_this_rock_rules_rights, ia G 200 f_this_rock_rules_rights), (h_this_rock_rules_steps, ia G 200 f_this_rock_rules_steps), (h_this_rock_trims, ia G 6 f_this_rock_trims)] [(0, .ref h_this), (1, .int p0), (2, .int p1), (3, .int p2), (5, .int v5), (6, .int v6)] := by
    intro n
    induction n with
    | zero =>
      intro v5 v6 y_this_rock_now_watch y_this_rock_now_score y_this_rock_now_home g_this_rock_now_off g_this_rock_rules_facts hf
      replace hf : (none : Option _) = some _ := hf
      cases hf
    | succ n ih =>
      intro v5 v6 y_this_rock_now_watch y_this_rock_now_score y_this_rock_now_home g_this_rock_now_off g_this_rock_rules_facts hf
      rw [f_X8_goAll_L44] at hf
      refine hK1 _ _ _ _ (fun H locs ls h hl => ?_)
      refine lv_iload hx hb dX8_goAll_44 (lv_at hl 5 rfl) ?_
      refine lv_iload_n hx hb dX8_goAll_46 rfl (lv_at hl 3 rfl) ?_
      refine lv_icmp_ge (tgt := 138) hx hb dX8_goAll_47 rfl (fun c10 => ?_) (fun c10 => ?_)
      · replace hf := ifp c10 hf
        refine lv_iload hx hb dX8_goAll_138 (lv_at hl 4 rfl) ?_
        cases hf
        exact r_iret C h hr hlk rfl dX8_goAll_140
      · replace hf := ifn c10 hf
        refine lv_aload_n hx hb dX8_goAll_50 rfl (lv_at hl 0 rfl) ?_
        refine r_get C h fk_X8_50 0 rfl rfl dX8_goAll_51 ?_
        refine lv_iload_n hx hb dX8_goAll_54 rfl (lv_at hl 1 rfl) ?_
        refine lv_iload_n hx hb dX8_goAll_55 rfl (lv_at hl 2 rfl) ?_
        refine lv_iload hx hb dX8_goAll_56 (lv_at hl 5 rfl) ?_
        refine lv_iadd hx hb dX8_goAll_58 ?_
        replace hf := bd1_inv hf
        obtain ⟨r11, hc12, hf⟩ := hf
        refine r_ciV0 C h (c_X0_hasItem hc12) mv_X8_307 rfl 1 rfl [1, 3] rfl rfl hl.1 rfl (Nat.le_of_ble_eq_true rfl) (rok (by decide)) dX8_goAll_59 (fun H locs h => ?_)
        refine lv_if_ne (tgt := 68) hx hb dX8_goAll_62 rfl (fun c13 => ?_) (fun c13 => ?_)
        · replace hf := ifn c13 hf
          refine lv_aload_n hx hb dX8_goAll_68 rfl (lv_at hl 0 rfl) ?_
          refine r_get C h fk_X8_50 0 rfl rfl dX8_goAll_69 ?_
          refine lv_iload_n hx hb dX8_goAll_72 rfl (lv_at hl 1 rfl) ?_
          refine lv_iload_n hx hb dX8_goAll_73 rfl (lv_at hl 2 rfl) ?_
          refine lv_iload hx hb dX8_goAll_74 (lv_at hl 5 rfl) ?_
          refine lv_iadd hx hb dX8_goAll_76 ?_
          replace hf := bd1_inv hf
          obtain ⟨r14, hc15, hf⟩ := hf
          refine r_ciV0 C h (c_X0_get hc15) mv_X8_315 rfl 1 rfl [1, 2] rfl rfl hl.1 rfl (Nat.le_of_ble_eq_true rfl) (rok (by decide)) dX8_goAll_77 (fun H locs h => ?_)
          refine lv_istore (lv' := [(7, .int r14), (0, .ref h_this), (1, .int p0), (2, .int p1), (3, .int p2), (5, .int v5), (6, .int v6)]) hx hb dX8_goAll_80 hl (by decide) rfl (fun ls hl => ?_)
          refine lv_aload_n hx hb dX8_goAll_82 rfl (lv_at hl 1 rfl) ?_
          refine r_get C h fk_X8_10 0 rfl rfl dX8_goAll_83 ?_
          refine lv_iload hx hb dX8_goAll_86 (lv_at hl 0 rfl) ?_
          replace hf := bd1_inv hf
          obtain ⟨r16, hc17, hf⟩ := hf
          refine r_ciV0 C h (c_X3_hasAct hc17) mv_X8_294 rfl 5 rfl [5] rfl rfl hl.1 rfl (Nat.le_of_ble_eq_true rfl) (rok (by decide)) dX8_goAll_88 (fun H locs h => ?_)
          refine lv_if_eq (tgt := 132) hx hb dX8_goAll_91 rfl (fun c18 => ?_) (fun c18 => ?_)
          · replace hf := ifp c18 hf
            obtain ⟨t19, et19⟩ : ∃ y : Int32, y = v6 + (1 : Int32) := ⟨_, rfl⟩
            replace hf := lt1_inv et19 hf
            refine lv_iinc (v := t19) (lv' := [(6, .int t19), (7, .int r14), (0, .ref h_this), (1, .int p0), (2, .int p1), (3, .int p2), (5, .int v5)]) hx hb dX8_goAll_132 hl (k := 6) rfl (by rw [et19]; rfl) (by decide) rfl (fun ls hl => ?_)
            refine lv_goto (tgt := 44) hx hb dX8_goAll_135 rfl ?_
            exact hK2 _ _ _ _ (ih v5 t19 y_this_rock_now_watch y_this_rock_now_score y_this_rock_now_home g_this_rock_now_off g_this_rock_rules_facts hf) _ _ _ h (lv_sub hl [2, 3, 4, 5, 6, 0] rfl)
          · replace hf := ifn c18 hf
            refine lv_aload_n hx hb dX8_goAll_94 rfl (lv_at hl 1 rfl) ?_
            refine r_get C h fk_X8_10 0 rfl rfl dX8_goAll_95 ?_
            refine lv_aload_n hx hb dX8_goAll_98 rfl (lv_at hl 1 rfl) ?_
            refine r_get C h fk_X8_10 0 rfl rfl dX8_goAll_99 ?_
            refine r_get C h fk_X8_94 5 rfl rfl dX8_goAll_102 ?_
            replace hf := bd1_inv hf
            obtain ⟨r20, hc21, hf⟩ := hf
            refine r_ciV0 C h (c_X3_isOver hc21) mv_X8_159 rfl 5 rfl [11, 5] rfl rfl hl.1 rfl (Nat.le_of_ble_eq_true rfl) (rok (by decide)) dX8_goAll_105 (fun H locs h => ?_)
            refine lv_if_ne (tgt := 132) hx hb dX8_goAll_108 rfl (fun c22 => ?_) (fun c22 => ?_)
            · replace hf := ifn c22 hf
              obtain ⟨t23, et23⟩ : ∃ y : Int32, y = v6 + (1 : Int32) := ⟨_, rfl⟩
              replace hf := lt1_inv et23 hf
              refine lv_iinc (v := t23) (lv' := [(6, .int t23), (7, .int r14), (0, .ref h_this), (1, .int p0), (2, .int p1), (3, .int p2), (5, .int v5)]) hx hb dX8_goAll_132 hl (k := 6) rfl (by rw [et23]; rfl) (by decide) rfl (fun ls hl => ?_)
              refine lv_goto (tgt := 44) hx hb dX8_goAll_135 rfl ?_
              exact hK2 _ _ _ _ (ih v5 t23 y_this_rock_now_watch y_this_rock_now_score y_this_rock_now_home g_this_rock_now_off g_this_rock_rules_facts hf) _ _ _ h (lv_sub hl [2, 3, 4, 5, 6, 0] rfl)
            · replace hf := ifp c22 hf
              refine lv_iload hx hb dX8_goAll_111 (lv_at hl 5 rfl) ?_
              refine lv_aload_n hx hb dX8_goAll_113 rfl (lv_at hl 1 rfl) ?_
              refine r_get C h fk_X8_10 0 rfl rfl dX8_goAll_114 ?_
              refine lv_aload_n hx hb dX8_goAll_117 rfl (lv_at hl 1 rfl) ?_
              refine r_get C h fk_X8_10 0 rfl rfl dX8_goAll_118 ?_
              refine r_get C h fk_X8_94 5 rfl rfl dX8_goAll_121 ?_
              refine lv_iload hx hb dX8_goAll_124 (lv_at hl 0 rfl) ?_
              replace hf := bd6_inv hf
              obtain ⟨r24, y25, y26, y27, g28, g29, hc30, hf⟩ := hf
              refine r_ciV (ws' := [(h_this, ob 8 [.ref h_this_rock, .ref h_this_kept, .ref h_this_trial, .ref h_this_planner, .ref h_this_reader, .ref h_this_draft, .ref h_this_host, .ref h_this_thing, .ref h_this_tape, .ref h_this_rows, .int x_this_tapeCount, .int x_this_rowCount, .int x_this_isKept]), (h_this_host, ob 0 [.ref h_this_host_sorts, .ref h_this_host_sizes, .ref h_this_host_items, .ref h_this_host_holds, .ref h_this_host_shelfShips, .ref h_this_host_shelfSorts, .ref h_this_host_shelfSizes]), (h_this_host_items, ia G 160 f_this_host_items), (h_this_host_sizes, ia G 4 f_this_host_sizes), (h_this_host_sorts, ia G 4 f_this_host_sorts), (h_this_rock, ob 3 [.ref h_this_rock_kinds, .ref h_this_rock_trims, .ref h_this_rock_lanes, .ref h_this_rock_lights, .ref h_this_rock_currents, .ref h_this_rock_buoys, .ref h_this_rock_now, .ref h_this_rock_rules, .ref h_this_rock_reports, .int x_this_rock_count, .int x_this_rock_end, .int x_this_rock_z]), (h_this_rock_buoys, ia G 6 f_this_rock_buoys), (h_this_rock_currents, ia G 6 f_this_rock_currents), (h_this_rock_kinds, ia G 6 f_this_rock_kinds), (h_this_rock_lanes, ia G 6 f_this_rock_lanes), (h_this_rock_lights, ia G 16 f_this_rock_lights), (h_this_rock_now, ob 6 [.ref h_this_rock_now_off, .int y25, .int y26, .int y27]), (h_this_rock_now_off, ia G 6 g28), (h_this_rock_rules, ob 5 [.ref h_this_rock_rules_kinds, .ref h_this_rock_rules_deeds, .ref h_this_rock_rules_begins, .ref h_this_rock_rules_steps, .ref h_this_rock_rules_lefts, .ref h_this_rock_rules_rights, .ref h_this_rock_rules_facts, .int x_this_rock_rules_count, .int x_this_rock_rules_size]), (h_this_rock_rules_begins, ia G 9 f_this_rock_rules_begins), (h_this_rock_rules_deeds, ia G 8 f_this_rock_rules_deeds), (h_this_rock_rules_facts, ia G 5 g29), (h_this_rock_rules_kinds, ia G 8 f_this_rock_rules_kinds), (h_this_rock_rules_lefts, ia G 200 f_this_rock_rules_lefts), (h_this_rock_rules_rights, ia G 200 f_this_rock_rules_rights), (h_this_rock_rules_steps, ia G 200 f_this_rock_rules_steps), (h_this_rock_trims, ia G 6 f_this_rock_trims)]) C h (c_X3_pass hc30) mv_X8_287 rfl 5 rfl [11, 12, 5, 6, 7, 8, 9, 10, 13, 14, 15, 16, 17, 18, 19, 20, 21] rfl rfl rfl rfl rfl hl.1 rfl (Nat.le_of_ble_eq_true rfl) (rok (by decide)) dX8_goAll_126 (fun H locs h => ?_)
              refine lv_iadd hx hb dX8_goAll_129 ?_
              refine lv_topi (fun t31 et31 => ?_)
              replace hf := lt1_inv et31 hf
              refine lv_istore (lv' := [(5, .int t31), (7, .int r14), (0, .ref h_this), (1, .int p0), (2, .int p1), (3, .int p2), (6, .int v6)]) hx hb dX8_goAll_130 hl (by decide) rfl (fun ls hl => ?_)
              obtain ⟨t32, et32⟩ : ∃ y : Int32, y = v6 + (1 : Int32) := ⟨_, rfl⟩
              replace hf := lt1_inv et32 hf
              refine lv_iinc (v := t32) (lv' := [(6, .int t32), (5, .int t31), (7, .int r14), (0, .ref h_this), (1, .int p0), (2, .int p1), (3, .int p2)]) hx hb dX8_goAll_132 hl (k := 6) rfl (by rw [et32]; rfl) (by decide) rfl (fun ls hl => ?_)
              refine lv_goto (tgt := 44) hx hb dX8_goAll_135 rfl ?_
              exact hK2 _ _ _ _ (ih t31 t32 y25 y26 y27 g28 g29 hf) _ _ _ h (lv_sub hl [3, 4, 5, 6, 1, 0] rfl)
        · replace hf := ifp c13 hf
          refine lv_bipush (v := (-12 : Int32)) hx hb dX8_goAll_65 rfl ?_
          cases hf
          exact r_iret C h hr hlk rfl dX8_goAll_67
  refine lv_iload_n hx hb dX8_goAll_0 rfl (lv_at hl 1 rfl) ?_
  replace hf := bd1_inv hf
  obtain ⟨r1, hc2, hf⟩ := hf
  refine r_ciS0 C h (c_X0_hasSheet hc2) ms_X8_297 rfl [] rfl rfl hl.1 rfl (Nat.le_of_ble_eq_true rfl) (rok (by decide)) dX8_goAll_1 (fun H locs h => ?_)
  refine lv_if_eq (tgt := 17) hx hb dX8_goAll_4 rfl (fun c3 => ?_) (fun c3 => ?_)
  · replace hf := ifp c3 hf
    refine lv_iconst (v := (-1 : Int32)) hx hb dX8_goAll_17 rfl ?_
    cases hf
    exact r_iret C h hr hlk rfl dX8_goAll_18
  · replace hf := ifn c3 hf
    refine lv_iload_n hx hb dX8_goAll_7 rfl (lv_at hl 3 rfl) ?_
    refine lv_iconst (v := (0 : Int32)) hx hb dX8_goAll_8 rfl ?_
    refine lv_bipush (v := (20 : Int32)) hx hb dX8_goAll_9 rfl ?_
    replace hf := bd1_inv hf
    obtain ⟨r4, hc5, hf⟩ := hf
    refine r_ciS0 C h (c_X8_within hc5) ms_X8_79 rfl [] rfl rfl hl.1 rfl (Nat.le_of_ble_eq_true rfl) (rok (by decide)) dX8_goAll_11 (fun H locs h => ?_)
    refine lv_if_ne (tgt := 19) hx hb dX8_goAll_14 rfl (fun c6 => ?_) (fun c6 => ?_)
    · replace hf := ifn c6 hf
      refine lv_aload_n hx hb dX8_goAll_19 rfl (lv_at hl 0 rfl) ?_
      refine r_get C h fk_X8_50 0 rfl rfl dX8_goAll_20 ?_
      refine lv_iload_n hx hb dX8_goAll_23 rfl (lv_at hl 1 rfl) ?_
      refine lv_iconst (v := (0 : Int32)) hx hb dX8_goAll_24 rfl ?_
      replace hf := bd1_inv hf
      obtain ⟨r7, hc8, hf⟩ := hf
      refine r_ciV0 C h (c_X0_refusalOf hc8) mv_X8_312 rfl 1 rfl [1, 4] rfl rfl hl.1 rfl (Nat.le_of_ble_eq_true rfl) (rok (by decide)) dX8_goAll_25 (fun H locs h => ?_)
      refine lv_istore (lv' := [(4, .int r7), (0, .ref h_this), (1, .int p0), (2, .int p1), (3, .int p2)]) hx hb dX8_goAll_28 hl (by decide) rfl (fun ls hl => ?_)
      refine lv_iload hx hb dX8_goAll_30 (lv_at hl 0 rfl) ?_
      refine lv_if_eq (tgt := 38) hx hb dX8_goAll_32 rfl (fun c9 => ?_) (fun c9 => ?_)
      · replace hf := ifp c9 hf
        refine lv_iconst (v := (0 : Int32)) hx hb dX8_goAll_38 rfl ?_
        refine lv_istore (lv' := [(5, .int (0 : Int32)), (4, .int r7), (0, .ref h_this), (1, .int p0), (2, .int p1), (3, .int p2)]) hx hb dX8_goAll_39 hl (by decide) rfl (fun ls hl => ?_)
        refine lv_iconst (v := (0 : Int32)) hx hb dX8_goAll_41 rfl ?_
        refine lv_istore (lv' := [(6, .int (0 : Int32)), (5, .int (0 : Int32)), (4, .int r7), (0, .ref h_this), (1, .int p0), (2, .int p1), (3, .int p2)]) hx hb dX8_goAll_42 hl (by decide) rfl (fun ls hl => ?_)
        exact hK2 _ _ _ _ (L44 1000 (0 : Int32) (0 : Int32) x_this_rock_now_watch x_this_rock_now_score x_this_rock_now_home f_this_rock_now_off f_this_rock_rules_facts hf) _ _ _ h (lv_sub hl [3, 4, 5, 6, 1, 0] rfl)
      · replace hf := ifn c9 hf
        refine lv_iload hx hb dX8_goAll_35 (lv_at hl 0 rfl) ?_
        cases hf
        exact r_iret C h hr hlk rfl dX8_goAll_37
    · replace hf := ifp c6 hf
      refine lv_iconst (v := (-1 : Int32)) hx hb dX8_goAll_17 rfl ?_
      cases hf
      exact r_iret C h hr hlk rfl dX8_goAll_18
def f_X8_wouldBe_L58 (p0 : Int32) (p1 : Int32) (p2 : Int32) (f_this_host_items : Nat → Int32) (f_this_host_sizes : Nat → Int32) (x_this_rock_count : Int32) (x_this_rock_end : Int32) (f_this_rock_buoys : Nat → Int32) (f_this_rock_currents : Nat → Int32) (f_this_rock_kinds : Nat → Int32) (f_this_rock_lanes : Nat → Int32) (f_this_rock_lights : Nat → Int32) (x_this_rock_rules_count : Int32) (f_this_rock_rules_begins : Nat → Int32) (f_this_rock_rules_deeds : Nat → Int32) (f_this_rock_rules_kinds : Nat → Int32) (f_this_rock_rules_lefts : Nat → Int32) (f_this_rock_rules_rights : Nat → Int32) (f_this_rock_rules_steps : Nat → Int32) (f_this_rock_trims : Nat → Int32) : Nat → Int32 → Int32 → (Nat → Int32) → Int32 → Int32 → Int32 → (Nat → Int32) → Option (Int32 × (Nat → Int32) × Int32 × Int32 × Int32 × (Nat → Int32))
  | 0, _, _, _, _, _, _, _ => none
  | n + 1, v5, v6, g_this_rock_rules_facts, y_this_trial_watch, y_this_trial_score, y_this_trial_home, g_this_trial_off => (if p2 ≤ v6 then some (v5, g_this_rock_rules_facts, y_this_trial_watch, y_this_trial_score, y_this_trial_home, g_this_trial_off) else bd1 (f_X0_hasItem p0 (p1 + v6) f_this_host_sizes) (fun r16 => (if r16 = 0 then some ((-12 : Int32), g_this_rock_rules_facts, y_this_trial_watch, y_this_trial_score, y_this_trial_home, g_this_trial_off) else bd1 (f_X0_get p0 (p1 + v6) f_this_host_items) (fun r19 => bd1 (f_X3_hasAct r19 x_this_rock_count) (fun r21 => (if r21 = 0 then some ((-4 : Int32), g_this_rock_rules_facts, y_this_trial_watch, y_this_trial_score, y_this_trial_home, g_this_trial_off) else bd1 (f_X3_isOver y_this_trial_watch x_this_rock_end) (fun r24 => (if r24 = 0 then bd6 (f_X3_pass r19 y_this_trial_watch y_this_trial_score y_this_trial_home g_this_trial_off x_this_rock_count f_this_rock_buoys f_this_rock_currents f_this_rock_kinds f_this_rock_lanes f_this_rock_lights x_this_rock_rules_count f_this_rock_rules_begins f_this_rock_rules_deeds g_this_rock_rules_facts f_this_rock_rules_kinds f_this_rock_rules_lefts f_this_rock_rules_rights f_this_rock_rules_steps f_this_rock_trims) (fun r27 y28 y29 y30 g31 g32 => lt1 (v5 + r27) (fun (t34 : Int32) => lt1 (v6 + (1 : Int32)) (fun (t35 : Int32) => (f_X8_wouldBe_L58 p0 p1 p2 f_this_host_items f_this_host_sizes x_this_rock_count x_this_rock_end f_this_rock_buoys f_this_rock_currents f_this_rock_kinds f_this_rock_lanes f_this_rock_lights x_this_rock_rules_count f_this_rock_rules_begins f_this_rock_rules_deeds f_this_rock_rules_kinds f_this_rock_rules_lefts f_this_rock_rules_rights f_this_rock_rules_steps f_this_rock_trims n) t34 t35 g32 y28 y29 y30 g31))) else some ((-4 : Int32), g_this_rock_rules_facts, y_this_trial_watch, y_this_trial_score, y_this_trial_home, g_this_trial_off)))))))))
def f_X8_wouldBe (p0 : Int32) (p1 : Int32) (p2 : Int32) (f_this_host_items : Nat → Int32) (f_this_host_sizes : Nat → Int32) (f_this_host_sorts : Nat → Int32) (x_this_rock_count : Int32) (x_this_rock_end : Int32) (f_this_rock_buoys : Nat → Int32) (f_this_rock_currents : Nat → Int32) (f_this_rock_kinds : Nat → Int32) (f_this_rock_lanes : Nat → Int32) (f_this_rock_lights : Nat → Int32) (x_this_rock_now_watch : Int32) (x_this_rock_now_score : Int32) (x_this_rock_now_home : Int32) (f_this_rock_now_off : Nat → Int32) (x_this_rock_rules_count : Int32) (f_this_rock_rules_begins : Nat → Int32) (f_this_rock_rules_deeds : Nat → Int32) (f_this_rock_rules_facts : Nat → Int32) (f_this_rock_rules_kinds : Nat → Int32) (f_this_rock_rules_lefts : Nat → Int32) (f_this_rock_rules_rights : Nat → Int32) (f_this_rock_rules_steps : Nat → Int32) (f_this_rock_trims : Nat → Int32) (x_this_trial_watch : Int32) (x_this_trial_score : Int32) (x_this_trial_home : Int32) (f_this_trial_off : Nat → Int32) : Option (Int32 × (Nat → Int32) × Int32 × Int32 × Int32 × (Nat → Int32)) := bd1 (f_X0_hasSheet p0) (fun r1 => (if r1 = 0 then some ((-1 : Int32), f_this_rock_rules_facts, x_this_trial_watch, x_this_trial_score, x_this_trial_home, f_this_trial_off) else bd1 (f_X8_within p2 (0 : Int32) (20 : Int32)) (fun r4 => (if r4 = 0 then some ((-1 : Int32), f_this_rock_rules_facts, x_this_trial_watch, x_this_trial_score, x_this_trial_home, f_this_trial_off) else bd1 (f_X0_refusalOf p0 (0 : Int32) f_this_host_sorts) (fun r7 => (if r7 = 0 then bd4 (f_X6_become x_this_rock_now_watch x_this_rock_now_score x_this_rock_now_home f_this_rock_now_off f_this_trial_off) (fun y10 y11 y12 g13 => f_X8_wouldBe_L58 p0 p1 p2 f_this_host_items f_this_host_sizes x_this_rock_count x_this_rock_end f_this_rock_buoys f_this_rock_currents f_this_rock_kinds f_this_rock_lanes f_this_rock_lights x_this_rock_rules_count f_this_rock_rules_begins f_this_rock_rules_deeds f_this_rock_rules_kinds f_this_rock_rules_lefts f_this_rock_rules_rights f_this_rock_rules_steps f_this_rock_trims 1000 (0 : Int32) (0 : Int32) f_this_rock_rules_facts y10 y11 y12 g13) else some (r7, f_this_rock_rules_facts, x_this_trial_watch, x_this_trial_score, x_this_trial_home, f_this_trial_off)))))))
set_option maxRecDepth 100000 in
set_option maxHeartbeats 4000000 in
theorem c_X8_wouldBe {l : Launch} {G : Gt} {h_this h_this_rock h_this_kept h_this_trial h_this_planner h_this_reader h_this_draft h_this_host h_this_thing h_this_tape h_this_rows h_this_host_sorts h_this_host_sizes h_this_host_items h_this_host_holds h_this_host_shelfShips h_this_host_shelfSorts h_this_host_shelfSizes h_this_rock_kinds h_this_rock_trims h_this_rock_lanes h_this_rock_lights h_this_rock_currents h_this_rock_buoys h_this_rock_now h_this_rock_rules h_this_rock_reports h_this_rock_now_off h_this_rock_rules_kinds h_this_rock_rules_deeds h_this_rock_rules_begins h_this_rock_rules_steps h_this_rock_rules_lefts h_this_rock_rules_rights h_this_rock_rules_facts h_this_trial_off : Nat} {p0 : Int32} {p1 : Int32} {p2 : Int32} {x_this_tapeCount : Int32} {x_this_rowCount : Int32} {x_this_isKept : Int32} {f_this_host_items : Nat → Int32} {f_this_host_sizes : Nat → Int32} {f_this_host_sorts : Nat → Int32} {x_this_rock_count : Int32} {x_this_rock_end : Int32} {x_this_rock_z : Int32} {f_this_rock_buoys : Nat → Int32} {f_this_rock_currents : Nat → Int32} {f_this_rock_kinds : Nat → Int32} {f_this_rock_lanes : Nat → Int32} {f_this_rock_lights : Nat → Int32} {x_this_rock_now_watch : Int32} {x_this_rock_now_score : Int32} {x_this_rock_now_home : Int32} {f_this_rock_now_off : Nat → Int32} {x_this_rock_rules_count : Int32} {x_this_rock_rules_size : Int32} {f_this_rock_rules_begins : Nat → Int32} {f_this_rock_rules_deeds : Nat → Int32} {f_this_rock_rules_facts : Nat → Int32} {f_this_rock_rules_kinds : Nat → Int32} {f_this_rock_rules_lefts : Nat → Int32} {f_this_rock_rules_rights : Nat → Int32} {f_this_rock_rules_steps : Nat → Int32} {f_this_rock_trims : Nat → Int32} {x_this_trial_watch : Int32} {x_this_trial_score : Int32} {x_this_trial_home : Int32} {f_this_trial_off : Nat → Int32} {r : Int32} {m_this_rock_rules_facts : Nat → Int32} {m_this_trial_watch : Int32} {m_this_trial_score : Int32} {m_this_trial_home : Int32} {m_this_trial_off : Nat → Int32} (hf : f_X8_wouldBe p0 p1 p2 f_this_host_items f_this_host_sizes f_this_host_sorts x_this_rock_count x_this_rock_end f_this_rock_buoys f_this_rock_currents f_this_rock_kinds f_this_rock_lanes f_this_rock_lights x_this_rock_now_watch x_this_rock_now_score x_this_rock_now_home f_this_rock_now_off x_this_rock_rules_count f_this_rock_rules_begins f_this_rock_rules_deeds f_this_rock_rules_facts f_this_rock_rules_kinds f_this_rock_rules_lefts f_this_rock_rules_rights f_this_rock_rules_steps f_this_rock_trims x_this_trial_watch x_this_trial_score x_this_trial_home f_this_trial_off = some (r, m_this_rock_rules_facts, m_this_trial_watch, m_this_trial_score, m_this_trial_home, m_this_trial_off)) : mFi l G yX8_wouldBe cX8_wouldBe 8 .int 5 [.ref h_this, .int p0, .int p1, .int p2] [(h_this, ob 8 [.ref h_this_rock, .ref h_this_kept, .ref h_this_trial, .ref h_this_planner, .ref h_this_reader, .ref h_this_draft, .ref h_this_host, .ref h_this_thing, .ref h_this_tape, .ref h_this_rows, .int x_this_tapeCount, .int x_this_rowCount, .int x_this_isKept]), (h_this_host, ob 0 [.ref h_this_host_sorts, .ref h_this_host_sizes, .ref h_this_host_items, .ref h_this_host_holds, .ref h_this_host_shelfShips, .ref h_this_host_shelfSorts, .ref h_this_host_shelfSizes]), (h_this_host_items, ia G 160 f_this_host_items), (h_this_host_sizes, ia G 4 f_this_host_sizes), (h_this_host_sorts, ia G 4 f_this_host_sorts), (h_this_rock, ob 3 [.ref h_this_rock_kinds, .ref h_this_rock_trims, .ref h_this_rock_lanes, .ref h_this_rock_lights, .ref h_this_rock_currents, .ref h_this_rock_buoys, .ref h_this_rock_now, .ref h_this_rock_rules, .ref h_this_rock_reports, .int x_this_rock_count, .int x_this_rock_end, .int x_this_rock_z]), (h_this_rock_buoys, ia G 6 f_this_rock_buoys), (h_this_rock_currents, ia G 6 f_this_rock_currents), (h_this_rock_kinds, ia G 6 f_this_rock_kinds), (h_this_rock_lanes, ia G 6 f_this_rock_lanes), (h_this_rock_lights, ia G 16 f_this_rock_lights), (h_this_rock_now, ob 6 [.ref h_this_rock_now_off, .int x_this_rock_now_watch, .int x_this_rock_now_score, .int x_this_rock_now_home]), (h_this_rock_now_off, ia G 6 f_this_rock_now_off), (h_this_rock_rules, ob 5 [.ref h_this_rock_rules_kinds, .ref h_this_rock_rules_deeds, .ref h_this_rock_rules_begins, .ref h_this_rock_rules_steps, .ref h_this_rock_rules_lefts, .ref h_this_rock_rules_rights, .ref h_this_rock_rules_facts, .int x_this_rock_rules_count, .int x_this_rock_rules_size]), (h_this_rock_rules_begins, ia G 9 f_this_rock_rules_begins), (h_this_rock_rules_deeds, ia G 8 f_this_rock_rules_deeds), (h_this_rock_rules_facts, ia G 5 f_this_rock_rules_facts), (h_this_rock_rules_kinds, ia G 8 f_this_rock_rules_kinds), (h_this_rock_rules_lefts, ia G 200 f_this_rock_rules_lefts), (h_this_rock_rules_rights, ia G 200 f_this_rock_rules_rights), (h_this_rock_rules_steps, ia G 200 f_this_rock_rules_steps), (h_this_rock_trims, ia G 6 f_this_rock_trims), (h_this_trial, ob 6 [.ref h_this_trial_off, .int x_this_trial_watch, .int x_this_trial_score, .int x_this_trial_home]), (h_this_trial_off, ia G 6 f_this_trial_off)] r [(h_this, ob 8 [.ref h_this_rock, .ref h_this_kept, .ref h_this_trial, .ref h_this_planner, .ref h_this_reader, .ref h_this_draft, .ref h_this_host, .ref h_this_thing, .ref h_this_tape, .ref h_this_rows, .int x_this_tapeCount, .int x_this_rowCount, .int x_this_isKept]), (h_this_host, ob 0 [.ref h_this_host_sorts, .ref h_this_host_sizes, .ref h_this_host_items, .ref h_this_host_holds, .ref h_this_host_shelfShips, .ref h_this_host_shelfSorts, .ref h_this_host_shelfSizes]), (h_this_host_items, ia G 160 f_this_host_items), (h_this_host_sizes, ia G 4 f_this_host_sizes), (h_this_host_sorts, ia G 4 f_this_host_sorts), (h_this_rock, ob 3 [.ref h_this_rock_kinds, .ref h_this_rock_trims, .ref h_this_rock_lanes, .ref h_this_rock_lights, .ref h_this_rock_currents, .ref h_this_rock_buoys, .ref h_this_rock_now, .ref h_this_rock_rules, .ref h_this_rock_reports, .int x_this_rock_count, .int x_this_rock_end, .int x_this_rock_z]), (h_this_rock_buoys, ia G 6 f_this_rock_buoys), (h_this_rock_currents, ia G 6 f_this_rock_currents), (h_this_rock_kinds, ia G 6 f_this_rock_kinds), (h_this_rock_lanes, ia G 6 f_this_rock_lanes), (h_this_rock_lights, ia G 16 f_this_rock_lights), (h_this_rock_now, ob 6 [.ref h_this_rock_now_off, .int x_this_rock_now_watch, .int x_this_rock_now_score, .int x_this_rock_now_home]), (h_this_rock_now_off, ia G 6 f_this_rock_now_off), (h_this_rock_rules, ob 5 [.ref h_this_rock_rules_kinds, .ref h_this_rock_rules_deeds, .ref h_this_rock_rules_begins, .ref h_this_rock_rules_steps, .ref h_this_rock_rules_lefts, .ref h_this_rock_rules_rights, .ref h_this_rock_rules_facts, .int x_this_rock_rules_count, .int x_this_rock_rules_size]), (h_this_rock_rules_begins, ia G 9 f_this_rock_rules_begins), (h_this_rock_rules_deeds, ia G 8 f_this_rock_rules_deeds), (h_this_rock_rules_facts, ia G 5 m_this_rock_rules_facts), (h_this_rock_rules_kinds, ia G 8 f_this_rock_rules_kinds), (h_this_rock_rules_lefts, ia G 200 f_this_rock_rules_lefts), (h_this_rock_rules_rights, ia G 200 f_this_rock_rules_rights), (h_this_rock_rules_steps, ia G 200 f_this_rock_rules_steps), (h_this_rock_trims, ia G 6 f_this_rock_trims), (h_this_trial, ob 6 [.ref h_this_trial_off, .int m_this_trial_watch, .int m_this_trial_score, .int m_this_trial_home]), (h_this_trial_off, ia G 6 m_this_trial_off)] := by
  refine mFi.of (by decide +kernel) (Nat.le_of_ble_eq_true rfl) ?_
  intro p e s m below meth c A C hr hlk h ls hl
  obtain ⟨hx, hb, hml, hown, hts⟩ := id C
  replace hl : lv_has ls 8 [(0, .ref h_this), (1, .int p0), (2, .int p1), (3, .int p2)] := hl
  unfold f_X8_wouldBe at hf
  refine with_K G A 8 (fun K hK1 hK2 => ?_)
  have L58 : ∀ (n : Nat) (v5 : Int32) (v6 : Int32) (g_this_rock_rules_facts : Nat → Int32) (y_this_trial_watch : Int32) (y_this_trial_score : Int32) (y_this_trial_home : Int32) (g_this_trial_off : Nat → Int32), f_X8_wouldBe_L58 p0 p1 p2 f_this_host_items f_this_host_sizes x_this_rock_count x_this_rock_end f_this_rock_buoys f_this_rock_currents f_this_rock_kinds f_this_rock_lanes f_this_rock_lights x_this_rock_rules_count f_this_rock_rules_begins f_this_rock_rules_deeds f_this_rock_rules_kinds f_this_rock_rules_lefts f_this_rock_rules_rights f_this_rock_rules_steps f_this_rock_trims n v5 v6 g_this_rock_rules_facts y_this_trial_watch y_this_trial_score y_this_trial_home g_this_trial_off = some (r, m_this_rock_rules_facts, m_this_trial_watch, m_this_trial_score, m_this_trial_home, m_this_trial_off) → K 58 ([] : List Value) [(h_this, ob 8 [.ref h_this_rock, .ref h_this_kept, .ref h_this_trial, .ref h_this_planner, .ref h_this_reader, .ref h_this_draft, .ref h_this_host, .ref h_this_thing, .ref h_this_tape, .ref h_this_rows, .int x_this_tapeCount, .int x_this_rowCount, .int x_this_isKept]), (h_this_host, ob 0 [.ref h_this_host_sorts, .ref h_this_host_sizes, .ref h_this_host_items, .ref h_this_host_holds, .ref h_this_host_shelfShips, .ref h_this_host_shelfSorts, .ref h_this_host_shelfSizes]), (h_this_host_items, ia G 160 f_this_host_items), (h_this_host_sizes, ia G 4 f_this_host_sizes), (h_this_host_sorts, ia G 4 f_this_host_sorts), (h_this_rock, ob 3 [.ref h_this_rock_kinds, .ref h_this_rock_trims, .ref h_this_rock_lanes, .ref h_this_rock_lights, .ref h_this_rock_currents, .ref h_this_rock_buoys, .ref h_this_rock_now, .ref h_this_rock_rules, .ref h_this_rock_reports, .int x_this_rock_count, .int x_this_rock_end, .int x_this_rock_z]), (h_this_rock_buoys, ia G 6 f_this_rock_buoys), (h_this_rock_currents, ia G 6 f_this_rock_currents), (h_this_rock_kinds, ia G 6 f_this_rock_kinds), (h_this_rock_lanes, ia G 6 f_this_rock_lanes), (h_this_rock_lights, ia G 16 f_this_rock_lights), (h_this_rock_now, ob 6 [.ref h_this_rock_now_off, .int x_this_rock_now_watch, .int x_this_rock_now_score, .int x_this_rock_now_home]), (h_this_rock_now_off, ia G 6 f_this_rock_now_off), (h_this_rock_rules, ob 5 [.ref h_this_rock_rules_kinds, .ref h_this_rock_rules_deeds, .ref h_this_rock_rules_begins, .ref h_this_rock_rules_steps, .ref h_this_rock_rules_lefts, .ref h_this_rock_rules_rights, .ref h_this_rock_rules_facts, .int x_this_rock_rules_count, .int x_this_rock_rules_size]), (h_this_rock_rules_begins, ia G 9 f_this_rock_rules_begins), (h_this_rock_rules_deeds, ia G 8 f_this_rock_rules_deeds), (h_this_rock_rules_facts, ia G 5 g_this_rock_rules_facts), (h_this_rock_rules_kinds, ia G 8 f_this_rock_rules_kinds), (h_this_rock_rules_lefts, ia G 200 f_this_rock_rules_lefts), (h_this_rock_rules_rights, ia G 200 f_this_rock_rules_rights), (h_this_rock_rules_steps, ia G 200 f_this_rock_rules_steps), (h_this_rock_trims, ia G 6 f_this_rock_trims), (h_this_trial, ob 6 [.ref h_this_trial_off, .int y_this_trial_watch, .int y_this_trial_score, .int y_this_trial_home]), (h_this_trial_off, ia G 6 g_this_trial_off)] [(0, .ref h_this), (1, .int p0), (2, .int p1), (3, .int p2), (5, .int v5), (6, .int v6)] := by
    intro n
    induction n with
    | zero =>
      intro v5 v6 g_this_rock_rules_facts y_this_trial_watch y_this_trial_score y_this_trial_home g_this_trial_off hf
      replace hf : (none : Option _) = some _ := hf
      cases hf
    | succ n ih =>
      intro v5 v6 g_this_rock_rules_facts y_this_trial_watch y_this_trial_score y_this_trial_home g_this_trial_off hf
      rw [f_X8_wouldBe_L58] at hf
      refine hK1 _ _ _ _ (fun H locs ls h hl => ?_)
      refine lv_iload hx hb dX8_wouldBe_58 (lv_at hl 5 rfl) ?_
      refine lv_iload_n hx hb dX8_wouldBe_60 rfl (lv_at hl 3 rfl) ?_
      refine lv_icmp_ge (tgt := 149) hx hb dX8_wouldBe_61 rfl (fun c15 => ?_) (fun c15 => ?_)
      · replace hf := ifp c15 hf
        refine lv_iload hx hb dX8_wouldBe_149 (lv_at hl 4 rfl) ?_
        cases hf
        exact r_iret C h hr hlk rfl dX8_wouldBe_151
      · replace hf := ifn c15 hf
        refine lv_aload_n hx hb dX8_wouldBe_64 rfl (lv_at hl 0 rfl) ?_
        refine r_get C h fk_X8_50 0 rfl rfl dX8_wouldBe_65 ?_
        refine lv_iload_n hx hb dX8_wouldBe_68 rfl (lv_at hl 1 rfl) ?_
        refine lv_iload_n hx hb dX8_wouldBe_69 rfl (lv_at hl 2 rfl) ?_
        refine lv_iload hx hb dX8_wouldBe_70 (lv_at hl 5 rfl) ?_
        refine lv_iadd hx hb dX8_wouldBe_72 ?_
        replace hf := bd1_inv hf
        obtain ⟨r16, hc17, hf⟩ := hf
        refine r_ciV0 C h (c_X0_hasItem hc17) mv_X8_307 rfl 1 rfl [1, 3] rfl rfl hl.1 rfl (Nat.le_of_ble_eq_true rfl) (rok (by decide)) dX8_wouldBe_73 (fun H locs h => ?_)
        refine lv_if_ne (tgt := 82) hx hb dX8_wouldBe_76 rfl (fun c18 => ?_) (fun c18 => ?_)
        · replace hf := ifn c18 hf
          refine lv_aload_n hx hb dX8_wouldBe_82 rfl (lv_at hl 0 rfl) ?_
          refine r_get C h fk_X8_50 0 rfl rfl dX8_wouldBe_83 ?_
          refine lv_iload_n hx hb dX8_wouldBe_86 rfl (lv_at hl 1 rfl) ?_
          refine lv_iload_n hx hb dX8_wouldBe_87 rfl (lv_at hl 2 rfl) ?_
          refine lv_iload hx hb dX8_wouldBe_88 (lv_at hl 5 rfl) ?_
          refine lv_iadd hx hb dX8_wouldBe_90 ?_
          replace hf := bd1_inv hf
          obtain ⟨r19, hc20, hf⟩ := hf
          refine r_ciV0 C h (c_X0_get hc20) mv_X8_315 rfl 1 rfl [1, 2] rfl rfl hl.1 rfl (Nat.le_of_ble_eq_true rfl) (rok (by decide)) dX8_wouldBe_91 (fun H locs h => ?_)
          refine lv_istore (lv' := [(7, .int r19), (0, .ref h_this), (1, .int p0), (2, .int p1), (3, .int p2), (5, .int v5), (6, .int v6)]) hx hb dX8_wouldBe_94 hl (by decide) rfl (fun ls hl => ?_)
          refine lv_aload_n hx hb dX8_wouldBe_96 rfl (lv_at hl 1 rfl) ?_
          refine r_get C h fk_X8_10 0 rfl rfl dX8_wouldBe_97 ?_
          refine lv_iload hx hb dX8_wouldBe_100 (lv_at hl 0 rfl) ?_
          replace hf := bd1_inv hf
          obtain ⟨r21, hc22, hf⟩ := hf
          refine r_ciV0 C h (c_X3_hasAct hc22) mv_X8_294 rfl 5 rfl [5] rfl rfl hl.1 rfl (Nat.le_of_ble_eq_true rfl) (rok (by decide)) dX8_wouldBe_102 (fun H locs h => ?_)
          refine lv_if_eq (tgt := 122) hx hb dX8_wouldBe_105 rfl (fun c23 => ?_) (fun c23 => ?_)
          · replace hf := ifp c23 hf
            refine lv_bipush (v := (-4 : Int32)) hx hb dX8_wouldBe_122 rfl ?_
            cases hf
            exact r_iret C h hr hlk rfl dX8_wouldBe_124
          · replace hf := ifn c23 hf
            refine lv_aload_n hx hb dX8_wouldBe_108 rfl (lv_at hl 1 rfl) ?_
            refine r_get C h fk_X8_10 0 rfl rfl dX8_wouldBe_109 ?_
            refine lv_aload_n hx hb dX8_wouldBe_112 rfl (lv_at hl 1 rfl) ?_
            refine r_get C h fk_X8_22 0 rfl rfl dX8_wouldBe_113 ?_
            replace hf := bd1_inv hf
            obtain ⟨r24, hc25, hf⟩ := hf
            refine r_ciV0 C h (c_X3_isOver hc25) mv_X8_159 rfl 5 rfl [22, 5] rfl rfl hl.1 rfl (Nat.le_of_ble_eq_true rfl) (rok (by decide)) dX8_wouldBe_116 (fun H locs h => ?_)
            refine lv_if_eq (tgt := 125) hx hb dX8_wouldBe_119 rfl (fun c26 => ?_) (fun c26 => ?_)
            · replace hf := ifp c26 hf
              refine lv_iload hx hb dX8_wouldBe_125 (lv_at hl 5 rfl) ?_
              refine lv_aload_n hx hb dX8_wouldBe_127 rfl (lv_at hl 1 rfl) ?_
              refine r_get C h fk_X8_10 0 rfl rfl dX8_wouldBe_128 ?_
              refine lv_aload_n hx hb dX8_wouldBe_131 rfl (lv_at hl 1 rfl) ?_
              refine r_get C h fk_X8_22 0 rfl rfl dX8_wouldBe_132 ?_
              refine lv_iload hx hb dX8_wouldBe_135 (lv_at hl 0 rfl) ?_
              replace hf := bd6_inv hf
              obtain ⟨r27, y28, y29, y30, g31, g32, hc33, hf⟩ := hf
              refine r_ciV (ws' := [(h_this, ob 8 [.ref h_this_rock, .ref h_this_kept, .ref h_this_trial, .ref h_this_planner, .ref h_this_reader, .ref h_this_draft, .ref h_this_host, .ref h_this_thing, .ref h_this_tape, .ref h_this_rows, .int x_this_tapeCount, .int x_this_rowCount, .int x_this_isKept]), (h_this_host, ob 0 [.ref h_this_host_sorts, .ref h_this_host_sizes, .ref h_this_host_items, .ref h_this_host_holds, .ref h_this_host_shelfShips, .ref h_this_host_shelfSorts, .ref h_this_host_shelfSizes]), (h_this_host_items, ia G 160 f_this_host_items), (h_this_host_sizes, ia G 4 f_this_host_sizes), (h_this_host_sorts, ia G 4 f_this_host_sorts), (h_this_rock, ob 3 [.ref h_this_rock_kinds, .ref h_this_rock_trims, .ref h_this_rock_lanes, .ref h_this_rock_lights, .ref h_this_rock_currents, .ref h_this_rock_buoys, .ref h_this_rock_now, .ref h_this_rock_rules, .ref h_this_rock_reports, .int x_this_rock_count, .int x_this_rock_end, .int x_this_rock_z]), (h_this_rock_buoys, ia G 6 f_this_rock_buoys), (h_this_rock_currents, ia G 6 f_this_rock_currents), (h_this_rock_kinds, ia G 6 f_this_rock_kinds), (h_this_rock_lanes, ia G 6 f_this_rock_lanes), (h_this_rock_lights, ia G 16 f_this_rock_lights), (h_this_rock_now, ob 6 [.ref h_this_rock_now_off, .int x_this_rock_now_watch, .int x_this_rock_now_score, .int x_this_rock_now_home]), (h_this_rock_now_off, ia G 6 f_this_rock_now_off), (h_this_rock_rules, ob 5 [.ref h_this_rock_rules_kinds, .ref h_this_rock_rules_deeds, .ref h_this_rock_rules_begins, .ref h_this_rock_rules_steps, .ref h_this_rock_rules_lefts, .ref h_this_rock_rules_rights, .ref h_this_rock_rules_facts, .int x_this_rock_rules_count, .int x_this_rock_rules_size]), (h_this_rock_rules_begins, ia G 9 f_this_rock_rules_begins), (h_this_rock_rules_deeds, ia G 8 f_this_rock_rules_deeds), (h_this_rock_rules_facts, ia G 5 g32), (h_this_rock_rules_kinds, ia G 8 f_this_rock_rules_kinds), (h_this_rock_rules_lefts, ia G 200 f_this_rock_rules_lefts), (h_this_rock_rules_rights, ia G 200 f_this_rock_rules_rights), (h_this_rock_rules_steps, ia G 200 f_this_rock_rules_steps), (h_this_rock_trims, ia G 6 f_this_rock_trims), (h_this_trial, ob 6 [.ref h_this_trial_off, .int y28, .int y29, .int y30]), (h_this_trial_off, ia G 6 g31)]) C h (c_X3_pass hc33) mv_X8_287 rfl 5 rfl [22, 23, 5, 6, 7, 8, 9, 10, 13, 14, 15, 16, 17, 18, 19, 20, 21] rfl rfl rfl rfl rfl hl.1 rfl (Nat.le_of_ble_eq_true rfl) (rok (by decide)) dX8_wouldBe_137 (fun H locs h => ?_)
              refine lv_iadd hx hb dX8_wouldBe_140 ?_
              refine lv_topi (fun t34 et34 => ?_)
              replace hf := lt1_inv et34 hf
              refine lv_istore (lv' := [(5, .int t34), (7, .int r19), (0, .ref h_this), (1, .int p0), (2, .int p1), (3, .int p2), (6, .int v6)]) hx hb dX8_wouldBe_141 hl (by decide) rfl (fun ls hl => ?_)
              obtain ⟨t35, et35⟩ : ∃ y : Int32, y = v6 + (1 : Int32) := ⟨_, rfl⟩
              replace hf := lt1_inv et35 hf
              refine lv_iinc (v := t35) (lv' := [(6, .int t35), (5, .int t34), (7, .int r19), (0, .ref h_this), (1, .int p0), (2, .int p1), (3, .int p2)]) hx hb dX8_wouldBe_143 hl (k := 6) rfl (by rw [et35]; rfl) (by decide) rfl (fun ls hl => ?_)
              refine lv_goto (tgt := 58) hx hb dX8_wouldBe_146 rfl ?_
              exact hK2 _ _ _ _ (ih t34 t35 g32 y28 y29 y30 g31 hf) _ _ _ h (lv_sub hl [3, 4, 5, 6, 1, 0] rfl)
            · replace hf := ifn c26 hf
              refine lv_bipush (v := (-4 : Int32)) hx hb dX8_wouldBe_122 rfl ?_
              cases hf
              exact r_iret C h hr hlk rfl dX8_wouldBe_124
        · replace hf := ifp c18 hf
          refine lv_bipush (v := (-12 : Int32)) hx hb dX8_wouldBe_79 rfl ?_
          cases hf
          exact r_iret C h hr hlk rfl dX8_wouldBe_81
  refine lv_iload_n hx hb dX8_wouldBe_0 rfl (lv_at hl 1 rfl) ?_
  replace hf := bd1_inv hf
  obtain ⟨r1, hc2, hf⟩ := hf
  refine r_ciS0 C h (c_X0_hasSheet hc2) ms_X8_297 rfl [] rfl rfl hl.1 rfl (Nat.le_of_ble_eq_true rfl) (rok (by decide)) dX8_wouldBe_1 (fun H locs h => ?_)
  refine lv_if_eq (tgt := 17) hx hb dX8_wouldBe_4 rfl (fun c3 => ?_) (fun c3 => ?_)
  · replace hf := ifp c3 hf
    refine lv_iconst (v := (-1 : Int32)) hx hb dX8_wouldBe_17 rfl ?_
    cases hf
    exact r_iret C h hr hlk rfl dX8_wouldBe_18
  · replace hf := ifn c3 hf
    refine lv_iload_n hx hb dX8_wouldBe_7 rfl (lv_at hl 3 rfl) ?_
    refine lv_iconst (v := (0 : Int32)) hx hb dX8_wouldBe_8 rfl ?_
    refine lv_bipush (v := (20 : Int32)) hx hb dX8_wouldBe_9 rfl ?_
    replace hf := bd1_inv hf
    obtain ⟨r4, hc5, hf⟩ := hf
    refine r_ciS0 C h (c_X8_within hc5) ms_X8_79 rfl [] rfl rfl hl.1 rfl (Nat.le_of_ble_eq_true rfl) (rok (by decide)) dX8_wouldBe_11 (fun H locs h => ?_)
    refine lv_if_ne (tgt := 19) hx hb dX8_wouldBe_14 rfl (fun c6 => ?_) (fun c6 => ?_)
    · replace hf := ifn c6 hf
      refine lv_aload_n hx hb dX8_wouldBe_19 rfl (lv_at hl 0 rfl) ?_
      refine r_get C h fk_X8_50 0 rfl rfl dX8_wouldBe_20 ?_
      refine lv_iload_n hx hb dX8_wouldBe_23 rfl (lv_at hl 1 rfl) ?_
      refine lv_iconst (v := (0 : Int32)) hx hb dX8_wouldBe_24 rfl ?_
      replace hf := bd1_inv hf
      obtain ⟨r7, hc8, hf⟩ := hf
      refine r_ciV0 C h (c_X0_refusalOf hc8) mv_X8_312 rfl 1 rfl [1, 4] rfl rfl hl.1 rfl (Nat.le_of_ble_eq_true rfl) (rok (by decide)) dX8_wouldBe_25 (fun H locs h => ?_)
      refine lv_istore (lv' := [(4, .int r7), (0, .ref h_this), (1, .int p0), (2, .int p1), (3, .int p2)]) hx hb dX8_wouldBe_28 hl (by decide) rfl (fun ls hl => ?_)
      refine lv_iload hx hb dX8_wouldBe_30 (lv_at hl 0 rfl) ?_
      refine lv_if_eq (tgt := 38) hx hb dX8_wouldBe_32 rfl (fun c9 => ?_) (fun c9 => ?_)
      · replace hf := ifp c9 hf
        refine lv_aload_n hx hb dX8_wouldBe_38 rfl (lv_at hl 1 rfl) ?_
        refine r_get C h fk_X8_22 0 rfl rfl dX8_wouldBe_39 ?_
        refine lv_aload_n hx hb dX8_wouldBe_42 rfl (lv_at hl 1 rfl) ?_
        refine r_get C h fk_X8_10 0 rfl rfl dX8_wouldBe_43 ?_
        refine r_get C h fk_X8_94 5 rfl rfl dX8_wouldBe_46 ?_
        replace hf := bd4_inv hf
        obtain ⟨y10, y11, y12, g13, hc14, hf⟩ := hf
        refine r_cvV (ws' := [(h_this, ob 8 [.ref h_this_rock, .ref h_this_kept, .ref h_this_trial, .ref h_this_planner, .ref h_this_reader, .ref h_this_draft, .ref h_this_host, .ref h_this_thing, .ref h_this_tape, .ref h_this_rows, .int x_this_tapeCount, .int x_this_rowCount, .int x_this_isKept]), (h_this_host, ob 0 [.ref h_this_host_sorts, .ref h_this_host_sizes, .ref h_this_host_items, .ref h_this_host_holds, .ref h_this_host_shelfShips, .ref h_this_host_shelfSorts, .ref h_this_host_shelfSizes]), (h_this_host_items, ia G 160 f_this_host_items), (h_this_host_sizes, ia G 4 f_this_host_sizes), (h_this_host_sorts, ia G 4 f_this_host_sorts), (h_this_rock, ob 3 [.ref h_this_rock_kinds, .ref h_this_rock_trims, .ref h_this_rock_lanes, .ref h_this_rock_lights, .ref h_this_rock_currents, .ref h_this_rock_buoys, .ref h_this_rock_now, .ref h_this_rock_rules, .ref h_this_rock_reports, .int x_this_rock_count, .int x_this_rock_end, .int x_this_rock_z]), (h_this_rock_buoys, ia G 6 f_this_rock_buoys), (h_this_rock_currents, ia G 6 f_this_rock_currents), (h_this_rock_kinds, ia G 6 f_this_rock_kinds), (h_this_rock_lanes, ia G 6 f_this_rock_lanes), (h_this_rock_lights, ia G 16 f_this_rock_lights), (h_this_rock_now, ob 6 [.ref h_this_rock_now_off, .int x_this_rock_now_watch, .int x_this_rock_now_score, .int x_this_rock_now_home]), (h_this_rock_now_off, ia G 6 f_this_rock_now_off), (h_this_rock_rules, ob 5 [.ref h_this_rock_rules_kinds, .ref h_this_rock_rules_deeds, .ref h_this_rock_rules_begins, .ref h_this_rock_rules_steps, .ref h_this_rock_rules_lefts, .ref h_this_rock_rules_rights, .ref h_this_rock_rules_facts, .int x_this_rock_rules_count, .int x_this_rock_rules_size]), (h_this_rock_rules_begins, ia G 9 f_this_rock_rules_begins), (h_this_rock_rules_deeds, ia G 8 f_this_rock_rules_deeds), (h_this_rock_rules_facts, ia G 5 f_this_rock_rules_facts), (h_this_rock_rules_kinds, ia G 8 f_this_rock_rules_kinds), (h_this_rock_rules_lefts, ia G 200 f_this_rock_rules_lefts), (h_this_rock_rules_rights, ia G 200 f_this_rock_rules_rights), (h_this_rock_rules_steps, ia G 200 f_this_rock_rules_steps), (h_this_rock_trims, ia G 6 f_this_rock_trims), (h_this_trial, ob 6 [.ref h_this_trial_off, .int y10, .int y11, .int y12]), (h_this_trial_off, ia G 6 g13)]) C h (c_X6_become hc14) mv_X8_189 rfl 22 rfl [11, 12, 22, 23] rfl rfl rfl rfl rfl hl.1 rfl (Nat.le_of_ble_eq_true rfl) (rok (by decide)) dX8_wouldBe_49 (fun H locs h => ?_)
        refine lv_iconst (v := (0 : Int32)) hx hb dX8_wouldBe_52 rfl ?_
        refine lv_istore (lv' := [(5, .int (0 : Int32)), (4, .int r7), (0, .ref h_this), (1, .int p0), (2, .int p1), (3, .int p2)]) hx hb dX8_wouldBe_53 hl (by decide) rfl (fun ls hl => ?_)
        refine lv_iconst (v := (0 : Int32)) hx hb dX8_wouldBe_55 rfl ?_
        refine lv_istore (lv' := [(6, .int (0 : Int32)), (5, .int (0 : Int32)), (4, .int r7), (0, .ref h_this), (1, .int p0), (2, .int p1), (3, .int p2)]) hx hb dX8_wouldBe_56 hl (by decide) rfl (fun ls hl => ?_)
        exact hK2 _ _ _ _ (L58 1000 (0 : Int32) (0 : Int32) f_this_rock_rules_facts y10 y11 y12 g13 hf) _ _ _ h (lv_sub hl [3, 4, 5, 6, 1, 0] rfl)
      · replace hf := ifn c9 hf
        refine lv_iload hx hb dX8_wouldBe_35 (lv_at hl 0 rfl) ?_
        cases hf
        exact r_iret C h hr hlk rfl dX8_wouldBe_37
    · replace hf := ifp c6 hf
      refine lv_iconst (v := (-1 : Int32)) hx hb dX8_wouldBe_17 rfl ?_
      cases hf
      exact r_iret C h hr hlk rfl dX8_wouldBe_18
def f_X0_hasShelf (p0 : Int32) : Option (Int32) := (if p0 < 0 then some (0 : Int32) else (if (4 : Int32) ≤ p0 then some (0 : Int32) else some (1 : Int32)))
set_option maxRecDepth 100000 in
set_option maxHeartbeats 4000000 in
theorem c_X0_hasShelf {l : Launch} {G : Gt} {p0 : Int32} {r : Int32} (hf : f_X0_hasShelf p0 = some r) : mFi l G yX0_hasShelf cX0_hasShelf 1 .boolean 0 [.int p0] ([] : va_W) r ([] : va_W) := by
  refine mFi.of (by decide +kernel) (Nat.le_of_ble_eq_true rfl) ?_
  intro p e s m below meth c A C hr hlk h ls hl
  obtain ⟨hx, hb, hml, hown, hts⟩ := id C
  replace hl : lv_has ls 1 [(0, .int p0)] := hl
  unfold f_X0_hasShelf at hf
  refine lv_iload_n hx hb dX0_hasShelf_0 rfl (lv_at hl 0 rfl) ?_
  refine lv_if_lt (tgt := 13) hx hb dX0_hasShelf_1 rfl (fun c1 => ?_) (fun c1 => ?_)
  · replace hf := ifp c1 hf
    refine lv_iconst (v := (0 : Int32)) hx hb dX0_hasShelf_13 rfl ?_
    cases hf
    exact r_iret C h hr hlk rfl dX0_hasShelf_14
  · replace hf := ifn c1 hf
    refine lv_iload_n hx hb dX0_hasShelf_4 rfl (lv_at hl 0 rfl) ?_
    refine lv_iconst (v := (4 : Int32)) hx hb dX0_hasShelf_5 rfl ?_
    refine lv_icmp_ge (tgt := 13) hx hb dX0_hasShelf_6 rfl (fun c2 => ?_) (fun c2 => ?_)
    · replace hf := ifp c2 hf
      refine lv_iconst (v := (0 : Int32)) hx hb dX0_hasShelf_13 rfl ?_
      cases hf
      exact r_iret C h hr hlk rfl dX0_hasShelf_14
    · replace hf := ifn c2 hf
      refine lv_iconst (v := (1 : Int32)) hx hb dX0_hasShelf_9 rfl ?_
      refine lv_goto (tgt := 14) hx hb dX0_hasShelf_10 rfl ?_
      cases hf
      exact r_iret C h hr hlk rfl dX0_hasShelf_14
def f_X0_holdShip (p0 : Int32) (p1 : Int32) (f_this_holds : Nat → Int32) (f_this_shelfShips : Nat → Int32) : Option (Int32 × (Nat → Int32) × (Nat → Int32)) := chkI p0 4 (chkI p0 4 (some ((1 : Int32), upd f_this_holds p0.toNatClampNeg (1 : Int32), upd f_this_shelfShips p0.toNatClampNeg p1)))
set_option maxRecDepth 100000 in
set_option maxHeartbeats 4000000 in
theorem c_X0_holdShip {l : Launch} {G : Gt} {h_this h_this_sorts h_this_sizes h_this_items h_this_holds h_this_shelfShips h_this_shelfSorts h_this_shelfSizes : Nat} {p0 : Int32} {p1 : Int32} {f_this_holds : Nat → Int32} {f_this_shelfShips : Nat → Int32} {r : Int32} {m_this_holds : Nat → Int32} {m_this_shelfShips : Nat → Int32} (hf : f_X0_holdShip p0 p1 f_this_holds f_this_shelfShips = some (r, m_this_holds, m_this_shelfShips)) : mFi l G yX0_holdShip cX0_holdShip 3 .int 0 [.ref h_this, .int p0, .int p1] [(h_this, ob 0 [.ref h_this_sorts, .ref h_this_sizes, .ref h_this_items, .ref h_this_holds, .ref h_this_shelfShips, .ref h_this_shelfSorts, .ref h_this_shelfSizes]), (h_this_holds, ia G 4 f_this_holds), (h_this_shelfShips, ia G 4 f_this_shelfShips)] r [(h_this, ob 0 [.ref h_this_sorts, .ref h_this_sizes, .ref h_this_items, .ref h_this_holds, .ref h_this_shelfShips, .ref h_this_shelfSorts, .ref h_this_shelfSizes]), (h_this_holds, ia G 4 m_this_holds), (h_this_shelfShips, ia G 4 m_this_shelfShips)] := by
  refine mFi.of (by decide +kernel) (Nat.le_of_ble_eq_true rfl) ?_
  intro p e s m below meth c A C hr hlk h ls hl
  obtain ⟨hx, hb, hml, hown, hts⟩ := id C
  replace hl : lv_has ls 3 [(0, .ref h_this), (1, .int p0), (2, .int p1)] := hl
  unfold f_X0_holdShip at hf
  refine lv_aload_n hx hb dX0_holdShip_0 rfl (lv_at hl 0 rfl) ?_
  refine r_get C h fk_X0_21 0 rfl rfl dX0_holdShip_1 ?_
  refine lv_iload_n hx hb dX0_holdShip_4 rfl (lv_at hl 1 rfl) ?_
  refine lv_iconst (v := (1 : Int32)) hx hb dX0_holdShip_5 rfl ?_
  replace hf := chkI_inv hf
  obtain ⟨hi1, hf⟩ := hf
  refine r_iast (ws' := [(h_this, ob 0 [.ref h_this_sorts, .ref h_this_sizes, .ref h_this_items, .ref h_this_holds, .ref h_this_shelfShips, .ref h_this_shelfSorts, .ref h_this_shelfSizes]), (h_this_holds, ia G 4 (upd f_this_holds p0.toNatClampNeg (1 : Int32))), (h_this_shelfShips, ia G 4 f_this_shelfShips)]) C h 1 rfl hi1 dX0_holdShip_6 rfl (fun H locs h => ?_)
  refine lv_aload_n hx hb dX0_holdShip_7 rfl (lv_at hl 0 rfl) ?_
  refine r_get C h fk_X0_24 0 rfl rfl dX0_holdShip_8 ?_
  refine lv_iload_n hx hb dX0_holdShip_11 rfl (lv_at hl 1 rfl) ?_
  refine lv_iload_n hx hb dX0_holdShip_12 rfl (lv_at hl 2 rfl) ?_
  replace hf := chkI_inv hf
  obtain ⟨hi2, hf⟩ := hf
  refine r_iast (ws' := [(h_this, ob 0 [.ref h_this_sorts, .ref h_this_sizes, .ref h_this_items, .ref h_this_holds, .ref h_this_shelfShips, .ref h_this_shelfSorts, .ref h_this_shelfSizes]), (h_this_holds, ia G 4 (upd f_this_holds p0.toNatClampNeg (1 : Int32))), (h_this_shelfShips, ia G 4 (upd f_this_shelfShips p0.toNatClampNeg p1))]) C h 2 rfl hi2 dX0_holdShip_13 rfl (fun H locs h => ?_)
  refine lv_iconst (v := (1 : Int32)) hx hb dX0_holdShip_14 rfl ?_
  cases hf
  exact r_iret C h hr hlk rfl dX0_holdShip_15
def f_X0_holdRow_b18 (p0 : Int32) (p1 : Int32) (f_this_holds : Nat → Int32) (f_this_shelfSizes : Nat → Int32) (f_this_shelfSorts : Nat → Int32) (f_this_sizes : Nat → Int32) (f_this_sorts : Nat → Int32) (s1 : Int32) (s2 : Int32) : Option (Int32 × (Nat → Int32) × (Nat → Int32) × (Nat → Int32)) := chkI s1 4 (chkI p1 4 (lt1 (f_this_sorts p1.toNatClampNeg) (fun (t6 : Int32) => chkI p0 4 (chkI p1 4 (lt1 (f_this_sizes p1.toNatClampNeg) (fun (t9 : Int32) => chkI p0 4 (some ((1 : Int32), upd f_this_holds s1.toNatClampNeg s2, upd f_this_shelfSizes p0.toNatClampNeg t9, upd f_this_shelfSorts p0.toNatClampNeg t6))))))))
def f_X0_holdRow (p0 : Int32) (p1 : Int32) (f_this_holds : Nat → Int32) (f_this_shelfSizes : Nat → Int32) (f_this_shelfSorts : Nat → Int32) (f_this_sizes : Nat → Int32) (f_this_sorts : Nat → Int32) : Option (Int32 × (Nat → Int32) × (Nat → Int32) × (Nat → Int32)) := bd1 (f_X0_isMissing p1 f_this_sorts) (fun r1 => (if r1 = 0 then f_X0_holdRow_b18 p0 p1 f_this_holds f_this_shelfSizes f_this_shelfSorts f_this_sizes f_this_sorts p0 (2 : Int32) else f_X0_holdRow_b18 p0 p1 f_this_holds f_this_shelfSizes f_this_shelfSorts f_this_sizes f_this_sorts p0 (0 : Int32)))
set_option maxRecDepth 100000 in
set_option maxHeartbeats 4000000 in
theorem c_X0_holdRow {l : Launch} {G : Gt} {h_this h_this_sorts h_this_sizes h_this_items h_this_holds h_this_shelfShips h_this_shelfSorts h_this_shelfSizes : Nat} {p0 : Int32} {p1 : Int32} {f_this_holds : Nat → Int32} {f_this_shelfSizes : Nat → Int32} {f_this_shelfSorts : Nat → Int32} {f_this_sizes : Nat → Int32} {f_this_sorts : Nat → Int32} {r : Int32} {m_this_holds : Nat → Int32} {m_this_shelfSizes : Nat → Int32} {m_this_shelfSorts : Nat → Int32} (hf : f_X0_holdRow p0 p1 f_this_holds f_this_shelfSizes f_this_shelfSorts f_this_sizes f_this_sorts = some (r, m_this_holds, m_this_shelfSizes, m_this_shelfSorts)) : mFi l G yX0_holdRow cX0_holdRow 3 .int 1 [.ref h_this, .int p0, .int p1] [(h_this, ob 0 [.ref h_this_sorts, .ref h_this_sizes, .ref h_this_items, .ref h_this_holds, .ref h_this_shelfShips, .ref h_this_shelfSorts, .ref h_this_shelfSizes]), (h_this_holds, ia G 4 f_this_holds), (h_this_shelfSizes, ia G 4 f_this_shelfSizes), (h_this_shelfSorts, ia G 4 f_this_shelfSorts), (h_this_sizes, ia G 4 f_this_sizes), (h_this_sorts, ia G 4 f_this_sorts)] r [(h_this, ob 0 [.ref h_this_sorts, .ref h_this_sizes, .ref h_this_items, .ref h_this_holds, .ref h_this_shelfShips, .ref h_this_shelfSorts, .ref h_this_shelfSizes]), (h_this_holds, ia G 4 m_this_holds), (h_this_shelfSizes, ia G 4 m_this_shelfSizes), (h_this_shelfSorts, ia G 4 m_this_shelfSorts), (h_this_sizes, ia G 4 f_this_sizes), (h_this_sorts, ia G 4 f_this_sorts)] := by
  refine mFi.of (by decide +kernel) (Nat.le_of_ble_eq_true rfl) ?_
  intro p e s m below meth c A C hr hlk h ls hl
  obtain ⟨hx, hb, hml, hown, hts⟩ := id C
  replace hl : lv_has ls 3 [(0, .ref h_this), (1, .int p0), (2, .int p1)] := hl
  unfold f_X0_holdRow at hf
  refine with_K G A 3 (fun K hK1 hK2 => ?_)
  have B18 : ∀ (s1 : Int32) (s2 : Int32), f_X0_holdRow_b18 p0 p1 f_this_holds f_this_shelfSizes f_this_shelfSorts f_this_sizes f_this_sorts s1 s2 = some (r, m_this_holds, m_this_shelfSizes, m_this_shelfSorts) → K 18 [.int s2, .int s1, .ref h_this_holds] [(h_this, ob 0 [.ref h_this_sorts, .ref h_this_sizes, .ref h_this_items, .ref h_this_holds, .ref h_this_shelfShips, .ref h_this_shelfSorts, .ref h_this_shelfSizes]), (h_this_holds, ia G 4 f_this_holds), (h_this_shelfSizes, ia G 4 f_this_shelfSizes), (h_this_shelfSorts, ia G 4 f_this_shelfSorts), (h_this_sizes, ia G 4 f_this_sizes), (h_this_sorts, ia G 4 f_this_sorts)] [(0, .ref h_this), (1, .int p0), (2, .int p1)] := by
    intro s1 s2 hf
    unfold f_X0_holdRow_b18 at hf
    refine hK1 _ _ _ _ (fun H locs ls h hl => ?_)
    replace hf := chkI_inv hf
    obtain ⟨hi4, hf⟩ := hf
    refine r_iast (ws' := [(h_this, ob 0 [.ref h_this_sorts, .ref h_this_sizes, .ref h_this_items, .ref h_this_holds, .ref h_this_shelfShips, .ref h_this_shelfSorts, .ref h_this_shelfSizes]), (h_this_holds, ia G 4 (upd f_this_holds s1.toNatClampNeg s2)), (h_this_shelfSizes, ia G 4 f_this_shelfSizes), (h_this_shelfSorts, ia G 4 f_this_shelfSorts), (h_this_sizes, ia G 4 f_this_sizes), (h_this_sorts, ia G 4 f_this_sorts)]) C h 1 rfl hi4 dX0_holdRow_18 rfl (fun H locs h => ?_)
    refine lv_aload_n hx hb dX0_holdRow_19 rfl (lv_at hl 0 rfl) ?_
    refine r_get C h fk_X0_27 0 rfl rfl dX0_holdRow_20 ?_
    refine lv_iload_n hx hb dX0_holdRow_23 rfl (lv_at hl 1 rfl) ?_
    refine lv_aload_n hx hb dX0_holdRow_24 rfl (lv_at hl 0 rfl) ?_
    refine r_get C h fk_X0_9 0 rfl rfl dX0_holdRow_25 ?_
    refine lv_iload_n hx hb dX0_holdRow_28 rfl (lv_at hl 2 rfl) ?_
    replace hf := chkI_inv hf
    obtain ⟨hi5, hf⟩ := hf
    refine r_iald C h 5 rfl hi5 dX0_holdRow_29 ?_
    refine lv_topi (fun t6 et6 => ?_)
    replace hf := lt1_inv et6 hf
    replace hf := chkI_inv hf
    obtain ⟨hi7, hf⟩ := hf
    refine r_iast (ws' := [(h_this, ob 0 [.ref h_this_sorts, .ref h_this_sizes, .ref h_this_items, .ref h_this_holds, .ref h_this_shelfShips, .ref h_this_shelfSorts, .ref h_this_shelfSizes]), (h_this_holds, ia G 4 (upd f_this_holds s1.toNatClampNeg s2)), (h_this_shelfSizes, ia G 4 f_this_shelfSizes), (h_this_shelfSorts, ia G 4 (upd f_this_shelfSorts p0.toNatClampNeg t6)), (h_this_sizes, ia G 4 f_this_sizes), (h_this_sorts, ia G 4 f_this_sorts)]) C h 3 rfl hi7 dX0_holdRow_30 rfl (fun H locs h => ?_)
    refine lv_aload_n hx hb dX0_holdRow_31 rfl (lv_at hl 0 rfl) ?_
    refine r_get C h fk_X0_30 0 rfl rfl dX0_holdRow_32 ?_
    refine lv_iload_n hx hb dX0_holdRow_35 rfl (lv_at hl 1 rfl) ?_
    refine lv_aload_n hx hb dX0_holdRow_36 rfl (lv_at hl 0 rfl) ?_
    refine r_get C h fk_X0_15 0 rfl rfl dX0_holdRow_37 ?_
    refine lv_iload_n hx hb dX0_holdRow_40 rfl (lv_at hl 2 rfl) ?_
    replace hf := chkI_inv hf
    obtain ⟨hi8, hf⟩ := hf
    refine r_iald C h 4 rfl hi8 dX0_holdRow_41 ?_
    refine lv_topi (fun t9 et9 => ?_)
    replace hf := lt1_inv et9 hf
    replace hf := chkI_inv hf
    obtain ⟨hi10, hf⟩ := hf
    refine r_iast (ws' := [(h_this, ob 0 [.ref h_this_sorts, .ref h_this_sizes, .ref h_this_items, .ref h_this_holds, .ref h_this_shelfShips, .ref h_this_shelfSorts, .ref h_this_shelfSizes]), (h_this_holds, ia G 4 (upd f_this_holds s1.toNatClampNeg s2)), (h_this_shelfSizes, ia G 4 (upd f_this_shelfSizes p0.toNatClampNeg t9)), (h_this_shelfSorts, ia G 4 (upd f_this_shelfSorts p0.toNatClampNeg t6)), (h_this_sizes, ia G 4 f_this_sizes), (h_this_sorts, ia G 4 f_this_sorts)]) C h 2 rfl hi10 dX0_holdRow_42 rfl (fun H locs h => ?_)
    refine lv_iconst (v := (1 : Int32)) hx hb dX0_holdRow_43 rfl ?_
    cases hf
    exact r_iret C h hr hlk rfl dX0_holdRow_44
  refine lv_aload_n hx hb dX0_holdRow_0 rfl (lv_at hl 0 rfl) ?_
  refine r_get C h fk_X0_21 0 rfl rfl dX0_holdRow_1 ?_
  refine lv_iload_n hx hb dX0_holdRow_4 rfl (lv_at hl 1 rfl) ?_
  refine lv_aload_n hx hb dX0_holdRow_5 rfl (lv_at hl 0 rfl) ?_
  refine lv_iload_n hx hb dX0_holdRow_6 rfl (lv_at hl 2 rfl) ?_
  replace hf := bd1_inv hf
  obtain ⟨r1, hc2, hf⟩ := hf
  refine r_ciV0 C h (c_X0_isMissing hc2) mv_X0_39 rfl 0 rfl [0, 5] rfl rfl hl.1 rfl (Nat.le_of_ble_eq_true rfl) (rok (by decide)) dX0_holdRow_7 (fun H locs h => ?_)
  refine lv_if_eq (tgt := 17) hx hb dX0_holdRow_10 rfl (fun c3 => ?_) (fun c3 => ?_)
  · replace hf := ifp c3 hf
    refine lv_iconst (v := (2 : Int32)) hx hb dX0_holdRow_17 rfl ?_
    exact hK2 _ _ _ _ (B18 p0 (2 : Int32) hf) _ _ _ h (lv_sub hl [0, 1, 2] rfl)
  · replace hf := ifn c3 hf
    refine lv_iconst (v := (0 : Int32)) hx hb dX0_holdRow_13 rfl ?_
    refine lv_goto (tgt := 18) hx hb dX0_holdRow_14 rfl ?_
    exact hK2 _ _ _ _ (B18 p0 (0 : Int32) hf) _ _ _ h (lv_sub hl [0, 1, 2] rfl)
