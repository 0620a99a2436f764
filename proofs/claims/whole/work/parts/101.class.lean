set_option maxRecDepth 100000 in
set_option maxHeartbeats 4000000 in
theorem c_X3_reaches {l : Launch} {G : Gt} {h_a0 h_a0_off h_this h_this_kinds h_this_trims h_this_lanes h_this_lights h_this_currents h_this_buoys h_this_now h_this_rules h_this_reports : Nat} {p1 : Int32} {p2 : Int32} {x_a0_watch : Int32} {x_a0_score : Int32} {x_a0_home : Int32} {x_this_count : Int32} {x_this_end : Int32} {x_this_z : Int32} {f_this_buoys : Nat → Int32} {f_this_kinds : Nat → Int32} {f_this_lanes : Nat → Int32} {f_this_lights : Nat → Int32} {r : Int32} (hf : f_X3_reaches p1 p2 x_a0_watch f_this_buoys f_this_kinds f_this_lanes f_this_lights = some r) : mFi l G yX3_reaches cX3_reaches 4 .int 2 [.ref h_this, .ref h_a0, .int p1, .int p2] [(h_a0, ob 6 [.ref h_a0_off, .int x_a0_watch, .int x_a0_score, .int x_a0_home]), (h_this, ob 3 [.ref h_this_kinds, .ref h_this_trims, .ref h_this_lanes, .ref h_this_lights, .ref h_this_currents, .ref h_this_buoys, .ref h_this_now, .ref h_this_rules, .ref h_this_reports, .int x_this_count, .int x_this_end, .int x_this_z]), (h_this_buoys, ia G 6 f_this_buoys), (h_this_kinds, ia G 6 f_this_kinds), (h_this_lanes, ia G 6 f_this_lanes), (h_this_lights, ia G 16 f_this_lights)] r [(h_a0, ob 6 [.ref h_a0_off, .int x_a0_watch, .int x_a0_score, .int x_a0_home]), (h_this, ob 3 [.ref h_this_kinds, .ref h_this_trims, .ref h_this_lanes, .ref h_this_lights, .ref h_this_currents, .ref h_this_buoys, .ref h_this_now, .ref h_this_rules, .ref h_this_reports, .int x_this_count, .int x_this_end, .int x_this_z]), (h_this_buoys, ia G 6 f_this_buoys), (h_this_kinds, ia G 6 f_this_kinds), (h_this_lanes, ia G 6 f_this_lanes), (h_this_lights, ia G 16 f_this_lights)] := by
  refine mFi.of (by decide +kernel) (Nat.le_of_ble_eq_true rfl) ?_
  intro p e s m below meth c A C hr hlk h ls hl
  obtain ⟨hx, hb, hml, hown, hts⟩ := id C
  replace hl : lv_has ls 4 [(0, .ref h_this), (1, .ref h_a0), (2, .int p1), (3, .int p2)] := hl
  unfold f_X3_reaches at hf
  refine lv_aload_n hx hb dX3_reaches_0 rfl (lv_at hl 0 rfl) ?_
  refine r_get C h fk_X3_9 1 rfl rfl dX3_reaches_1 ?_
  refine lv_iload_n hx hb dX3_reaches_4 rfl (lv_at hl 2 rfl) ?_
  replace hf := chkI_inv hf
  obtain ⟨hi1, hf⟩ := hf
  refine r_iald C h 3 rfl hi1 dX3_reaches_5 ?_
  refine lv_iload_n hx hb dX3_reaches_6 rfl (lv_at hl 3 rfl) ?_
  refine lv_aload_n hx hb dX3_reaches_7 rfl (lv_at hl 0 rfl) ?_
  refine lv_aload_n hx hb dX3_reaches_8 rfl (lv_at hl 1 rfl) ?_
  refine r_get C h fk_X3_83 0 rfl rfl dX3_reaches_9 ?_
  replace hf := bd1_inv hf
  obtain ⟨r2, hc3, hf⟩ := hf
  refine r_ciV0 C h (c_X3_lightAt hc3) mv_X3_93 rfl 1 rfl [1, 5] rfl rfl hl.1 rfl (Nat.le_of_ble_eq_true rfl) (rok (by decide)) dX3_reaches_12 (fun H locs h => ?_)
  replace hf := bd1_inv hf
  obtain ⟨r4, hc5, hf⟩ := hf
  refine r_ciN0 C h (c_X8_reachesAlone hc5) mn_X3_110 rfl [] rfl rfl hl.1 rfl (Nat.le_of_ble_eq_true rfl) (rok (by decide)) dX3_reaches_15 (fun H locs h => ?_)
  refine lv_aload_n hx hb dX3_reaches_18 rfl (lv_at hl 0 rfl) ?_
  refine r_get C h fk_X3_27 1 rfl rfl dX3_reaches_19 ?_
  refine lv_aload_n hx hb dX3_reaches_22 rfl (lv_at hl 0 rfl) ?_
  refine r_get C h fk_X3_18 1 rfl rfl dX3_reaches_23 ?_
  refine lv_iload_n hx hb dX3_reaches_26 rfl (lv_at hl 2 rfl) ?_
  replace hf := chkI_inv hf
  obtain ⟨hi6, hf⟩ := hf
  refine r_iald C h 4 rfl hi6 dX3_reaches_27 ?_
  replace hf := chkI_inv hf
  obtain ⟨hi7, hf⟩ := hf
  refine r_iald C h 2 rfl hi7 dX3_reaches_28 ?_
  refine lv_iadd hx hb dX3_reaches_29 ?_
  cases hf
  exact r_iret C h hr hlk rfl dX3_reaches_30
set_option maxRecDepth 100000 in
set_option maxHeartbeats 4000000 in
theorem c_X3_inReach {l : Launch} {G : Gt} {h_a0 h_a0_off h_this h_this_kinds h_this_trims h_this_lanes h_this_lights h_this_currents h_this_buoys h_this_now h_this_rules h_this_reports : Nat} {p1 : Int32} {p2 : Int32} {x_a0_watch : Int32} {x_a0_score : Int32} {x_a0_home : Int32} {f_a0_off : Nat → Int32} {x_this_count : Int32} {x_this_end : Int32} {x_this_z : Int32} {f_this_buoys : Nat → Int32} {f_this_kinds : Nat → Int32} {f_this_lanes : Nat → Int32} {f_this_lights : Nat → Int32} {r : Int32} (hf : f_X3_inReach p1 p2 x_a0_watch x_a0_home f_a0_off f_this_buoys f_this_kinds f_this_lanes f_this_lights = some r) : mFi l G yX3_inReach cX3_inReach 4 .boolean 2 [.ref h_this, .ref h_a0, .int p1, .int p2] [(h_a0, ob 6 [.ref h_a0_off, .int x_a0_watch, .int x_a0_score, .int x_a0_home]), (h_a0_off, ia G 6 f_a0_off), (h_this, ob 3 [.ref h_this_kinds, .ref h_this_trims, .ref h_this_lanes, .ref h_this_lights, .ref h_this_currents, .ref h_this_buoys, .ref h_this_now, .ref h_this_rules, .ref h_this_reports, .int x_this_count, .int x_this_end, .int x_this_z]), (h_this_buoys, ia G 6 f_this_buoys), (h_this_kinds, ia G 6 f_this_kinds), (h_this_lanes, ia G 6 f_this_lanes), (h_this_lights, ia G 16 f_this_lights)] r [(h_a0, ob 6 [.ref h_a0_off, .int x_a0_watch, .int x_a0_score, .int x_a0_home]), (h_a0_off, ia G 6 f_a0_off), (h_this, ob 3 [.ref h_this_kinds, .ref h_this_trims, .ref h_this_lanes, .ref h_this_lights, .ref h_this_currents, .ref h_this_buoys, .ref h_this_now, .ref h_this_rules, .ref h_this_reports, .int x_this_count, .int x_this_end, .int x_this_z]), (h_this_buoys, ia G 6 f_this_buoys), (h_this_kinds, ia G 6 f_this_kinds), (h_this_lanes, ia G 6 f_this_lanes), (h_this_lights, ia G 16 f_this_lights)] := by
  refine mFi.of (by decide +kernel) (Nat.le_of_ble_eq_true rfl) ?_
  intro p e s m below meth c A C hr hlk h ls hl
  obtain ⟨hx, hb, hml, hown, hts⟩ := id C
  replace hl : lv_has ls 4 [(0, .ref h_this), (1, .ref h_a0), (2, .int p1), (3, .int p2)] := hl
  unfold f_X3_inReach at hf
  refine lv_aload_n hx hb dX3_inReach_0 rfl (lv_at hl 1 rfl) ?_
  refine lv_iload_n hx hb dX3_inReach_1 rfl (lv_at hl 2 rfl) ?_
  replace hf := bd1_inv hf
  obtain ⟨r1, hc2, hf⟩ := hf
  refine r_ciV0 C h (c_X6_isHome hc2) mv_X3_101 rfl 0 rfl [0] rfl rfl hl.1 rfl (Nat.le_of_ble_eq_true rfl) (rok (by decide)) dX3_inReach_2 (fun H locs h => ?_)
  refine lv_if_ne (tgt := 17) hx hb dX3_inReach_5 rfl (fun c3 => ?_) (fun c3 => ?_)
  · replace hf := ifn c3 hf
    refine lv_iconst (v := (0 : Int32)) hx hb dX3_inReach_17 rfl ?_
    cases hf
    exact r_iret C h hr hlk rfl dX3_inReach_18
  · replace hf := ifp c3 hf
    refine lv_aload_n hx hb dX3_inReach_8 rfl (lv_at hl 1 rfl) ?_
    refine r_get C h fk_X3_86 0 rfl rfl dX3_inReach_9 ?_
    refine lv_iload_n hx hb dX3_inReach_12 rfl (lv_at hl 2 rfl) ?_
    replace hf := chkI_inv hf
    obtain ⟨hi4, hf⟩ := hf
    refine r_iald C h 1 rfl hi4 dX3_inReach_13 ?_
    refine lv_if_ne (tgt := 19) hx hb dX3_inReach_14 rfl (fun c5 => ?_) (fun c5 => ?_)
    · replace hf := ifn c5 hf
      refine lv_aload_n hx hb dX3_inReach_19 rfl (lv_at hl 1 rfl) ?_
      refine r_get C h fk_X3_86 0 rfl rfl dX3_inReach_20 ?_
      refine lv_iload_n hx hb dX3_inReach_23 rfl (lv_at hl 2 rfl) ?_
      replace hf := chkI_inv hf
      obtain ⟨hi6, hf⟩ := hf
      refine r_iald C h 1 rfl hi6 dX3_inReach_24 ?_
      refine lv_aload_n hx hb dX3_inReach_25 rfl (lv_at hl 0 rfl) ?_
      refine r_get C h fk_X3_9 2 rfl rfl dX3_inReach_26 ?_
      refine lv_iload_n hx hb dX3_inReach_29 rfl (lv_at hl 2 rfl) ?_
      replace hf := chkI_inv hf
      obtain ⟨hi7, hf⟩ := hf
      refine r_iald C h 4 rfl hi7 dX3_inReach_30 ?_
      refine lv_iload_n hx hb dX3_inReach_31 rfl (lv_at hl 3 rfl) ?_
      refine lv_aload_n hx hb dX3_inReach_32 rfl (lv_at hl 0 rfl) ?_
      refine lv_aload_n hx hb dX3_inReach_33 rfl (lv_at hl 1 rfl) ?_
      refine r_get C h fk_X3_83 0 rfl rfl dX3_inReach_34 ?_
      replace hf := bd1_inv hf
      obtain ⟨r8, hc9, hf⟩ := hf
      refine r_ciV0 C h (c_X3_lightAt hc9) mv_X3_93 rfl 2 rfl [2, 6] rfl rfl hl.1 rfl (Nat.le_of_ble_eq_true rfl) (rok (by decide)) dX3_inReach_37 (fun H locs h => ?_)
      replace hf := bd1_inv hf
      obtain ⟨r10, hc11, hf⟩ := hf
      refine r_ciN0 C h (c_X8_reachesAlone hc11) mn_X3_110 rfl [] rfl rfl hl.1 rfl (Nat.le_of_ble_eq_true rfl) (rok (by decide)) dX3_inReach_40 (fun H locs h => ?_)
      refine lv_aload_n hx hb dX3_inReach_43 rfl (lv_at hl 0 rfl) ?_
      refine r_get C h fk_X3_27 2 rfl rfl dX3_inReach_44 ?_
      refine lv_aload_n hx hb dX3_inReach_47 rfl (lv_at hl 0 rfl) ?_
      refine r_get C h fk_X3_18 2 rfl rfl dX3_inReach_48 ?_
      refine lv_iload_n hx hb dX3_inReach_51 rfl (lv_at hl 2 rfl) ?_
      replace hf := chkI_inv hf
      obtain ⟨hi12, hf⟩ := hf
      refine r_iald C h 5 rfl hi12 dX3_inReach_52 ?_
      replace hf := chkI_inv hf
      obtain ⟨hi13, hf⟩ := hf
      refine r_iald C h 3 rfl hi13 dX3_inReach_53 ?_
      refine lv_iadd hx hb dX3_inReach_54 ?_
      refine lv_icmp_gt (tgt := 62) hx hb dX3_inReach_55 rfl (fun c14 => ?_) (fun c14 => ?_)
      · replace hf := ifp c14 hf
        refine lv_iconst (v := (0 : Int32)) hx hb dX3_inReach_62 rfl ?_
        cases hf
        exact r_iret C h hr hlk rfl dX3_inReach_63
      · replace hf := ifn c14 hf
        refine lv_iconst (v := (1 : Int32)) hx hb dX3_inReach_58 rfl ?_
        refine lv_goto (tgt := 63) hx hb dX3_inReach_59 rfl ?_
        cases hf
        exact r_iret C h hr hlk rfl dX3_inReach_63
    · replace hf := ifp c5 hf
      refine lv_iconst (v := (0 : Int32)) hx hb dX3_inReach_17 rfl ?_
      cases hf
      exact r_iret C h hr hlk rfl dX3_inReach_18
set_option maxRecDepth 100000 in
set_option maxHeartbeats 4000000 in
theorem c_X3_pays {l : Launch} {G : Gt} {h_a0 h_a0_off h_this h_this_kinds h_this_trims h_this_lanes h_this_lights h_this_currents h_this_buoys h_this_now h_this_rules h_this_reports : Nat} {p1 : Int32} {x_a0_watch : Int32} {x_a0_score : Int32} {x_a0_home : Int32} {f_a0_off : Nat → Int32} {x_this_count : Int32} {x_this_end : Int32} {x_this_z : Int32} {f_this_buoys : Nat → Int32} {f_this_kinds : Nat → Int32} {f_this_lanes : Nat → Int32} {f_this_lights : Nat → Int32} {f_this_trims : Nat → Int32} {r : Int32} (hf : f_X3_pays p1 x_a0_watch x_a0_home f_a0_off f_this_buoys f_this_kinds f_this_lanes f_this_lights f_this_trims = some r) : mFi l G yX3_pays cX3_pays 3 .int 3 [.ref h_this, .ref h_a0, .int p1] [(h_a0, ob 6 [.ref h_a0_off, .int x_a0_watch, .int x_a0_score, .int x_a0_home]), (h_a0_off, ia G 6 f_a0_off), (h_this, ob 3 [.ref h_this_kinds, .ref h_this_trims, .ref h_this_lanes, .ref h_this_lights, .ref h_this_currents, .ref h_this_buoys, .ref h_this_now, .ref h_this_rules, .ref h_this_reports, .int x_this_count, .int x_this_end, .int x_this_z]), (h_this_buoys, ia G 6 f_this_buoys), (h_this_kinds, ia G 6 f_this_kinds), (h_this_lanes, ia G 6 f_this_lanes), (h_this_lights, ia G 16 f_this_lights), (h_this_trims, ia G 6 f_this_trims)] r [(h_a0, ob 6 [.ref h_a0_off, .int x_a0_watch, .int x_a0_score, .int x_a0_home]), (h_a0_off, ia G 6 f_a0_off), (h_this, ob 3 [.ref h_this_kinds, .ref h_this_trims, .ref h_this_lanes, .ref h_this_lights, .ref h_this_currents, .ref h_this_buoys, .ref h_this_now, .ref h_this_rules, .ref h_this_reports, .int x_this_count, .int x_this_end, .int x_this_z]), (h_this_buoys, ia G 6 f_this_buoys), (h_this_kinds, ia G 6 f_this_kinds), (h_this_lanes, ia G 6 f_this_lanes), (h_this_lights, ia G 16 f_this_lights), (h_this_trims, ia G 6 f_this_trims)] := by
  refine mFi.of (by decide +kernel) (Nat.le_of_ble_eq_true rfl) ?_
  intro p e s m below meth c A C hr hlk h ls hl
  obtain ⟨hx, hb, hml, hown, hts⟩ := id C
  replace hl : lv_has ls 3 [(0, .ref h_this), (1, .ref h_a0), (2, .int p1)] := hl
  unfold f_X3_pays at hf
  refine lv_aload_n hx hb dX3_pays_0 rfl (lv_at hl 0 rfl) ?_
  refine lv_aload_n hx hb dX3_pays_1 rfl (lv_at hl 1 rfl) ?_
  refine lv_iload_n hx hb dX3_pays_2 rfl (lv_at hl 2 rfl) ?_
  refine lv_aload_n hx hb dX3_pays_3 rfl (lv_at hl 0 rfl) ?_
  refine r_get C h fk_X3_15 2 rfl rfl dX3_pays_4 ?_
  refine lv_iload_n hx hb dX3_pays_7 rfl (lv_at hl 2 rfl) ?_
  replace hf := chkI_inv hf
  obtain ⟨hi1, hf⟩ := hf
  refine r_iald C h 7 rfl hi1 dX3_pays_8 ?_
  replace hf := bd1_inv hf
  obtain ⟨r2, hc3, hf⟩ := hf
  refine r_ciV0 C h (c_X3_inReach hc3) mv_X3_113 rfl 2 rfl [0, 1, 2, 3, 4, 5, 6] rfl rfl hl.1 rfl (Nat.le_of_ble_eq_true rfl) (rok (by decide)) dX3_pays_9 (fun H locs h => ?_)
  refine lv_if_eq (tgt := 27) hx hb dX3_pays_12 rfl (fun c4 => ?_) (fun c4 => ?_)
  · replace hf := ifp c4 hf
    refine lv_iconst (v := (0 : Int32)) hx hb dX3_pays_27 rfl ?_
    cases hf
    exact r_iret C h hr hlk rfl dX3_pays_28
  · replace hf := ifn c4 hf
    refine lv_bipush (v := (6 : Int32)) hx hb dX3_pays_15 rfl ?_
    refine lv_aload_n hx hb dX3_pays_17 rfl (lv_at hl 0 rfl) ?_
    refine r_get C h fk_X3_15 2 rfl rfl dX3_pays_18 ?_
    refine lv_iload_n hx hb dX3_pays_21 rfl (lv_at hl 2 rfl) ?_
    replace hf := chkI_inv hf
    obtain ⟨hi5, hf⟩ := hf
    refine r_iald C h 7 rfl hi5 dX3_pays_22 ?_
    refine lv_iadd hx hb dX3_pays_23 ?_
    refine lv_goto (tgt := 28) hx hb dX3_pays_24 rfl ?_
    cases hf
    exact r_iret C h hr hlk rfl dX3_pays_28
set_option maxRecDepth 100000 in
set_option maxHeartbeats 4000000 in
theorem c_X5_learn {l : Launch} {G : Gt} {h_this h_this_kinds h_this_deeds h_this_begins h_this_steps h_this_lefts h_this_rights h_this_facts : Nat} {p0 : Int32} {p1 : Int32} {p2 : Int32} {p3 : Int32} {p4 : Int32} {x_this_count : Int32} {x_this_size : Int32} {f_this_facts : Nat → Int32} {m_this_facts : Nat → Int32} (hf : f_X5_learn p0 p1 p2 p3 p4 f_this_facts = some m_this_facts) : mFv l G yX5_learn cX5_learn 6 0 [.ref h_this, .int p0, .int p1, .int p2, .int p3, .int p4] [(h_this, ob 5 [.ref h_this_kinds, .ref h_this_deeds, .ref h_this_begins, .ref h_this_steps, .ref h_this_lefts, .ref h_this_rights, .ref h_this_facts, .int x_this_count, .int x_this_size]), (h_this_facts, ia G 5 f_this_facts)] [(h_this, ob 5 [.ref h_this_kinds, .ref h_this_deeds, .ref h_this_begins, .ref h_this_steps, .ref h_this_lefts, .ref h_this_rights, .ref h_this_facts, .int x_this_count, .int x_this_size]), (h_this_facts, ia G 5 m_this_facts)] := by
  refine mFv.of (by decide +kernel) (Nat.le_of_ble_eq_true rfl) ?_
  intro p e s m below meth c A C hr hlk h ls hl
  obtain ⟨hx, hb, hml, hown, hts⟩ := id C
  replace hl : lv_has ls 6 [(0, .ref h_this), (1, .int p0), (2, .int p1), (3, .int p2), (4, .int p3), (5, .int p4)] := hl
  unfold f_X5_learn at hf
  refine lv_aload_n hx hb dX5_learn_0 rfl (lv_at hl 0 rfl) ?_
  refine r_get C h fk_X5_30 0 rfl rfl dX5_learn_1 ?_
  refine lv_iconst (v := (0 : Int32)) hx hb dX5_learn_4 rfl ?_
  refine lv_iload_n hx hb dX5_learn_5 rfl (lv_at hl 1 rfl) ?_
  refine r_iastL (ws' := [(h_this, ob 5 [.ref h_this_kinds, .ref h_this_deeds, .ref h_this_begins, .ref h_this_steps, .ref h_this_lefts, .ref h_this_rights, .ref h_this_facts, .int x_this_count, .int x_this_size]), (h_this_facts, ia G 5 (upd f_this_facts 0 p0))]) C h 1 rfl (vlit rfl) 0 rfl dX5_learn_6 rfl (fun H locs h => ?_)
  refine lv_aload_n hx hb dX5_learn_7 rfl (lv_at hl 0 rfl) ?_
  refine r_get C h fk_X5_30 0 rfl rfl dX5_learn_8 ?_
  refine lv_iconst (v := (1 : Int32)) hx hb dX5_learn_11 rfl ?_
  refine lv_iload_n hx hb dX5_learn_12 rfl (lv_at hl 2 rfl) ?_
  refine r_iastL (ws' := [(h_this, ob 5 [.ref h_this_kinds, .ref h_this_deeds, .ref h_this_begins, .ref h_this_steps, .ref h_this_lefts, .ref h_this_rights, .ref h_this_facts, .int x_this_count, .int x_this_size]), (h_this_facts, ia G 5 (upd (upd f_this_facts 0 p0) 1 p1))]) C h 1 rfl (vlit rfl) 1 rfl dX5_learn_13 rfl (fun H locs h => ?_)
  refine lv_aload_n hx hb dX5_learn_14 rfl (lv_at hl 0 rfl) ?_
  refine r_get C h fk_X5_30 0 rfl rfl dX5_learn_15 ?_
  refine lv_iconst (v := (2 : Int32)) hx hb dX5_learn_18 rfl ?_
  refine lv_iload_n hx hb dX5_learn_19 rfl (lv_at hl 3 rfl) ?_
  refine r_iastL (ws' := [(h_this, ob 5 [.ref h_this_kinds, .ref h_this_deeds, .ref h_this_begins, .ref h_this_steps, .ref h_this_lefts, .ref h_this_rights, .ref h_this_facts, .int x_this_count, .int x_this_size]), (h_this_facts, ia G 5 (upd (upd (upd f_this_facts 0 p0) 1 p1) 2 p2))]) C h 1 rfl (vlit rfl) 2 rfl dX5_learn_20 rfl (fun H locs h => ?_)
  refine lv_aload_n hx hb dX5_learn_21 rfl (lv_at hl 0 rfl) ?_
  refine r_get C h fk_X5_30 0 rfl rfl dX5_learn_22 ?_
  refine lv_iconst (v := (3 : Int32)) hx hb dX5_learn_25 rfl ?_
  refine lv_iload hx hb dX5_learn_26 (lv_at hl 4 rfl) ?_
  refine r_iastL (ws' := [(h_this, ob 5 [.ref h_this_kinds, .ref h_this_deeds, .ref h_this_begins, .ref h_this_steps, .ref h_this_lefts, .ref h_this_rights, .ref h_this_facts, .int x_this_count, .int x_this_size]), (h_this_facts, ia G 5 (upd (upd (upd (upd f_this_facts 0 p0) 1 p1) 2 p2) 3 p3))]) C h 1 rfl (vlit rfl) 3 rfl dX5_learn_28 rfl (fun H locs h => ?_)
  refine lv_aload_n hx hb dX5_learn_29 rfl (lv_at hl 0 rfl) ?_
  refine r_get C h fk_X5_30 0 rfl rfl dX5_learn_30 ?_
  refine lv_iconst (v := (4 : Int32)) hx hb dX5_learn_33 rfl ?_
  refine lv_iload hx hb dX5_learn_34 (lv_at hl 5 rfl) ?_
  refine r_iastL (ws' := [(h_this, ob 5 [.ref h_this_kinds, .ref h_this_deeds, .ref h_this_begins, .ref h_this_steps, .ref h_this_lefts, .ref h_this_rights, .ref h_this_facts, .int x_this_count, .int x_this_size]), (h_this_facts, ia G 5 (upd (upd (upd (upd (upd f_this_facts 0 p0) 1 p1) 2 p2) 3 p3) 4 p4))]) C h 1 rfl (vlit rfl) 4 rfl dX5_learn_36 rfl (fun H locs h => ?_)
  cases hf
  exact r_vret C h hr hlk dX5_learn_37
set_option maxRecDepth 100000 in
set_option maxHeartbeats 4000000 in
theorem c_X8_isOrUnder {l : Launch} {G : Gt} {p0 : Int32} {p1 : Int32} {r : Int32} (hf : f_X8_isOrUnder p0 p1 = some r) : mFi l G yX8_isOrUnder cX8_isOrUnder 2 .boolean 0 [.int p0, .int p1] ([] : va_W) r ([] : va_W) := by
  refine mFi.of (by decide +kernel) (Nat.le_of_ble_eq_true rfl) ?_
  intro p e s m below meth c A C hr hlk h ls hl
  obtain ⟨hx, hb, hml, hown, hts⟩ := id C
  replace hl : lv_has ls 2 [(0, .int p0), (1, .int p1)] := hl
  unfold f_X8_isOrUnder at hf
  refine r_getSA C h sw_X8_375 dX8_isOrUnder_0 (fun aS hSA => ?_)
  refine lv_iload_n hx hb dX8_isOrUnder_3 rfl (lv_at hl 0 rfl) ?_
  replace hf := chkI_inv hf
  obtain ⟨hi1, hf⟩ := hf
  refine r_ldSA C h hSA hi1 dX8_isOrUnder_4 ?_
  refine lv_iload_n hx hb dX8_isOrUnder_5 rfl (lv_at hl 1 rfl) ?_
  refine lv_ishr hx hb dX8_isOrUnder_6 ?_
  refine lv_iconst (v := (1 : Int32)) hx hb dX8_isOrUnder_7 rfl ?_
  refine lv_iand hx hb dX8_isOrUnder_8 ?_
  refine lv_iconst (v := (1 : Int32)) hx hb dX8_isOrUnder_9 rfl ?_
  refine lv_icmp_ne (tgt := 17) hx hb dX8_isOrUnder_10 rfl (fun c2 => ?_) (fun c2 => ?_)
  · replace hf := ifn c2 hf
    refine lv_iconst (v := (0 : Int32)) hx hb dX8_isOrUnder_17 rfl ?_
    cases hf
    exact r_iret C h hr hlk rfl dX8_isOrUnder_18
  · replace hf := ifp c2 hf
    refine lv_iconst (v := (1 : Int32)) hx hb dX8_isOrUnder_13 rfl ?_
    refine lv_goto (tgt := 18) hx hb dX8_isOrUnder_14 rfl ?_
    cases hf
    exact r_iret C h hr hlk rfl dX8_isOrUnder_18
set_option maxRecDepth 100000 in
set_option maxHeartbeats 4000000 in
theorem c_X5_holds {l : Launch} {G : Gt} {h_this h_this_kinds h_this_deeds h_this_begins h_this_steps h_this_lefts h_this_rights h_this_facts : Nat} {p0 : Int32} {x_this_count : Int32} {x_this_size : Int32} {f_this_begins : Nat → Int32} {f_this_facts : Nat → Int32} {f_this_lefts : Nat → Int32} {f_this_rights : Nat → Int32} {f_this_steps : Nat → Int32} {r : Int32} (hf : f_X5_holds p0 f_this_begins f_this_facts f_this_lefts f_this_rights f_this_steps = some r) : mFi l G yX5_holds cX5_holds 6 .boolean 0 [.ref h_this, .int p0] [(h_this, ob 5 [.ref h_this_kinds, .ref h_this_deeds, .ref h_this_begins, .ref h_this_steps, .ref h_this_lefts, .ref h_this_rights, .ref h_this_facts, .int x_this_count, .int x_this_size]), (h_this_begins, ia G 9 f_this_begins), (h_this_facts, ia G 5 f_this_facts), (h_this_lefts, ia G 200 f_this_lefts), (h_this_rights, ia G 200 f_this_rights), (h_this_steps, ia G 200 f_this_steps)] r [(h_this, ob 5 [.ref h_this_kinds, .ref h_this_deeds, .ref h_this_begins, .ref h_this_steps, .ref h_this_lefts, .ref h_this_rights, .ref h_this_facts, .int x_this_count, .int x_this_size]), (h_this_begins, ia G 9 f_this_begins), (h_this_facts, ia G 5 f_this_facts), (h_this_lefts, ia G 200 f_this_lefts), (h_this_rights, ia G 200 f_this_rights), (h_this_steps, ia G 200 f_this_steps)] := by
  refine mFi.of (by decide +kernel) (Nat.le_of_ble_eq_true rfl) ?_
  intro p e s m below meth c A C hr hlk h ls hl
  obtain ⟨hx, hb, hml, hown, hts⟩ := id C
  replace hl : lv_has ls 6 [(0, .ref h_this), (1, .int p0)] := hl
  unfold f_X5_holds at hf
  refine with_K G A 6 (fun K hK1 hK2 => ?_)
  have B253 : ∀ (v2 : Int32), f_X5_holds_b253 v2 = some r → K 253 ([] : List Value) [(h_this, ob 5 [.ref h_this_kinds, .ref h_this_deeds, .ref h_this_begins, .ref h_this_steps, .ref h_this_lefts, .ref h_this_rights, .ref h_this_facts, .int x_this_count, .int x_this_size]), (h_this_begins, ia G 9 f_this_begins), (h_this_facts, ia G 5 f_this_facts), (h_this_lefts, ia G 200 f_this_lefts), (h_this_rights, ia G 200 f_this_rights), (h_this_steps, ia G 200 f_this_steps)] [(2, .int v2)] := by
    intro v2 hf
    unfold f_X5_holds_b253 at hf
    refine hK1 _ _ _ _ (fun H locs ls h hl => ?_)
    refine lv_iload_n hx hb dX5_holds_253 rfl (lv_at hl 0 rfl) ?_
    refine lv_iconst (v := (1 : Int32)) hx hb dX5_holds_254 rfl ?_
    refine lv_iand hx hb dX5_holds_255 ?_
    refine lv_iconst (v := (1 : Int32)) hx hb dX5_holds_256 rfl ?_
    refine lv_icmp_ne (tgt := 264) hx hb dX5_holds_257 rfl (fun c8 => ?_) (fun c8 => ?_)
    · replace hf := ifn c8 hf
      refine lv_iconst (v := (0 : Int32)) hx hb dX5_holds_264 rfl ?_
      cases hf
      exact r_iret C h hr hlk rfl dX5_holds_265
    · replace hf := ifp c8 hf
      refine lv_iconst (v := (1 : Int32)) hx hb dX5_holds_260 rfl ?_
      refine lv_goto (tgt := 265) hx hb dX5_holds_261 rfl ?_
      cases hf
      exact r_iret C h hr hlk rfl dX5_holds_265
  have B116 : ∀ (rec30 : Int32 → Int32 → Option (Int32)) (hrec30 : ∀ (v2 : Int32) (v3 : Int32), rec30 v2 v3 = some r → K 30 ([] : List Value) [(h_this, ob 5 [.ref h_this_kinds, .ref h_this_deeds, .ref h_this_begins, .ref h_this_steps, .ref h_this_lefts, .ref h_this_rights, .ref h_this_facts, .int x_this_count, .int x_this_size]), (h_this_begins, ia G 9 f_this_begins), (h_this_facts, ia G 5 f_this_facts), (h_this_lefts, ia G 200 f_this_lefts), (h_this_rights, ia G 200 f_this_rights), (h_this_steps, ia G 200 f_this_steps)] [(0, .ref h_this), (1, .int p0), (2, .int v2), (3, .int v3)]) (v2 : Int32) (v3 : Int32) (v4 : Int32) (s0 : Int32), f_X5_holds_b116 rec30 f_this_steps v2 v3 v4 s0 = some r → K 116 [.int s0] [(h_this, ob 5 [.ref h_this_kinds, .ref h_this_deeds, .ref h_this_begins, .ref h_this_steps, .ref h_this_lefts, .ref h_this_rights, .ref h_this_facts, .int x_this_count, .int x_this_size]), (h_this_begins, ia G 9 f_this_begins), (h_this_facts, ia G 5 f_this_facts), (h_this_lefts, ia G 200 f_this_lefts), (h_this_rights, ia G 200 f_this_rights), (h_this_steps, ia G 200 f_this_steps)] [(0, .ref h_this), (1, .int p0), (2, .int v2), (3, .int v3), (4, .int v4)] := by
    intro rec30 hrec30 v2 v3 v4 s0 hf
    unfold f_X5_holds_b116 at hf
    refine hK1 _ _ _ _ (fun H locs ls h hl => ?_)
    refine lv_istore (lv' := [(5, .int s0), (0, .ref h_this), (1, .int p0), (2, .int v2), (3, .int v3), (4, .int v4)]) hx hb dX5_holds_116 hl (by decide) rfl (fun ls hl => ?_)
    refine lv_aload_n hx hb dX5_holds_118 rfl (lv_at hl 1 rfl) ?_
    refine r_get C h fk_X5_21 0 rfl rfl dX5_holds_119 ?_
    refine lv_iload_n hx hb dX5_holds_122 rfl (lv_at hl 4 rfl) ?_
    replace hf := chkI_inv hf
    obtain ⟨hi17, hf⟩ := hf
    refine r_iald C h 5 rfl hi17 dX5_holds_123 ?_
    by_cases c18 : (f_this_steps v3.toNatClampNeg) = (1 : Int32)
    · replace hf := ifp c18 hf
      refine r_tab (tgt := 179) C dX5_holds_124 (1 : Int32) c18 (by decide) rfl rfl ?_
      refine lv_iload_n hx hb dX5_holds_179 rfl (lv_at hl 3 rfl) ?_
      refine lv_iconst (v := (1 : Int32)) hx hb dX5_holds_180 rfl ?_
      refine lv_ishr hx hb dX5_holds_181 ?_
      refine lv_iload_n hx hb dX5_holds_182 rfl (lv_at hl 3 rfl) ?_
      refine lv_iconst (v := (1 : Int32)) hx hb dX5_holds_183 rfl ?_
      refine lv_iand hx hb dX5_holds_184 ?_
      refine lv_ior hx hb dX5_holds_185 ?_
      refine lv_topi (fun t23 et23 => ?_)
      replace hf := lt1_inv et23 hf
      refine lv_istore_n (lv' := [(2, .int t23), (5, .int s0), (0, .ref h_this), (1, .int p0), (3, .int v3), (4, .int v4)]) hx hb dX5_holds_186 rfl hl (by decide) rfl (fun ls hl => ?_)
      refine lv_goto (tgt := 247) hx hb dX5_holds_187 rfl ?_
      obtain ⟨t24, et24⟩ : ∃ y : Int32, y = v3 + (1 : Int32) := ⟨_, rfl⟩
      replace hf := lt1_inv et24 hf
      refine lv_iinc (v := t24) (lv' := [(3, .int t24), (2, .int t23), (5, .int s0), (0, .ref h_this), (1, .int p0), (4, .int v4)]) hx hb dX5_holds_247 hl (k := 4) rfl (by rw [et24]; rfl) (by decide) rfl (fun ls hl => ?_)
      refine lv_goto (tgt := 30) hx hb dX5_holds_250 rfl ?_
      exact hK2 _ _ _ _ (hrec30 t23 t24 hf) _ _ _ h (lv_sub hl [3, 4, 1, 0] rfl)
    · replace hf := ifn c18 hf
      by_cases c19 : (f_this_steps v3.toNatClampNeg) = (2 : Int32)
      · replace hf := ifp c19 hf
        refine r_tab (tgt := 167) C dX5_holds_124 (2 : Int32) c19 (by decide) rfl rfl ?_
        refine lv_iload_n hx hb dX5_holds_167 rfl (lv_at hl 3 rfl) ?_
        refine lv_iconst (v := (1 : Int32)) hx hb dX5_holds_168 rfl ?_
        refine lv_ishr hx hb dX5_holds_169 ?_
        refine lv_iload_n hx hb dX5_holds_170 rfl (lv_at hl 3 rfl) ?_
        refine lv_bipush (v := (-2 : Int32)) hx hb dX5_holds_171 rfl ?_
        refine lv_ior hx hb dX5_holds_173 ?_
        refine lv_iand hx hb dX5_holds_174 ?_
        refine lv_topi (fun t25 et25 => ?_)
        replace hf := lt1_inv et25 hf
        refine lv_istore_n (lv' := [(2, .int t25), (5, .int s0), (0, .ref h_this), (1, .int p0), (3, .int v3), (4, .int v4)]) hx hb dX5_holds_175 rfl hl (by decide) rfl (fun ls hl => ?_)
        refine lv_goto (tgt := 247) hx hb dX5_holds_176 rfl ?_
        obtain ⟨t26, et26⟩ : ∃ y : Int32, y = v3 + (1 : Int32) := ⟨_, rfl⟩
        replace hf := lt1_inv et26 hf
        refine lv_iinc (v := t26) (lv' := [(3, .int t26), (2, .int t25), (5, .int s0), (0, .ref h_this), (1, .int p0), (4, .int v4)]) hx hb dX5_holds_247 hl (k := 4) rfl (by rw [et26]; rfl) (by decide) rfl (fun ls hl => ?_)
        refine lv_goto (tgt := 30) hx hb dX5_holds_250 rfl ?_
        exact hK2 _ _ _ _ (hrec30 t25 t26 hf) _ _ _ h (lv_sub hl [3, 4, 1, 0] rfl)
      · replace hf := ifn c19 hf
        by_cases c20 : (f_this_steps v3.toNatClampNeg) = (3 : Int32)
        · replace hf := ifp c20 hf
          refine r_tab (tgt := 160) C dX5_holds_124 (3 : Int32) c20 (by decide) rfl rfl ?_
          refine lv_iload_n hx hb dX5_holds_160 rfl (lv_at hl 3 rfl) ?_
          refine lv_iconst (v := (1 : Int32)) hx hb dX5_holds_161 rfl ?_
          refine lv_ixor hx hb dX5_holds_162 ?_
          refine lv_topi (fun t27 et27 => ?_)
          replace hf := lt1_inv et27 hf
          refine lv_istore_n (lv' := [(2, .int t27), (5, .int s0), (0, .ref h_this), (1, .int p0), (3, .int v3), (4, .int v4)]) hx hb dX5_holds_163 rfl hl (by decide) rfl (fun ls hl => ?_)
          refine lv_goto (tgt := 247) hx hb dX5_holds_164 rfl ?_
          obtain ⟨t28, et28⟩ : ∃ y : Int32, y = v3 + (1 : Int32) := ⟨_, rfl⟩
          replace hf := lt1_inv et28 hf
          refine lv_iinc (v := t28) (lv' := [(3, .int t28), (2, .int t27), (5, .int s0), (0, .ref h_this), (1, .int p0), (4, .int v4)]) hx hb dX5_holds_247 hl (k := 4) rfl (by rw [et28]; rfl) (by decide) rfl (fun ls hl => ?_)
          refine lv_goto (tgt := 30) hx hb dX5_holds_250 rfl ?_
          exact hK2 _ _ _ _ (hrec30 t27 t28 hf) _ _ _ h (lv_sub hl [3, 4, 1, 0] rfl)
        · replace hf := ifn c20 hf
          by_cases c21 : (f_this_steps v3.toNatClampNeg) = (4 : Int32)
          · replace hf := ifp c21 hf
            refine r_tab (tgt := 190) C dX5_holds_124 (4 : Int32) c21 (by decide) rfl rfl ?_
            refine lv_iload_n hx hb dX5_holds_190 rfl (lv_at hl 3 rfl) ?_
            refine lv_iconst (v := (1 : Int32)) hx hb dX5_holds_191 rfl ?_
            refine lv_ishl hx hb dX5_holds_192 ?_
            refine lv_iload hx hb dX5_holds_193 (lv_at hl 5 rfl) ?_
            refine lv_iload hx hb dX5_holds_195 (lv_at hl 0 rfl) ?_
            refine lv_icmp_ge (tgt := 204) hx hb dX5_holds_197 rfl (fun c29 => ?_) (fun c29 => ?_)
            · replace hf := ifp c29 hf
              refine lv_iconst (v := (0 : Int32)) hx hb dX5_holds_204 rfl ?_
              refine lv_ior hx hb dX5_holds_205 ?_
              refine lv_topi (fun t30 et30 => ?_)
              replace hf := lt1_inv et30 hf
              refine lv_istore_n (lv' := [(2, .int t30), (5, .int s0), (0, .ref h_this), (1, .int p0), (3, .int v3), (4, .int v4)]) hx hb dX5_holds_206 rfl hl (by decide) rfl (fun ls hl => ?_)
              refine lv_goto (tgt := 247) hx hb dX5_holds_207 rfl ?_
              obtain ⟨t31, et31⟩ : ∃ y : Int32, y = v3 + (1 : Int32) := ⟨_, rfl⟩
              replace hf := lt1_inv et31 hf
              refine lv_iinc (v := t31) (lv' := [(3, .int t31), (2, .int t30), (5, .int s0), (0, .ref h_this), (1, .int p0), (4, .int v4)]) hx hb dX5_holds_247 hl (k := 4) rfl (by rw [et31]; rfl) (by decide) rfl (fun ls hl => ?_)
              refine lv_goto (tgt := 30) hx hb dX5_holds_250 rfl ?_
              exact hK2 _ _ _ _ (hrec30 t30 t31 hf) _ _ _ h (lv_sub hl [3, 4, 1, 0] rfl)
            · replace hf := ifn c29 hf
              refine lv_iconst (v := (1 : Int32)) hx hb dX5_holds_200 rfl ?_
              refine lv_goto (tgt := 205) hx hb dX5_holds_201 rfl ?_
              refine lv_ior hx hb dX5_holds_205 ?_
              refine lv_topi (fun t32 et32 => ?_)
              replace hf := lt1_inv et32 hf
              refine lv_istore_n (lv' := [(2, .int t32), (5, .int s0), (0, .ref h_this), (1, .int p0), (3, .int v3), (4, .int v4)]) hx hb dX5_holds_206 rfl hl (by decide) rfl (fun ls hl => ?_)
              refine lv_goto (tgt := 247) hx hb dX5_holds_207 rfl ?_
              obtain ⟨t33, et33⟩ : ∃ y : Int32, y = v3 + (1 : Int32) := ⟨_, rfl⟩
              replace hf := lt1_inv et33 hf
              refine lv_iinc (v := t33) (lv' := [(3, .int t33), (2, .int t32), (5, .int s0), (0, .ref h_this), (1, .int p0), (4, .int v4)]) hx hb dX5_holds_247 hl (k := 4) rfl (by rw [et33]; rfl) (by decide) rfl (fun ls hl => ?_)
              refine lv_goto (tgt := 30) hx hb dX5_holds_250 rfl ?_
              exact hK2 _ _ _ _ (hrec30 t32 t33 hf) _ _ _ h (lv_sub hl [3, 4, 1, 0] rfl)
          · replace hf := ifn c21 hf
            by_cases c22 : (f_this_steps v3.toNatClampNeg) = (5 : Int32)
            · replace hf := ifp c22 hf
              refine r_tab (tgt := 210) C dX5_holds_124 (5 : Int32) c22 (by decide) rfl rfl ?_
              refine lv_iload_n hx hb dX5_holds_210 rfl (lv_at hl 3 rfl) ?_
              refine lv_iconst (v := (1 : Int32)) hx hb dX5_holds_211 rfl ?_
              refine lv_ishl hx hb dX5_holds_212 ?_
              refine lv_iload hx hb dX5_holds_213 (lv_at hl 5 rfl) ?_
              refine lv_iload hx hb dX5_holds_215 (lv_at hl 0 rfl) ?_
              refine lv_icmp_ne (tgt := 224) hx hb dX5_holds_217 rfl (fun c34 => ?_) (fun c34 => ?_)
              · replace hf := ifn c34 hf
                refine lv_iconst (v := (0 : Int32)) hx hb dX5_holds_224 rfl ?_
                refine lv_ior hx hb dX5_holds_225 ?_
                refine lv_topi (fun t35 et35 => ?_)
                replace hf := lt1_inv et35 hf
                refine lv_istore_n (lv' := [(2, .int t35), (5, .int s0), (0, .ref h_this), (1, .int p0), (3, .int v3), (4, .int v4)]) hx hb dX5_holds_226 rfl hl (by decide) rfl (fun ls hl => ?_)
                refine lv_goto (tgt := 247) hx hb dX5_holds_227 rfl ?_
                obtain ⟨t36, et36⟩ : ∃ y : Int32, y = v3 + (1 : Int32) := ⟨_, rfl⟩
                replace hf := lt1_inv et36 hf
                refine lv_iinc (v := t36) (lv' := [(3, .int t36), (2, .int t35), (5, .int s0), (0, .ref h_this), (1, .int p0), (4, .int v4)]) hx hb dX5_holds_247 hl (k := 4) rfl (by rw [et36]; rfl) (by decide) rfl (fun ls hl => ?_)
                refine lv_goto (tgt := 30) hx hb dX5_holds_250 rfl ?_
                exact hK2 _ _ _ _ (hrec30 t35 t36 hf) _ _ _ h (lv_sub hl [3, 4, 1, 0] rfl)
              · replace hf := ifp c34 hf
                refine lv_iconst (v := (1 : Int32)) hx hb dX5_holds_220 rfl ?_
                refine lv_goto (tgt := 225) hx hb dX5_holds_221 rfl ?_
                refine lv_ior hx hb dX5_holds_225 ?_
                refine lv_topi (fun t37 et37 => ?_)
                replace hf := lt1_inv et37 hf
                refine lv_istore_n (lv' := [(2, .int t37), (5, .int s0), (0, .ref h_this), (1, .int p0), (3, .int v3), (4, .int v4)]) hx hb dX5_holds_226 rfl hl (by decide) rfl (fun ls hl => ?_)
                refine lv_goto (tgt := 247) hx hb dX5_holds_227 rfl ?_
                obtain ⟨t38, et38⟩ : ∃ y : Int32, y = v3 + (1 : Int32) := ⟨_, rfl⟩
                replace hf := lt1_inv et38 hf
                refine lv_iinc (v := t38) (lv' := [(3, .int t38), (2, .int t37), (5, .int s0), (0, .ref h_this), (1, .int p0), (4, .int v4)]) hx hb dX5_holds_247 hl (k := 4) rfl (by rw [et38]; rfl) (by decide) rfl (fun ls hl => ?_)
                refine lv_goto (tgt := 30) hx hb dX5_holds_250 rfl ?_
                exact hK2 _ _ _ _ (hrec30 t37 t38 hf) _ _ _ h (lv_sub hl [3, 4, 1, 0] rfl)
            · replace hf := ifn c22 hf
              refine r_tabD (tgt := 230) C dX5_holds_124 [(1 : Int32), (2 : Int32), (3 : Int32), (4 : Int32), (5 : Int32)] (by decide) (nel_c c18 (nel_c c19 (nel_c c20 (nel_c c21 (nel_c c22 nel_0))))) rfl ?_
              refine lv_iload_n hx hb dX5_holds_230 rfl (lv_at hl 3 rfl) ?_
              refine lv_iconst (v := (1 : Int32)) hx hb dX5_holds_231 rfl ?_
              refine lv_ishl hx hb dX5_holds_232 ?_
              refine lv_iload hx hb dX5_holds_233 (lv_at hl 5 rfl) ?_
              refine lv_iload hx hb dX5_holds_235 (lv_at hl 0 rfl) ?_
              refine lv_icmp_le (tgt := 244) hx hb dX5_holds_237 rfl (fun c39 => ?_) (fun c39 => ?_)
              · replace hf := ifp c39 hf
                refine lv_iconst (v := (0 : Int32)) hx hb dX5_holds_244 rfl ?_
                refine lv_ior hx hb dX5_holds_245 ?_
                refine lv_topi (fun t40 et40 => ?_)
                replace hf := lt1_inv et40 hf
                refine lv_istore_n (lv' := [(2, .int t40), (5, .int s0), (0, .ref h_this), (1, .int p0), (3, .int v3), (4, .int v4)]) hx hb dX5_holds_246 rfl hl (by decide) rfl (fun ls hl => ?_)
                obtain ⟨t41, et41⟩ : ∃ y : Int32, y = v3 + (1 : Int32) := ⟨_, rfl⟩
                replace hf := lt1_inv et41 hf
                refine lv_iinc (v := t41) (lv' := [(3, .int t41), (2, .int t40), (5, .int s0), (0, .ref h_this), (1, .int p0), (4, .int v4)]) hx hb dX5_holds_247 hl (k := 4) rfl (by rw [et41]; rfl) (by decide) rfl (fun ls hl => ?_)
                refine lv_goto (tgt := 30) hx hb dX5_holds_250 rfl ?_
                exact hK2 _ _ _ _ (hrec30 t40 t41 hf) _ _ _ h (lv_sub hl [3, 4, 1, 0] rfl)
              · replace hf := ifn c39 hf
                refine lv_iconst (v := (1 : Int32)) hx hb dX5_holds_240 rfl ?_
                refine lv_goto (tgt := 245) hx hb dX5_holds_241 rfl ?_
                refine lv_ior hx hb dX5_holds_245 ?_
                refine lv_topi (fun t42 et42 => ?_)
                replace hf := lt1_inv et42 hf
                refine lv_istore_n (lv' := [(2, .int t42), (5, .int s0), (0, .ref h_this), (1, .int p0), (3, .int v3), (4, .int v4)]) hx hb dX5_holds_246 rfl hl (by decide) rfl (fun ls hl => ?_)
                obtain ⟨t43, et43⟩ : ∃ y : Int32, y = v3 + (1 : Int32) := ⟨_, rfl⟩
                replace hf := lt1_inv et43 hf
                refine lv_iinc (v := t43) (lv' := [(3, .int t43), (2, .int t42), (5, .int s0), (0, .ref h_this), (1, .int p0), (4, .int v4)]) hx hb dX5_holds_247 hl (k := 4) rfl (by rw [et43]; rfl) (by decide) rfl (fun ls hl => ?_)
                refine lv_goto (tgt := 30) hx hb dX5_holds_250 rfl ?_
                exact hK2 _ _ _ _ (hrec30 t42 t43 hf) _ _ _ h (lv_sub hl [3, 4, 1, 0] rfl)
  have B78 : ∀ (rec30 : Int32 → Int32 → Option (Int32)) (hrec30 : ∀ (v2 : Int32) (v3 : Int32), rec30 v2 v3 = some r → K 30 ([] : List Value) [(h_this, ob 5 [.ref h_this_kinds, .ref h_this_deeds, .ref h_this_begins, .ref h_this_steps, .ref h_this_lefts, .ref h_this_rights, .ref h_this_facts, .int x_this_count, .int x_this_size]), (h_this_begins, ia G 9 f_this_begins), (h_this_facts, ia G 5 f_this_facts), (h_this_lefts, ia G 200 f_this_lefts), (h_this_rights, ia G 200 f_this_rights), (h_this_steps, ia G 200 f_this_steps)] [(0, .ref h_this), (1, .int p0), (2, .int v2), (3, .int v3)]) (v2 : Int32) (v3 : Int32) (s0 : Int32), f_X5_holds_b78 rec30 f_this_facts f_this_rights f_this_steps v2 v3 s0 = some r → K 78 [.int s0] [(h_this, ob 5 [.ref h_this_kinds, .ref h_this_deeds, .ref h_this_begins, .ref h_this_steps, .ref h_this_lefts, .ref h_this_rights, .ref h_this_facts, .int x_this_count, .int x_this_size]), (h_this_begins, ia G 9 f_this_begins), (h_this_facts, ia G 5 f_this_facts), (h_this_lefts, ia G 200 f_this_lefts), (h_this_rights, ia G 200 f_this_rights), (h_this_steps, ia G 200 f_this_steps)] [(0, .ref h_this), (1, .int p0), (2, .int v2), (3, .int v3)] := by
    intro rec30 hrec30 v2 v3 s0 hf
    unfold f_X5_holds_b78 at hf
    refine hK1 _ _ _ _ (fun H locs ls h hl => ?_)
    refine lv_istore (lv' := [(4, .int s0), (0, .ref h_this), (1, .int p0), (2, .int v2), (3, .int v3)]) hx hb dX5_holds_78 hl (by decide) rfl (fun ls hl => ?_)
    refine lv_aload_n hx hb dX5_holds_80 rfl (lv_at hl 1 rfl) ?_
    refine r_get C h fk_X5_27 0 rfl rfl dX5_holds_81 ?_
    refine lv_iload_n hx hb dX5_holds_84 rfl (lv_at hl 4 rfl) ?_
    replace hf := chkI_inv hf
    obtain ⟨hi13, hf⟩ := hf
    refine r_iald C h 4 rfl hi13 dX5_holds_85 ?_
    refine lv_sipush (v := (10000 : Int32)) hx hb dX5_holds_86 rfl ?_
    refine lv_icmp_ge (tgt := 101) hx hb dX5_holds_89 rfl (fun c14 => ?_) (fun c14 => ?_)
    · replace hf := ifp c14 hf
      refine lv_aload_n hx hb dX5_holds_101 rfl (lv_at hl 1 rfl) ?_
      refine r_get C h fk_X5_30 0 rfl rfl dX5_holds_102 ?_
      refine lv_aload_n hx hb dX5_holds_105 rfl (lv_at hl 1 rfl) ?_
      refine r_get C h fk_X5_27 0 rfl rfl dX5_holds_106 ?_
      refine lv_iload_n hx hb dX5_holds_109 rfl (lv_at hl 4 rfl) ?_
      replace hf := chkI_inv hf
      obtain ⟨hi15, hf⟩ := hf
      refine r_iald C h 4 rfl hi15 dX5_holds_110 ?_
      refine lv_sipush (v := (10000 : Int32)) hx hb dX5_holds_111 rfl ?_
      refine lv_isub hx hb dX5_holds_114 ?_
      replace hf := chkI_inv hf
      obtain ⟨hi16, hf⟩ := hf
      refine r_iald C h 2 rfl hi16 dX5_holds_115 ?_
      exact hK2 _ _ _ _ (B116 _ hrec30 v2 v3 s0 (f_this_facts ((f_this_rights v3.toNatClampNeg) - (10000 : Int32)).toNatClampNeg) hf) _ _ _ h (lv_sub hl [1, 2, 3, 4, 0] rfl)
    · replace hf := ifn c14 hf
      refine lv_aload_n hx hb dX5_holds_92 rfl (lv_at hl 1 rfl) ?_
      refine r_get C h fk_X5_27 0 rfl rfl dX5_holds_93 ?_
      refine lv_iload_n hx hb dX5_holds_96 rfl (lv_at hl 4 rfl) ?_
      replace hf := chkI_inv hf
      obtain ⟨hi44, hf⟩ := hf
      refine r_iald C h 4 rfl hi44 dX5_holds_97 ?_
      refine lv_goto (tgt := 116) hx hb dX5_holds_98 rfl ?_
      exact hK2 _ _ _ _ (B116 _ hrec30 v2 v3 s0 (f_this_rights v3.toNatClampNeg) hf) _ _ _ h (lv_sub hl [1, 2, 3, 4, 0] rfl)
  have L30 : ∀ (n : Nat) (v2 : Int32) (v3 : Int32), f_X5_holds_L30 p0 f_this_begins f_this_facts f_this_lefts f_this_rights f_this_steps n v2 v3 = some r → K 30 ([] : List Value) [(h_this, ob 5 [.ref h_this_kinds, .ref h_this_deeds, .ref h_this_begins, .ref h_this_steps, .ref h_this_lefts, .ref h_this_rights, .ref h_this_facts, .int x_this_count, .int x_this_size]), (h_this_begins, ia G 9 f_this_begins), (h_this_facts, ia G 5 f_this_facts), (h_this_lefts, ia G 200 f_this_lefts), (h_this_rights, ia G 200 f_this_rights), (h_this_steps, ia G 200 f_this_steps)] [(0, .ref h_this), (1, .int p0), (2, .int v2), (3, .int v3)] := by
    intro n
    induction n with
    | zero =>
      intro v2 v3 hf
      replace hf : (none : Option _) = some _ := hf
      cases hf
    | succ n ih =>
      intro v2 v3 hf
      rw [f_X5_holds_L30] at hf
      refine hK1 _ _ _ _ (fun H locs ls h hl => ?_)
      refine lv_iload_n hx hb dX5_holds_30 rfl (lv_at hl 3 rfl) ?_
      refine lv_aload_n hx hb dX5_holds_31 rfl (lv_at hl 0 rfl) ?_
      refine r_get C h fk_X5_18 0 rfl rfl dX5_holds_32 ?_
      refine lv_iload_n hx hb dX5_holds_35 rfl (lv_at hl 1 rfl) ?_
      refine lv_iconst (v := (1 : Int32)) hx hb dX5_holds_36 rfl ?_
      refine lv_iadd hx hb dX5_holds_37 ?_
      replace hf := chkI_inv hf
      obtain ⟨hi6, hf⟩ := hf
      refine r_iald C h 1 rfl hi6 dX5_holds_38 ?_
      refine lv_icmp_ge (tgt := 253) hx hb dX5_holds_39 rfl (fun c7 => ?_) (fun c7 => ?_)
      · replace hf := ifp c7 hf
        exact hK2 _ _ _ _ (B253 v2 hf) _ _ _ h (lv_sub hl [2] rfl)
      · replace hf := ifn c7 hf
        refine lv_aload_n hx hb dX5_holds_42 rfl (lv_at hl 0 rfl) ?_
        refine r_get C h fk_X5_24 0 rfl rfl dX5_holds_43 ?_
        refine lv_iload_n hx hb dX5_holds_46 rfl (lv_at hl 3 rfl) ?_
        replace hf := chkI_inv hf
        obtain ⟨hi9, hf⟩ := hf
        refine r_iald C h 3 rfl hi9 dX5_holds_47 ?_
        refine lv_sipush (v := (10000 : Int32)) hx hb dX5_holds_48 rfl ?_
        refine lv_icmp_ge (tgt := 63) hx hb dX5_holds_51 rfl (fun c10 => ?_) (fun c10 => ?_)
        · replace hf := ifp c10 hf
          refine lv_aload_n hx hb dX5_holds_63 rfl (lv_at hl 0 rfl) ?_
          refine r_get C h fk_X5_30 0 rfl rfl dX5_holds_64 ?_
          refine lv_aload_n hx hb dX5_holds_67 rfl (lv_at hl 0 rfl) ?_
          refine r_get C h fk_X5_24 0 rfl rfl dX5_holds_68 ?_
          refine lv_iload_n hx hb dX5_holds_71 rfl (lv_at hl 3 rfl) ?_
          replace hf := chkI_inv hf
          obtain ⟨hi11, hf⟩ := hf
          refine r_iald C h 3 rfl hi11 dX5_holds_72 ?_
          refine lv_sipush (v := (10000 : Int32)) hx hb dX5_holds_73 rfl ?_
          refine lv_isub hx hb dX5_holds_76 ?_
          replace hf := chkI_inv hf
          obtain ⟨hi12, hf⟩ := hf
          refine r_iald C h 2 rfl hi12 dX5_holds_77 ?_
          exact hK2 _ _ _ _ (B78 _ ih v2 v3 (f_this_facts ((f_this_lefts v3.toNatClampNeg) - (10000 : Int32)).toNatClampNeg) hf) _ _ _ h (lv_sub hl [0, 1, 2, 3] rfl)
        · replace hf := ifn c10 hf
          refine lv_aload_n hx hb dX5_holds_54 rfl (lv_at hl 0 rfl) ?_
          refine r_get C h fk_X5_24 0 rfl rfl dX5_holds_55 ?_
          refine lv_iload_n hx hb dX5_holds_58 rfl (lv_at hl 3 rfl) ?_
          replace hf := chkI_inv hf
          obtain ⟨hi45, hf⟩ := hf
          refine r_iald C h 3 rfl hi45 dX5_holds_59 ?_
          refine lv_goto (tgt := 78) hx hb dX5_holds_60 rfl ?_
          exact hK2 _ _ _ _ (B78 _ ih v2 v3 (f_this_lefts v3.toNatClampNeg) hf) _ _ _ h (lv_sub hl [0, 1, 2, 3] rfl)
  have B22 : ∀ (s0 : Int32), f_X5_holds_b22 p0 f_this_begins f_this_facts f_this_lefts f_this_rights f_this_steps s0 = some r → K 22 [.int s0] [(h_this, ob 5 [.ref h_this_kinds, .ref h_this_deeds, .ref h_this_begins, .ref h_this_steps, .ref h_this_lefts, .ref h_this_rights, .ref h_this_facts, .int x_this_count, .int x_this_size]), (h_this_begins, ia G 9 f_this_begins), (h_this_facts, ia G 5 f_this_facts), (h_this_lefts, ia G 200 f_this_lefts), (h_this_rights, ia G 200 f_this_rights), (h_this_steps, ia G 200 f_this_steps)] [(0, .ref h_this), (1, .int p0)] := by
    intro s0 hf
    unfold f_X5_holds_b22 at hf
    refine hK1 _ _ _ _ (fun H locs ls h hl => ?_)
    refine lv_istore_n (lv' := [(2, .int s0), (0, .ref h_this), (1, .int p0)]) hx hb dX5_holds_22 rfl hl (by decide) rfl (fun ls hl => ?_)
    refine lv_aload_n hx hb dX5_holds_23 rfl (lv_at hl 1 rfl) ?_
    refine r_get C h fk_X5_18 0 rfl rfl dX5_holds_24 ?_
    refine lv_iload_n hx hb dX5_holds_27 rfl (lv_at hl 2 rfl) ?_
    replace hf := chkI_inv hf
    obtain ⟨hi4, hf⟩ := hf
    refine r_iald C h 1 rfl hi4 dX5_holds_28 ?_
    refine lv_topi (fun t5 et5 => ?_)
    replace hf := lt1_inv et5 hf
    refine lv_istore_n (lv' := [(3, .int t5), (2, .int s0), (0, .ref h_this), (1, .int p0)]) hx hb dX5_holds_29 rfl hl (by decide) rfl (fun ls hl => ?_)
    exact hK2 _ _ _ _ (L30 1000 s0 t5 hf) _ _ _ h (lv_sub hl [2, 3, 1, 0] rfl)
  refine lv_aload_n hx hb dX5_holds_0 rfl (lv_at hl 0 rfl) ?_
  refine r_get C h fk_X5_18 0 rfl rfl dX5_holds_1 ?_
  refine lv_iload_n hx hb dX5_holds_4 rfl (lv_at hl 1 rfl) ?_
  replace hf := chkI_inv hf
  obtain ⟨hi1, hf⟩ := hf
  refine r_iald C h 1 rfl hi1 dX5_holds_5 ?_
  refine lv_aload_n hx hb dX5_holds_6 rfl (lv_at hl 0 rfl) ?_
  refine r_get C h fk_X5_18 0 rfl rfl dX5_holds_7 ?_
  refine lv_iload_n hx hb dX5_holds_10 rfl (lv_at hl 1 rfl) ?_
  refine lv_iconst (v := (1 : Int32)) hx hb dX5_holds_11 rfl ?_
  refine lv_iadd hx hb dX5_holds_12 ?_
  replace hf := chkI_inv hf
  obtain ⟨hi2, hf⟩ := hf
  refine r_iald C h 1 rfl hi2 dX5_holds_13 ?_
  refine lv_icmp_ne (tgt := 21) hx hb dX5_holds_14 rfl (fun c3 => ?_) (fun c3 => ?_)
  · replace hf := ifn c3 hf
    refine lv_iconst (v := (0 : Int32)) hx hb dX5_holds_21 rfl ?_
    exact hK2 _ _ _ _ (B22 (0 : Int32) hf) _ _ _ h (lv_sub hl [0, 1] rfl)
  · replace hf := ifp c3 hf
    refine lv_iconst (v := (1 : Int32)) hx hb dX5_holds_17 rfl ?_
    refine lv_goto (tgt := 22) hx hb dX5_holds_18 rfl ?_
    exact hK2 _ _ _ _ (B22 (1 : Int32) hf) _ _ _ h (lv_sub hl [0, 1] rfl)
