set_option maxRecDepth 100000 in
set_option maxHeartbeats 4000000 in
theorem c_X3_will {l : Launch} {G : Gt} {h_a0 h_a0_off h_this h_this_kinds h_this_trims h_this_lanes h_this_lights h_this_currents h_this_buoys h_this_now h_this_rules h_this_reports h_this_rules_kinds h_this_rules_deeds h_this_rules_begins h_this_rules_steps h_this_rules_lefts h_this_rules_rights h_this_rules_facts : Nat} {p1 : Int32} {x_a0_watch : Int32} {x_a0_score : Int32} {x_a0_home : Int32} {f_a0_off : Nat → Int32} {x_this_count : Int32} {x_this_end : Int32} {x_this_z : Int32} {f_this_kinds : Nat → Int32} {f_this_lights : Nat → Int32} {x_this_rules_count : Int32} {x_this_rules_size : Int32} {f_this_rules_begins : Nat → Int32} {f_this_rules_deeds : Nat → Int32} {f_this_rules_facts : Nat → Int32} {f_this_rules_kinds : Nat → Int32} {f_this_rules_lefts : Nat → Int32} {f_this_rules_rights : Nat → Int32} {f_this_rules_steps : Nat → Int32} {f_this_trims : Nat → Int32} {r : Int32} {m_this_rules_facts : Nat → Int32} (hf : f_X3_will p1 x_a0_watch f_a0_off f_this_kinds f_this_lights x_this_rules_count f_this_rules_begins f_this_rules_deeds f_this_rules_facts f_this_rules_kinds f_this_rules_lefts f_this_rules_rights f_this_rules_steps f_this_trims = some (r, m_this_rules_facts)) : mFi l G yX3_will cX3_will 4 .int 1 [.ref h_this, .ref h_a0, .int p1] [(h_a0, ob 6 [.ref h_a0_off, .int x_a0_watch, .int x_a0_score, .int x_a0_home]), (h_a0_off, ia G 6 f_a0_off), (h_this, ob 3 [.ref h_this_kinds, .ref h_this_trims, .ref h_this_lanes, .ref h_this_lights, .ref h_this_currents, .ref h_this_buoys, .ref h_this_now, .ref h_this_rules, .ref h_this_reports, .int x_this_count, .int x_this_end, .int x_this_z]), (h_this_kinds, ia G 6 f_this_kinds), (h_this_lights, ia G 16 f_this_lights), (h_this_rules, ob 5 [.ref h_this_rules_kinds, .ref h_this_rules_deeds, .ref h_this_rules_begins, .ref h_this_rules_steps, .ref h_this_rules_lefts, .ref h_this_rules_rights, .ref h_this_rules_facts, .int x_this_rules_count, .int x_this_rules_size]), (h_this_rules_begins, ia G 9 f_this_rules_begins), (h_this_rules_deeds, ia G 8 f_this_rules_deeds), (h_this_rules_facts, ia G 5 f_this_rules_facts), (h_this_rules_kinds, ia G 8 f_this_rules_kinds), (h_this_rules_lefts, ia G 200 f_this_rules_lefts), (h_this_rules_rights, ia G 200 f_this_rules_rights), (h_this_rules_steps, ia G 200 f_this_rules_steps), (h_this_trims, ia G 6 f_this_trims)] r [(h_a0, ob 6 [.ref h_a0_off, .int x_a0_watch, .int x_a0_score, .int x_a0_home]), (h_a0_off, ia G 6 f_a0_off), (h_this, ob 3 [.ref h_this_kinds, .ref h_this_trims, .ref h_this_lanes, .ref h_this_lights, .ref h_this_currents, .ref h_this_buoys, .ref h_this_now, .ref h_this_rules, .ref h_this_reports, .int x_this_count, .int x_this_end, .int x_this_z]), (h_this_kinds, ia G 6 f_this_kinds), (h_this_lights, ia G 16 f_this_lights), (h_this_rules, ob 5 [.ref h_this_rules_kinds, .ref h_this_rules_deeds, .ref h_this_rules_begins, .ref h_this_rules_steps, .ref h_this_rules_lefts, .ref h_this_rules_rights, .ref h_this_rules_facts, .int x_this_rules_count, .int x_this_rules_size]), (h_this_rules_begins, ia G 9 f_this_rules_begins), (h_this_rules_deeds, ia G 8 f_this_rules_deeds), (h_this_rules_facts, ia G 5 m_this_rules_facts), (h_this_rules_kinds, ia G 8 f_this_rules_kinds), (h_this_rules_lefts, ia G 200 f_this_rules_lefts), (h_this_rules_rights, ia G 200 f_this_rules_rights), (h_this_rules_steps, ia G 200 f_this_rules_steps), (h_this_trims, ia G 6 f_this_trims)] := by
  refine mFi.of (by decide +kernel) (Nat.le_of_ble_eq_true rfl) ?_
  intro p e s m below meth c A C hr hlk h ls hl
  obtain ⟨hx, hb, hml, hown, hts⟩ := id C
  replace hl : lv_has ls 4 [(0, .ref h_this), (1, .ref h_a0), (2, .int p1)] := hl
  unfold f_X3_will at hf
  refine with_K G A 4 (fun K hK1 hK2 => ?_)
  have L36 : ∀ (n : Nat) (v3 : Int32) (g_this_rules_facts : Nat → Int32), f_X3_will_L36 p1 f_this_kinds x_this_rules_count f_this_rules_begins f_this_rules_deeds f_this_rules_kinds f_this_rules_lefts f_this_rules_rights f_this_rules_steps n v3 g_this_rules_facts = some (r, m_this_rules_facts) → K 36 ([] : List Value) [(h_a0, ob 6 [.ref h_a0_off, .int x_a0_watch, .int x_a0_score, .int x_a0_home]), (h_a0_off, ia G 6 f_a0_off), (h_this, ob 3 [.ref h_this_kinds, .ref h_this_trims, .ref h_this_lanes, .ref h_this_lights, .ref h_this_currents, .ref h_this_buoys, .ref h_this_now, .ref h_this_rules, .ref h_this_reports, .int x_this_count, .int x_this_end, .int x_this_z]), (h_this_kinds, ia G 6 f_this_kinds), (h_this_lights, ia G 16 f_this_lights), (h_this_rules, ob 5 [.ref h_this_rules_kinds, .ref h_this_rules_deeds, .ref h_this_rules_begins, .ref h_this_rules_steps, .ref h_this_rules_lefts, .ref h_this_rules_rights, .ref h_this_rules_facts, .int x_this_rules_count, .int x_this_rules_size]), (h_this_rules_begins, ia G 9 f_this_rules_begins), (h_this_rules_deeds, ia G 8 f_this_rules_deeds), (h_this_rules_facts, ia G 5 g_this_rules_facts), (h_this_rules_kinds, ia G 8 f_this_rules_kinds), (h_this_rules_lefts, ia G 200 f_this_rules_lefts), (h_this_rules_rights, ia G 200 f_this_rules_rights), (h_this_rules_steps, ia G 200 f_this_rules_steps), (h_this_trims, ia G 6 f_this_trims)] [(0, .ref h_this), (2, .int p1), (3, .int v3)] := by
    intro n
    induction n with
    | zero =>
      intro v3 g_this_rules_facts hf
      replace hf : (none : Option _) = some _ := hf
      cases hf
    | succ n ih =>
      intro v3 g_this_rules_facts hf
      rw [f_X3_will_L36] at hf
      refine hK1 _ _ _ _ (fun H locs ls h hl => ?_)
      refine lv_iload_n hx hb dX3_will_36 rfl (lv_at hl 2 rfl) ?_
      refine lv_aload_n hx hb dX3_will_37 rfl (lv_at hl 0 rfl) ?_
      refine r_get C h fk_X3_40 2 rfl rfl dX3_will_38 ?_
      refine r_get C h fk_X3_121 5 rfl rfl dX3_will_41 ?_
      refine lv_icmp_ge (tgt := 95) hx hb dX3_will_44 rfl (fun c7 => ?_) (fun c7 => ?_)
      · replace hf := ifp c7 hf
        refine lv_iconst (v := (0 : Int32)) hx hb dX3_will_95 rfl ?_
        cases hf
        exact r_iret C h hr hlk rfl dX3_will_96
      · replace hf := ifn c7 hf
        refine lv_aload_n hx hb dX3_will_47 rfl (lv_at hl 0 rfl) ?_
        refine r_get C h fk_X3_9 2 rfl rfl dX3_will_48 ?_
        refine lv_iload_n hx hb dX3_will_51 rfl (lv_at hl 1 rfl) ?_
        replace hf := chkI_inv hf
        obtain ⟨hi8, hf⟩ := hf
        refine r_iald C h 3 rfl hi8 dX3_will_52 ?_
        refine lv_aload_n hx hb dX3_will_53 rfl (lv_at hl 0 rfl) ?_
        refine r_get C h fk_X3_40 2 rfl rfl dX3_will_54 ?_
        refine r_get C h fk_X3_122 5 rfl rfl dX3_will_57 ?_
        refine lv_iload_n hx hb dX3_will_60 rfl (lv_at hl 2 rfl) ?_
        replace hf := chkI_inv hf
        obtain ⟨hi9, hf⟩ := hf
        refine r_iald C h 9 rfl hi9 dX3_will_61 ?_
        replace hf := bd1_inv hf
        obtain ⟨r10, hc11, hf⟩ := hf
        refine r_ciN0 C h (c_X8_isOrUnder hc11) mn_X3_123 rfl [] rfl rfl hl.1 rfl (Nat.le_of_ble_eq_true rfl) (rok (by decide)) dX3_will_62 (fun H locs h => ?_)
        refine lv_if_eq (tgt := 89) hx hb dX3_will_65 rfl (fun c12 => ?_) (fun c12 => ?_)
        · replace hf := ifp c12 hf
          obtain ⟨t13, et13⟩ : ∃ y : Int32, y = v3 + (1 : Int32) := ⟨_, rfl⟩
          replace hf := lt1_inv et13 hf
          refine lv_iinc (v := t13) (lv' := [(3, .int t13), (0, .ref h_this), (2, .int p1)]) hx hb dX3_will_89 hl (k := 2) rfl (by rw [et13]; rfl) (by decide) rfl (fun ls hl => ?_)
          refine lv_goto (tgt := 36) hx hb dX3_will_92 rfl ?_
          exact hK2 _ _ _ _ (ih t13 g_this_rules_facts hf) _ _ _ h (lv_sub hl [1, 2, 0] rfl)
        · replace hf := ifn c12 hf
          refine lv_aload_n hx hb dX3_will_68 rfl (lv_at hl 0 rfl) ?_
          refine r_get C h fk_X3_40 2 rfl rfl dX3_will_69 ?_
          refine lv_iload_n hx hb dX3_will_72 rfl (lv_at hl 2 rfl) ?_
          replace hf := bd1_inv hf
          obtain ⟨r14, hc15, hf⟩ := hf
          refine r_ciV0 C h (c_X5_holds hc15) mv_X3_127 rfl 5 rfl [5, 6, 8, 10, 11, 12] rfl rfl hl.1 rfl (Nat.le_of_ble_eq_true rfl) (rok (by decide)) dX3_will_73 (fun H locs h => ?_)
          refine lv_if_eq (tgt := 89) hx hb dX3_will_76 rfl (fun c16 => ?_) (fun c16 => ?_)
          · replace hf := ifp c16 hf
            obtain ⟨t17, et17⟩ : ∃ y : Int32, y = v3 + (1 : Int32) := ⟨_, rfl⟩
            replace hf := lt1_inv et17 hf
            refine lv_iinc (v := t17) (lv' := [(3, .int t17), (0, .ref h_this), (2, .int p1)]) hx hb dX3_will_89 hl (k := 2) rfl (by rw [et17]; rfl) (by decide) rfl (fun ls hl => ?_)
            refine lv_goto (tgt := 36) hx hb dX3_will_92 rfl ?_
            exact hK2 _ _ _ _ (ih t17 g_this_rules_facts hf) _ _ _ h (lv_sub hl [1, 2, 0] rfl)
          · replace hf := ifn c16 hf
            refine lv_aload_n hx hb dX3_will_79 rfl (lv_at hl 0 rfl) ?_
            refine r_get C h fk_X3_40 2 rfl rfl dX3_will_80 ?_
            refine r_get C h fk_X3_130 5 rfl rfl dX3_will_83 ?_
            refine lv_iload_n hx hb dX3_will_86 rfl (lv_at hl 2 rfl) ?_
            replace hf := chkI_inv hf
            obtain ⟨hi18, hf⟩ := hf
            refine r_iald C h 7 rfl hi18 dX3_will_87 ?_
            cases hf
            exact r_iret C h hr hlk rfl dX3_will_88
  refine lv_aload_n hx hb dX3_will_0 rfl (lv_at hl 0 rfl) ?_
  refine r_get C h fk_X3_40 2 rfl rfl dX3_will_1 ?_
  refine lv_aload_n hx hb dX3_will_4 rfl (lv_at hl 1 rfl) ?_
  refine r_get C h fk_X3_83 0 rfl rfl dX3_will_5 ?_
  refine lv_aload_n hx hb dX3_will_8 rfl (lv_at hl 1 rfl) ?_
  refine r_get C h fk_X3_86 0 rfl rfl dX3_will_9 ?_
  refine lv_iload_n hx hb dX3_will_12 rfl (lv_at hl 2 rfl) ?_
  replace hf := chkI_inv hf
  obtain ⟨hi1, hf⟩ := hf
  refine r_iald C h 1 rfl hi1 dX3_will_13 ?_
  refine lv_aload_n hx hb dX3_will_14 rfl (lv_at hl 0 rfl) ?_
  refine r_get C h fk_X3_15 2 rfl rfl dX3_will_15 ?_
  refine lv_iload_n hx hb dX3_will_18 rfl (lv_at hl 2 rfl) ?_
  replace hf := chkI_inv hf
  obtain ⟨hi2, hf⟩ := hf
  refine r_iald C h 13 rfl hi2 dX3_will_19 ?_
  refine lv_aload_n hx hb dX3_will_20 rfl (lv_at hl 0 rfl) ?_
  refine lv_aload_n hx hb dX3_will_21 rfl (lv_at hl 1 rfl) ?_
  refine r_get C h fk_X3_83 0 rfl rfl dX3_will_22 ?_
  replace hf := bd1_inv hf
  obtain ⟨r3, hc4, hf⟩ := hf
  refine r_ciV0 C h (c_X3_lightAt hc4) mv_X3_93 rfl 2 rfl [2, 4] rfl rfl hl.1 rfl (Nat.le_of_ble_eq_true rfl) (rok (by decide)) dX3_will_25 (fun H locs h => ?_)
  refine lv_iconst (v := (2 : Int32)) hx hb dX3_will_28 rfl ?_
  refine lv_ishr hx hb dX3_will_29 ?_
  refine lv_iload_n hx hb dX3_will_30 rfl (lv_at hl 2 rfl) ?_
  replace hf := bd1_inv hf
  obtain ⟨g5, hc6, hf⟩ := hf
  refine r_cvV (ws' := [(h_a0, ob 6 [.ref h_a0_off, .int x_a0_watch, .int x_a0_score, .int x_a0_home]), (h_a0_off, ia G 6 f_a0_off), (h_this, ob 3 [.ref h_this_kinds, .ref h_this_trims, .ref h_this_lanes, .ref h_this_lights, .ref h_this_currents, .ref h_this_buoys, .ref h_this_now, .ref h_this_rules, .ref h_this_reports, .int x_this_count, .int x_this_end, .int x_this_z]), (h_this_kinds, ia G 6 f_this_kinds), (h_this_lights, ia G 16 f_this_lights), (h_this_rules, ob 5 [.ref h_this_rules_kinds, .ref h_this_rules_deeds, .ref h_this_rules_begins, .ref h_this_rules_steps, .ref h_this_rules_lefts, .ref h_this_rules_rights, .ref h_this_rules_facts, .int x_this_rules_count, .int x_this_rules_size]), (h_this_rules_begins, ia G 9 f_this_rules_begins), (h_this_rules_deeds, ia G 8 f_this_rules_deeds), (h_this_rules_facts, ia G 5 g5), (h_this_rules_kinds, ia G 8 f_this_rules_kinds), (h_this_rules_lefts, ia G 200 f_this_rules_lefts), (h_this_rules_rights, ia G 200 f_this_rules_rights), (h_this_rules_steps, ia G 200 f_this_rules_steps), (h_this_trims, ia G 6 f_this_trims)]) C h (c_X5_learn hc6) mv_X3_117 rfl 5 rfl [5, 8] rfl rfl [8] [(h_this_rules_facts, ia G 5 g5)] rfl rfl (by decide +kernel) rfl hl.1 rfl (Nat.le_of_ble_eq_true rfl) (rok (by decide)) dX3_will_31 (fun H locs h => ?_)
  refine lv_iconst (v := (0 : Int32)) hx hb dX3_will_34 rfl ?_
  refine lv_istore_n (lv' := [(3, .int (0 : Int32)), (0, .ref h_this), (1, .ref h_a0), (2, .int p1)]) hx hb dX3_will_35 rfl hl (by decide) rfl (fun ls hl => ?_)
  exact hK2 _ _ _ _ (L36 1000 (0 : Int32) g5 hf) _ _ _ h (lv_sub hl [1, 3, 0] rfl)
set_option maxRecDepth 100000 in
set_option maxHeartbeats 4000000 in
theorem c_X3_mayEnter {l : Launch} {G : Gt} {h_a0 h_a0_off h_this h_this_kinds h_this_trims h_this_lanes h_this_lights h_this_currents h_this_buoys h_this_now h_this_rules h_this_reports h_this_rules_kinds h_this_rules_deeds h_this_rules_begins h_this_rules_steps h_this_rules_lefts h_this_rules_rights h_this_rules_facts : Nat} {p1 : Int32} {x_a0_watch : Int32} {x_a0_score : Int32} {x_a0_home : Int32} {f_a0_off : Nat → Int32} {x_this_count : Int32} {x_this_end : Int32} {x_this_z : Int32} {f_this_buoys : Nat → Int32} {f_this_kinds : Nat → Int32} {f_this_lanes : Nat → Int32} {f_this_lights : Nat → Int32} {x_this_rules_count : Int32} {x_this_rules_size : Int32} {f_this_rules_begins : Nat → Int32} {f_this_rules_deeds : Nat → Int32} {f_this_rules_facts : Nat → Int32} {f_this_rules_kinds : Nat → Int32} {f_this_rules_lefts : Nat → Int32} {f_this_rules_rights : Nat → Int32} {f_this_rules_steps : Nat → Int32} {f_this_trims : Nat → Int32} {r : Int32} {m_this_rules_facts : Nat → Int32} (hf : f_X3_mayEnter p1 x_a0_watch x_a0_home f_a0_off f_this_buoys f_this_kinds f_this_lanes f_this_lights x_this_rules_count f_this_rules_begins f_this_rules_deeds f_this_rules_facts f_this_rules_kinds f_this_rules_lefts f_this_rules_rights f_this_rules_steps f_this_trims = some (r, m_this_rules_facts)) : mFi l G yX3_mayEnter cX3_mayEnter 3 .boolean 3 [.ref h_this, .ref h_a0, .int p1] [(h_a0, ob 6 [.ref h_a0_off, .int x_a0_watch, .int x_a0_score, .int x_a0_home]), (h_a0_off, ia G 6 f_a0_off), (h_this, ob 3 [.ref h_this_kinds, .ref h_this_trims, .ref h_this_lanes, .ref h_this_lights, .ref h_this_currents, .ref h_this_buoys, .ref h_this_now, .ref h_this_rules, .ref h_this_reports, .int x_this_count, .int x_this_end, .int x_this_z]), (h_this_buoys, ia G 6 f_this_buoys), (h_this_kinds, ia G 6 f_this_kinds), (h_this_lanes, ia G 6 f_this_lanes), (h_this_lights, ia G 16 f_this_lights), (h_this_rules, ob 5 [.ref h_this_rules_kinds, .ref h_this_rules_deeds, .ref h_this_rules_begins, .ref h_this_rules_steps, .ref h_this_rules_lefts, .ref h_this_rules_rights, .ref h_this_rules_facts, .int x_this_rules_count, .int x_this_rules_size]), (h_this_rules_begins, ia G 9 f_this_rules_begins), (h_this_rules_deeds, ia G 8 f_this_rules_deeds), (h_this_rules_facts, ia G 5 f_this_rules_facts), (h_this_rules_kinds, ia G 8 f_this_rules_kinds), (h_this_rules_lefts, ia G 200 f_this_rules_lefts), (h_this_rules_rights, ia G 200 f_this_rules_rights), (h_this_rules_steps, ia G 200 f_this_rules_steps), (h_this_trims, ia G 6 f_this_trims)] r [(h_a0, ob 6 [.ref h_a0_off, .int x_a0_watch, .int x_a0_score, .int x_a0_home]), (h_a0_off, ia G 6 f_a0_off), (h_this, ob 3 [.ref h_this_kinds, .ref h_this_trims, .ref h_this_lanes, .ref h_this_lights, .ref h_this_currents, .ref h_this_buoys, .ref h_this_now, .ref h_this_rules, .ref h_this_reports, .int x_this_count, .int x_this_end, .int x_this_z]), (h_this_buoys, ia G 6 f_this_buoys), (h_this_kinds, ia G 6 f_this_kinds), (h_this_lanes, ia G 6 f_this_lanes), (h_this_lights, ia G 16 f_this_lights), (h_this_rules, ob 5 [.ref h_this_rules_kinds, .ref h_this_rules_deeds, .ref h_this_rules_begins, .ref h_this_rules_steps, .ref h_this_rules_lefts, .ref h_this_rules_rights, .ref h_this_rules_facts, .int x_this_rules_count, .int x_this_rules_size]), (h_this_rules_begins, ia G 9 f_this_rules_begins), (h_this_rules_deeds, ia G 8 f_this_rules_deeds), (h_this_rules_facts, ia G 5 m_this_rules_facts), (h_this_rules_kinds, ia G 8 f_this_rules_kinds), (h_this_rules_lefts, ia G 200 f_this_rules_lefts), (h_this_rules_rights, ia G 200 f_this_rules_rights), (h_this_rules_steps, ia G 200 f_this_rules_steps), (h_this_trims, ia G 6 f_this_trims)] := by
  refine mFi.of (by decide +kernel) (Nat.le_of_ble_eq_true rfl) ?_
  intro p e s m below meth c A C hr hlk h ls hl
  obtain ⟨hx, hb, hml, hown, hts⟩ := id C
  replace hl : lv_has ls 3 [(0, .ref h_this), (1, .ref h_a0), (2, .int p1)] := hl
  unfold f_X3_mayEnter at hf
  refine lv_aload_n hx hb dX3_mayEnter_0 rfl (lv_at hl 0 rfl) ?_
  refine lv_aload_n hx hb dX3_mayEnter_1 rfl (lv_at hl 1 rfl) ?_
  refine lv_iload_n hx hb dX3_mayEnter_2 rfl (lv_at hl 2 rfl) ?_
  refine lv_aload_n hx hb dX3_mayEnter_3 rfl (lv_at hl 0 rfl) ?_
  refine r_get C h fk_X3_15 2 rfl rfl dX3_mayEnter_4 ?_
  refine lv_iload_n hx hb dX3_mayEnter_7 rfl (lv_at hl 2 rfl) ?_
  replace hf := chkI_inv hf
  obtain ⟨hi1, hf⟩ := hf
  refine r_iald C h 15 rfl hi1 dX3_mayEnter_8 ?_
  replace hf := bd1_inv hf
  obtain ⟨r2, hc3, hf⟩ := hf
  refine r_ciV0 C h (c_X3_inReach hc3) mv_X3_113 rfl 2 rfl [0, 1, 2, 3, 4, 5, 6] rfl rfl hl.1 rfl (Nat.le_of_ble_eq_true rfl) (rok (by decide)) dX3_mayEnter_9 (fun H locs h => ?_)
  refine lv_if_eq (tgt := 28) hx hb dX3_mayEnter_12 rfl (fun c4 => ?_) (fun c4 => ?_)
  · replace hf := ifp c4 hf
    refine lv_iconst (v := (0 : Int32)) hx hb dX3_mayEnter_28 rfl ?_
    cases hf
    exact r_iret C h hr hlk rfl dX3_mayEnter_29
  · replace hf := ifn c4 hf
    refine lv_aload_n hx hb dX3_mayEnter_15 rfl (lv_at hl 0 rfl) ?_
    refine lv_aload_n hx hb dX3_mayEnter_16 rfl (lv_at hl 1 rfl) ?_
    refine lv_iload_n hx hb dX3_mayEnter_17 rfl (lv_at hl 2 rfl) ?_
    replace hf := bd2_inv hf
    obtain ⟨r5, g6, hc7, hf⟩ := hf
    refine r_ciV (ws' := [(h_a0, ob 6 [.ref h_a0_off, .int x_a0_watch, .int x_a0_score, .int x_a0_home]), (h_a0_off, ia G 6 f_a0_off), (h_this, ob 3 [.ref h_this_kinds, .ref h_this_trims, .ref h_this_lanes, .ref h_this_lights, .ref h_this_currents, .ref h_this_buoys, .ref h_this_now, .ref h_this_rules, .ref h_this_reports, .int x_this_count, .int x_this_end, .int x_this_z]), (h_this_buoys, ia G 6 f_this_buoys), (h_this_kinds, ia G 6 f_this_kinds), (h_this_lanes, ia G 6 f_this_lanes), (h_this_lights, ia G 16 f_this_lights), (h_this_rules, ob 5 [.ref h_this_rules_kinds, .ref h_this_rules_deeds, .ref h_this_rules_begins, .ref h_this_rules_steps, .ref h_this_rules_lefts, .ref h_this_rules_rights, .ref h_this_rules_facts, .int x_this_rules_count, .int x_this_rules_size]), (h_this_rules_begins, ia G 9 f_this_rules_begins), (h_this_rules_deeds, ia G 8 f_this_rules_deeds), (h_this_rules_facts, ia G 5 g6), (h_this_rules_kinds, ia G 8 f_this_rules_kinds), (h_this_rules_lefts, ia G 200 f_this_rules_lefts), (h_this_rules_rights, ia G 200 f_this_rules_rights), (h_this_rules_steps, ia G 200 f_this_rules_steps), (h_this_trims, ia G 6 f_this_trims)]) C h (c_X3_will hc7) mv_X3_133 rfl 2 rfl [0, 1, 2, 4, 6, 7, 8, 9, 10, 11, 12, 13, 14, 15] rfl rfl [10] [(h_this_rules_facts, ia G 5 g6)] rfl rfl (by decide +kernel) rfl hl.1 rfl (Nat.le_of_ble_eq_true rfl) (rok (by decide)) dX3_mayEnter_18 (fun H locs h => ?_)
    refine lv_if_ne (tgt := 28) hx hb dX3_mayEnter_21 rfl (fun c8 => ?_) (fun c8 => ?_)
    · replace hf := ifn c8 hf
      refine lv_iconst (v := (0 : Int32)) hx hb dX3_mayEnter_28 rfl ?_
      cases hf
      exact r_iret C h hr hlk rfl dX3_mayEnter_29
    · replace hf := ifp c8 hf
      refine lv_iconst (v := (1 : Int32)) hx hb dX3_mayEnter_24 rfl ?_
      refine lv_goto (tgt := 29) hx hb dX3_mayEnter_25 rfl ?_
      cases hf
      exact r_iret C h hr hlk rfl dX3_mayEnter_29
set_option maxRecDepth 100000 in
set_option maxHeartbeats 4000000 in
theorem c_X8_shipOf {l : Launch} {G : Gt} {h_this h_this_rock h_this_kept h_this_trial h_this_planner h_this_reader h_this_draft h_this_host h_this_thing h_this_tape h_this_rows h_this_rock_kinds h_this_rock_trims h_this_rock_lanes h_this_rock_lights h_this_rock_currents h_this_rock_buoys h_this_rock_now h_this_rock_rules h_this_rock_reports h_this_rock_now_off h_this_rock_rules_kinds h_this_rock_rules_deeds h_this_rock_rules_begins h_this_rock_rules_steps h_this_rock_rules_lefts h_this_rock_rules_rights h_this_rock_rules_facts : Nat} {p0 : Int32} {p1 : Int32} {x_this_tapeCount : Int32} {x_this_rowCount : Int32} {x_this_isKept : Int32} {x_this_rock_count : Int32} {x_this_rock_end : Int32} {x_this_rock_z : Int32} {f_this_rock_buoys : Nat → Int32} {f_this_rock_currents : Nat → Int32} {f_this_rock_kinds : Nat → Int32} {f_this_rock_lanes : Nat → Int32} {f_this_rock_lights : Nat → Int32} {x_this_rock_now_watch : Int32} {x_this_rock_now_score : Int32} {x_this_rock_now_home : Int32} {f_this_rock_now_off : Nat → Int32} {x_this_rock_rules_count : Int32} {x_this_rock_rules_size : Int32} {f_this_rock_rules_begins : Nat → Int32} {f_this_rock_rules_deeds : Nat → Int32} {f_this_rock_rules_facts : Nat → Int32} {f_this_rock_rules_kinds : Nat → Int32} {f_this_rock_rules_lefts : Nat → Int32} {f_this_rock_rules_rights : Nat → Int32} {f_this_rock_rules_steps : Nat → Int32} {f_this_rock_trims : Nat → Int32} {r : Int32} {m_this_rock_rules_facts : Nat → Int32} (hf : f_X8_shipOf p0 p1 x_this_rock_count f_this_rock_buoys f_this_rock_currents f_this_rock_kinds f_this_rock_lanes f_this_rock_lights x_this_rock_now_watch x_this_rock_now_home f_this_rock_now_off x_this_rock_rules_count f_this_rock_rules_begins f_this_rock_rules_deeds f_this_rock_rules_facts f_this_rock_rules_kinds f_this_rock_rules_lefts f_this_rock_rules_rights f_this_rock_rules_steps f_this_rock_trims = some (r, m_this_rock_rules_facts)) : mFi l G yX8_shipOf cX8_shipOf 4 .int 4 [.ref h_this, .int p0, .int p1] [(h_this, ob 8 [.ref h_this_rock, .ref h_this_kept, .ref h_this_trial, .ref h_this_planner, .ref h_this_reader, .ref h_this_draft, .ref h_this_host, .ref h_this_thing, .ref h_this_tape, .ref h_this_rows, .int x_this_tapeCount, .int x_this_rowCount, .int x_this_isKept]), (h_this_rock, ob 3 [.ref h_this_rock_kinds, .ref h_this_rock_trims, .ref h_this_rock_lanes, .ref h_this_rock_lights, .ref h_this_rock_currents, .ref h_this_rock_buoys, .ref h_this_rock_now, .ref h_this_rock_rules, .ref h_this_rock_reports, .int x_this_rock_count, .int x_this_rock_end, .int x_this_rock_z]), (h_this_rock_buoys, ia G 6 f_this_rock_buoys), (h_this_rock_currents, ia G 6 f_this_rock_currents), (h_this_rock_kinds, ia G 6 f_this_rock_kinds), (h_this_rock_lanes, ia G 6 f_this_rock_lanes), (h_this_rock_lights, ia G 16 f_this_rock_lights), (h_this_rock_now, ob 6 [.ref h_this_rock_now_off, .int x_this_rock_now_watch, .int x_this_rock_now_score, .int x_this_rock_now_home]), (h_this_rock_now_off, ia G 6 f_this_rock_now_off), (h_this_rock_rules, ob 5 [.ref h_this_rock_rules_kinds, .ref h_this_rock_rules_deeds, .ref h_this_rock_rules_begins, .ref h_this_rock_rules_steps, .ref h_this_rock_rules_lefts, .ref h_this_rock_rules_rights, .ref h_this_rock_rules_facts, .int x_this_rock_rules_count, .int x_this_rock_rules_size]), (h_this_rock_rules_begins, ia G 9 f_this_rock_rules_begins), (h_this_rock_rules_deeds, ia G 8 f_this_rock_rules_deeds), (h_this_rock_rules_facts, ia G 5 f_this_rock_rules_facts), (h_this_rock_rules_kinds, ia G 8 f_this_rock_rules_kinds), (h_this_rock_rules_lefts, ia G 200 f_this_rock_rules_lefts), (h_this_rock_rules_rights, ia G 200 f_this_rock_rules_rights), (h_this_rock_rules_steps, ia G 200 f_this_rock_rules_steps), (h_this_rock_trims, ia G 6 f_this_rock_trims)] r [(h_this, ob 8 [.ref h_this_rock, .ref h_this_kept, .ref h_this_trial, .ref h_this_planner, .ref h_this_reader, .ref h_this_draft, .ref h_this_host, .ref h_this_thing, .ref h_this_tape, .ref h_this_rows, .int x_this_tapeCount, .int x_this_rowCount, .int x_this_isKept]), (h_this_rock, ob 3 [.ref h_this_rock_kinds, .ref h_this_rock_trims, .ref h_this_rock_lanes, .ref h_this_rock_lights, .ref h_this_rock_currents, .ref h_this_rock_buoys, .ref h_this_rock_now, .ref h_this_rock_rules, .ref h_this_rock_reports, .int x_this_rock_count, .int x_this_rock_end, .int x_this_rock_z]), (h_this_rock_buoys, ia G 6 f_this_rock_buoys), (h_this_rock_currents, ia G 6 f_this_rock_currents), (h_this_rock_kinds, ia G 6 f_this_rock_kinds), (h_this_rock_lanes, ia G 6 f_this_rock_lanes), (h_this_rock_lights, ia G 16 f_this_rock_lights), (h_this_rock_now, ob 6 [.ref h_this_rock_now_off, .int x_this_rock_now_watch, .int x_this_rock_now_score, .int x_this_rock_now_home]), (h_this_rock_now_off, ia G 6 f_this_rock_now_off), (h_this_rock_rules, ob 5 [.ref h_this_rock_rules_kinds, .ref h_this_rock_rules_deeds, .ref h_this_rock_rules_begins, .ref h_this_rock_rules_steps, .ref h_this_rock_rules_lefts, .ref h_this_rock_rules_rights, .ref h_this_rock_rules_facts, .int x_this_rock_rules_count, .int x_this_rock_rules_size]), (h_this_rock_rules_begins, ia G 9 f_this_rock_rules_begins), (h_this_rock_rules_deeds, ia G 8 f_this_rock_rules_deeds), (h_this_rock_rules_facts, ia G 5 m_this_rock_rules_facts), (h_this_rock_rules_kinds, ia G 8 f_this_rock_rules_kinds), (h_this_rock_rules_lefts, ia G 200 f_this_rock_rules_lefts), (h_this_rock_rules_rights, ia G 200 f_this_rock_rules_rights), (h_this_rock_rules_steps, ia G 200 f_this_rock_rules_steps), (h_this_rock_trims, ia G 6 f_this_rock_trims)] := by
  refine mFi.of (by decide +kernel) (Nat.le_of_ble_eq_true rfl) ?_
  intro p e s m below meth c A C hr hlk h ls hl
  obtain ⟨hx, hb, hml, hown, hts⟩ := id C
  replace hl : lv_has ls 4 [(0, .ref h_this), (1, .int p0), (2, .int p1)] := hl
  unfold f_X8_shipOf at hf
  refine lv_aload_n hx hb dX8_shipOf_0 rfl (lv_at hl 0 rfl) ?_
  refine r_get C h fk_X8_10 0 rfl rfl dX8_shipOf_1 ?_
  refine lv_iload_n hx hb dX8_shipOf_4 rfl (lv_at hl 1 rfl) ?_
  replace hf := bd1_inv hf
  obtain ⟨r1, hc2, hf⟩ := hf
  refine r_ciV0 C h (c_X3_has hc2) mv_X8_90 rfl 1 rfl [1] rfl rfl hl.1 rfl (Nat.le_of_ble_eq_true rfl) (rok (by decide)) dX8_shipOf_5 (fun H locs h => ?_)
  refine lv_if_ne (tgt := 13) hx hb dX8_shipOf_8 rfl (fun c3 => ?_) (fun c3 => ?_)
  · replace hf := ifn c3 hf
    refine lv_aload_n hx hb dX8_shipOf_13 rfl (lv_at hl 0 rfl) ?_
    refine r_get C h fk_X8_10 0 rfl rfl dX8_shipOf_14 ?_
    refine r_get C h fk_X8_94 1 rfl rfl dX8_shipOf_17 ?_
    refine lv_astore_n (lv' := [(3, .ref h_this_rock_now), (0, .ref h_this), (1, .int p0), (2, .int p1)]) hx hb dX8_shipOf_20 rfl hl (by decide) rfl (fun ls hl => ?_)
    refine lv_iload_n hx hb dX8_shipOf_21 rfl (lv_at hl 3 rfl) ?_
    by_cases c4 : p1 = (0 : Int32)
    · replace hf := ifp c4 hf
      refine r_tab (tgt := 76) C dX8_shipOf_22 (0 : Int32) c4 (by decide) rfl rfl ?_
      refine lv_aload_n hx hb dX8_shipOf_76 rfl (lv_at hl 1 rfl) ?_
      refine r_get C h fk_X8_10 0 rfl rfl dX8_shipOf_77 ?_
      refine r_get C h fk_X8_97 1 rfl rfl dX8_shipOf_80 ?_
      refine lv_iload_n hx hb dX8_shipOf_83 rfl (lv_at hl 2 rfl) ?_
      replace hf := chkI_inv hf
      obtain ⟨hi14, hf⟩ := hf
      refine r_iald C h 4 rfl hi14 dX8_shipOf_84 ?_
      cases hf
      exact r_iret C h hr hlk rfl dX8_shipOf_85
    · replace hf := ifn c4 hf
      by_cases c5 : p1 = (1 : Int32)
      · replace hf := ifp c5 hf
        refine r_tab (tgt := 86) C dX8_shipOf_22 (1 : Int32) c5 (by decide) rfl rfl ?_
        refine lv_aload_n hx hb dX8_shipOf_86 rfl (lv_at hl 0 rfl) ?_
        refine r_get C h fk_X8_100 7 rfl rfl dX8_shipOf_87 ?_
        refine lv_iload_n hx hb dX8_shipOf_90 rfl (lv_at hl 2 rfl) ?_
        replace hf := chkI_inv hf
        obtain ⟨hi15, hf⟩ := hf
        refine r_iald C h 8 rfl hi15 dX8_shipOf_91 ?_
        cases hf
        exact r_iret C h hr hlk rfl dX8_shipOf_92
      · replace hf := ifn c5 hf
        by_cases c6 : p1 = (2 : Int32)
        · replace hf := ifp c6 hf
          refine r_tab (tgt := 93) C dX8_shipOf_22 (2 : Int32) c6 (by decide) rfl rfl ?_
          refine lv_aload_n hx hb dX8_shipOf_93 rfl (lv_at hl 1 rfl) ?_
          refine r_get C h fk_X8_10 0 rfl rfl dX8_shipOf_94 ?_
          refine r_get C h fk_X8_103 1 rfl rfl dX8_shipOf_97 ?_
          refine lv_iload_n hx hb dX8_shipOf_100 rfl (lv_at hl 2 rfl) ?_
          replace hf := chkI_inv hf
          obtain ⟨hi16, hf⟩ := hf
          refine r_iald C h 17 rfl hi16 dX8_shipOf_101 ?_
          cases hf
          exact r_iret C h hr hlk rfl dX8_shipOf_102
        · replace hf := ifn c6 hf
          by_cases c7 : p1 = (3 : Int32)
          · replace hf := ifp c7 hf
            refine r_tab (tgt := 103) C dX8_shipOf_22 (3 : Int32) c7 (by decide) rfl rfl ?_
            refine lv_aload_n hx hb dX8_shipOf_103 rfl (lv_at hl 1 rfl) ?_
            refine r_get C h fk_X8_10 0 rfl rfl dX8_shipOf_104 ?_
            refine r_get C h fk_X8_106 1 rfl rfl dX8_shipOf_107 ?_
            refine lv_iload_n hx hb dX8_shipOf_110 rfl (lv_at hl 2 rfl) ?_
            replace hf := chkI_inv hf
            obtain ⟨hi17, hf⟩ := hf
            refine r_iald C h 5 rfl hi17 dX8_shipOf_111 ?_
            cases hf
            exact r_iret C h hr hlk rfl dX8_shipOf_112
          · replace hf := ifn c7 hf
            by_cases c8 : p1 = (4 : Int32)
            · replace hf := ifp c8 hf
              refine r_tab (tgt := 113) C dX8_shipOf_22 (4 : Int32) c8 (by decide) rfl rfl ?_
              refine lv_aload_n hx hb dX8_shipOf_113 rfl (lv_at hl 0 rfl) ?_
              refine lv_iload_n hx hb dX8_shipOf_114 rfl (lv_at hl 2 rfl) ?_
              replace hf := bd1_inv hf
              obtain ⟨r18, hc19, hf⟩ := hf
              refine r_ciV0 C h (c_X6_isHome hc19) mv_X8_109 rfl 7 rfl [7] rfl rfl hl.1 rfl (Nat.le_of_ble_eq_true rfl) (rok (by decide)) dX8_shipOf_115 (fun H locs h => ?_)
              refine lv_if_eq (tgt := 125) hx hb dX8_shipOf_118 rfl (fun c20 => ?_) (fun c20 => ?_)
              · replace hf := ifp c20 hf
                refine lv_iconst (v := (0 : Int32)) hx hb dX8_shipOf_125 rfl ?_
                cases hf
                exact r_iret C h hr hlk rfl dX8_shipOf_126
              · replace hf := ifn c20 hf
                refine lv_iconst (v := (1 : Int32)) hx hb dX8_shipOf_121 rfl ?_
                refine lv_goto (tgt := 126) hx hb dX8_shipOf_122 rfl ?_
                cases hf
                exact r_iret C h hr hlk rfl dX8_shipOf_126
            · replace hf := ifn c8 hf
              by_cases c9 : p1 = (5 : Int32)
              · replace hf := ifp c9 hf
                refine r_tab (tgt := 127) C dX8_shipOf_22 (5 : Int32) c9 (by decide) rfl rfl ?_
                refine lv_aload_n hx hb dX8_shipOf_127 rfl (lv_at hl 1 rfl) ?_
                refine r_get C h fk_X8_10 0 rfl rfl dX8_shipOf_128 ?_
                refine lv_aload_n hx hb dX8_shipOf_131 rfl (lv_at hl 0 rfl) ?_
                refine lv_iload_n hx hb dX8_shipOf_132 rfl (lv_at hl 2 rfl) ?_
                replace hf := bd1_inv hf
                obtain ⟨r21, hc22, hf⟩ := hf
                refine r_ciV0 C h (c_X3_nears hc22) mv_X8_112 rfl 1 rfl [7, 1, 3, 4, 5, 6] rfl rfl hl.1 rfl (Nat.le_of_ble_eq_true rfl) (rok (by decide)) dX8_shipOf_133 (fun H locs h => ?_)
                cases hf
                exact r_iret C h hr hlk rfl dX8_shipOf_136
              · replace hf := ifn c9 hf
                by_cases c10 : p1 = (6 : Int32)
                · replace hf := ifp c10 hf
                  refine r_tab (tgt := 137) C dX8_shipOf_22 (6 : Int32) c10 (by decide) rfl rfl ?_
                  refine lv_aload_n hx hb dX8_shipOf_137 rfl (lv_at hl 1 rfl) ?_
                  refine r_get C h fk_X8_10 0 rfl rfl dX8_shipOf_138 ?_
                  refine lv_aload_n hx hb dX8_shipOf_141 rfl (lv_at hl 0 rfl) ?_
                  refine lv_iload_n hx hb dX8_shipOf_142 rfl (lv_at hl 2 rfl) ?_
                  refine lv_aload_n hx hb dX8_shipOf_143 rfl (lv_at hl 1 rfl) ?_
                  refine r_get C h fk_X8_10 0 rfl rfl dX8_shipOf_144 ?_
                  refine r_get C h fk_X8_103 1 rfl rfl dX8_shipOf_147 ?_
                  refine lv_iload_n hx hb dX8_shipOf_150 rfl (lv_at hl 2 rfl) ?_
                  replace hf := chkI_inv hf
                  obtain ⟨hi23, hf⟩ := hf
                  refine r_iald C h 17 rfl hi23 dX8_shipOf_151 ?_
                  replace hf := bd1_inv hf
                  obtain ⟨r24, hc25, hf⟩ := hf
                  refine r_ciV0 C h (c_X3_reaches hc25) mv_X8_116 rfl 1 rfl [7, 1, 2, 4, 5, 6] rfl rfl hl.1 rfl (Nat.le_of_ble_eq_true rfl) (rok (by decide)) dX8_shipOf_152 (fun H locs h => ?_)
                  cases hf
                  exact r_iret C h hr hlk rfl dX8_shipOf_155
                · replace hf := ifn c10 hf
                  by_cases c11 : p1 = (7 : Int32)
                  · replace hf := ifp c11 hf
                    refine r_tab (tgt := 156) C dX8_shipOf_22 (7 : Int32) c11 (by decide) rfl rfl ?_
                    refine lv_aload_n hx hb dX8_shipOf_156 rfl (lv_at hl 1 rfl) ?_
                    refine r_get C h fk_X8_10 0 rfl rfl dX8_shipOf_157 ?_
                    refine lv_aload_n hx hb dX8_shipOf_160 rfl (lv_at hl 0 rfl) ?_
                    refine lv_iload_n hx hb dX8_shipOf_161 rfl (lv_at hl 2 rfl) ?_
                    replace hf := bd1_inv hf
                    obtain ⟨r26, hc27, hf⟩ := hf
                    refine r_ciV0 C h (c_X3_pays hc27) mv_X8_120 rfl 1 rfl [7, 8, 1, 2, 4, 5, 6, 17] rfl rfl hl.1 rfl (Nat.le_of_ble_eq_true rfl) (rok (by decide)) dX8_shipOf_162 (fun H locs h => ?_)
                    cases hf
                    exact r_iret C h hr hlk rfl dX8_shipOf_165
                  · replace hf := ifn c11 hf
                    by_cases c12 : p1 = (8 : Int32)
                    · replace hf := ifp c12 hf
                      refine r_tab (tgt := 166) C dX8_shipOf_22 (8 : Int32) c12 (by decide) rfl rfl ?_
                      refine lv_aload_n hx hb dX8_shipOf_166 rfl (lv_at hl 1 rfl) ?_
                      refine r_get C h fk_X8_10 0 rfl rfl dX8_shipOf_167 ?_
                      refine lv_aload_n hx hb dX8_shipOf_170 rfl (lv_at hl 0 rfl) ?_
                      refine lv_iload_n hx hb dX8_shipOf_171 rfl (lv_at hl 2 rfl) ?_
                      replace hf := bd2_inv hf
                      obtain ⟨r28, g29, hc30, hf⟩ := hf
                      refine r_ciV (ws' := [(h_this, ob 8 [.ref h_this_rock, .ref h_this_kept, .ref h_this_trial, .ref h_this_planner, .ref h_this_reader, .ref h_this_draft, .ref h_this_host, .ref h_this_thing, .ref h_this_tape, .ref h_this_rows, .int x_this_tapeCount, .int x_this_rowCount, .int x_this_isKept]), (h_this_rock, ob 3 [.ref h_this_rock_kinds, .ref h_this_rock_trims, .ref h_this_rock_lanes, .ref h_this_rock_lights, .ref h_this_rock_currents, .ref h_this_rock_buoys, .ref h_this_rock_now, .ref h_this_rock_rules, .ref h_this_rock_reports, .int x_this_rock_count, .int x_this_rock_end, .int x_this_rock_z]), (h_this_rock_buoys, ia G 6 f_this_rock_buoys), (h_this_rock_currents, ia G 6 f_this_rock_currents), (h_this_rock_kinds, ia G 6 f_this_rock_kinds), (h_this_rock_lanes, ia G 6 f_this_rock_lanes), (h_this_rock_lights, ia G 16 f_this_rock_lights), (h_this_rock_now, ob 6 [.ref h_this_rock_now_off, .int x_this_rock_now_watch, .int x_this_rock_now_score, .int x_this_rock_now_home]), (h_this_rock_now_off, ia G 6 f_this_rock_now_off), (h_this_rock_rules, ob 5 [.ref h_this_rock_rules_kinds, .ref h_this_rock_rules_deeds, .ref h_this_rock_rules_begins, .ref h_this_rock_rules_steps, .ref h_this_rock_rules_lefts, .ref h_this_rock_rules_rights, .ref h_this_rock_rules_facts, .int x_this_rock_rules_count, .int x_this_rock_rules_size]), (h_this_rock_rules_begins, ia G 9 f_this_rock_rules_begins), (h_this_rock_rules_deeds, ia G 8 f_this_rock_rules_deeds), (h_this_rock_rules_facts, ia G 5 g29), (h_this_rock_rules_kinds, ia G 8 f_this_rock_rules_kinds), (h_this_rock_rules_lefts, ia G 200 f_this_rock_rules_lefts), (h_this_rock_rules_rights, ia G 200 f_this_rock_rules_rights), (h_this_rock_rules_steps, ia G 200 f_this_rock_rules_steps), (h_this_rock_trims, ia G 6 f_this_rock_trims)]) C h (c_X3_mayEnter hc30) mv_X8_123 rfl 1 rfl [7, 8, 1, 2, 4, 5, 6, 9, 10, 11, 12, 13, 14, 15, 16, 17] rfl rfl [12] [(h_this_rock_rules_facts, ia G 5 g29)] rfl rfl (by decide +kernel) rfl hl.1 rfl (Nat.le_of_ble_eq_true rfl) (rok (by decide)) dX8_shipOf_172 (fun H locs h => ?_)
                      refine lv_if_eq (tgt := 182) hx hb dX8_shipOf_175 rfl (fun c31 => ?_) (fun c31 => ?_)
                      · replace hf := ifp c31 hf
                        refine lv_iconst (v := (0 : Int32)) hx hb dX8_shipOf_182 rfl ?_
                        cases hf
                        exact r_iret C h hr hlk rfl dX8_shipOf_183
                      · replace hf := ifn c31 hf
                        refine lv_iconst (v := (1 : Int32)) hx hb dX8_shipOf_178 rfl ?_
                        refine lv_goto (tgt := 183) hx hb dX8_shipOf_179 rfl ?_
                        cases hf
                        exact r_iret C h hr hlk rfl dX8_shipOf_183
                    · replace hf := ifn c12 hf
                      by_cases c13 : p1 = (9 : Int32)
                      · replace hf := ifp c13 hf
                        refine r_tab (tgt := 184) C dX8_shipOf_22 (9 : Int32) c13 (by decide) rfl rfl ?_
                        refine lv_aload_n hx hb dX8_shipOf_184 rfl (lv_at hl 1 rfl) ?_
                        refine r_get C h fk_X8_10 0 rfl rfl dX8_shipOf_185 ?_
                        refine lv_aload_n hx hb dX8_shipOf_188 rfl (lv_at hl 0 rfl) ?_
                        refine lv_iload_n hx hb dX8_shipOf_189 rfl (lv_at hl 2 rfl) ?_
                        replace hf := bd2_inv hf
                        obtain ⟨r32, g33, hc34, hf⟩ := hf
                        refine r_ciV (ws' := [(h_this, ob 8 [.ref h_this_rock, .ref h_this_kept, .ref h_this_trial, .ref h_this_planner, .ref h_this_reader, .ref h_this_draft, .ref h_this_host, .ref h_this_thing, .ref h_this_tape, .ref h_this_rows, .int x_this_tapeCount, .int x_this_rowCount, .int x_this_isKept]), (h_this_rock, ob 3 [.ref h_this_rock_kinds, .ref h_this_rock_trims, .ref h_this_rock_lanes, .ref h_this_rock_lights, .ref h_this_rock_currents, .ref h_this_rock_buoys, .ref h_this_rock_now, .ref h_this_rock_rules, .ref h_this_rock_reports, .int x_this_rock_count, .int x_this_rock_end, .int x_this_rock_z]), (h_this_rock_buoys, ia G 6 f_this_rock_buoys), (h_this_rock_currents, ia G 6 f_this_rock_currents), (h_this_rock_kinds, ia G 6 f_this_rock_kinds), (h_this_rock_lanes, ia G 6 f_this_rock_lanes), (h_this_rock_lights, ia G 16 f_this_rock_lights), (h_this_rock_now, ob 6 [.ref h_this_rock_now_off, .int x_this_rock_now_watch, .int x_this_rock_now_score, .int x_this_rock_now_home]), (h_this_rock_now_off, ia G 6 f_this_rock_now_off), (h_this_rock_rules, ob 5 [.ref h_this_rock_rules_kinds, .ref h_this_rock_rules_deeds, .ref h_this_rock_rules_begins, .ref h_this_rock_rules_steps, .ref h_this_rock_rules_lefts, .ref h_this_rock_rules_rights, .ref h_this_rock_rules_facts, .int x_this_rock_rules_count, .int x_this_rock_rules_size]), (h_this_rock_rules_begins, ia G 9 f_this_rock_rules_begins), (h_this_rock_rules_deeds, ia G 8 f_this_rock_rules_deeds), (h_this_rock_rules_facts, ia G 5 g33), (h_this_rock_rules_kinds, ia G 8 f_this_rock_rules_kinds), (h_this_rock_rules_lefts, ia G 200 f_this_rock_rules_lefts), (h_this_rock_rules_rights, ia G 200 f_this_rock_rules_rights), (h_this_rock_rules_steps, ia G 200 f_this_rock_rules_steps), (h_this_rock_trims, ia G 6 f_this_rock_trims)]) C h (c_X3_will hc34) mv_X8_127 rfl 1 rfl [7, 8, 1, 4, 6, 9, 10, 11, 12, 13, 14, 15, 16, 17] rfl rfl [12] [(h_this_rock_rules_facts, ia G 5 g33)] rfl rfl (by decide +kernel) rfl hl.1 rfl (Nat.le_of_ble_eq_true rfl) (rok (by decide)) dX8_shipOf_190 (fun H locs h => ?_)
                        cases hf
                        exact r_iret C h hr hlk rfl dX8_shipOf_193
                      · replace hf := ifn c13 hf
                        refine r_tabD (tgt := 194) C dX8_shipOf_22 [(0 : Int32), (1 : Int32), (2 : Int32), (3 : Int32), (4 : Int32), (5 : Int32), (6 : Int32), (7 : Int32), (8 : Int32), (9 : Int32)] (by decide) (nel_c c4 (nel_c c5 (nel_c c6 (nel_c c7 (nel_c c8 (nel_c c9 (nel_c c10 (nel_c c11 (nel_c c12 (nel_c c13 nel_0)))))))))) rfl ?_
                        refine lv_iconst (v := (-1 : Int32)) hx hb dX8_shipOf_194 rfl ?_
                        cases hf
                        exact r_iret C h hr hlk rfl dX8_shipOf_195
  · replace hf := ifp c3 hf
    refine lv_iconst (v := (-1 : Int32)) hx hb dX8_shipOf_11 rfl ?_
    cases hf
    exact r_iret C h hr hlk rfl dX8_shipOf_12
set_option maxRecDepth 100000 in
set_option maxHeartbeats 4000000 in
theorem c_X8_put {l : Launch} {G : Gt} {h_a0 : Nat} {p1 : Int32} {p2 : Int32} {n_a0 : Nat} {f_a0 : Nat → Int32} {r : Int32} {m_a0 : Nat → Int32} (hf : f_X8_put p1 p2 n_a0 f_a0 = some (r, m_a0)) : mFi l G yX8_put cX8_put 4 .int 0 [.ref h_a0, .int p1, .int p2] [(h_a0, ia G n_a0 f_a0)] r [(h_a0, ia G n_a0 m_a0)] := by
  refine mFi.of (by decide +kernel) (Nat.le_of_ble_eq_true rfl) ?_
  intro p e s m below meth c A C hr hlk h ls hl
  obtain ⟨hx, hb, hml, hown, hts⟩ := id C
  replace hl : lv_has ls 4 [(0, .ref h_a0), (1, .int p1), (2, .int p2)] := hl
  unfold f_X8_put at hf
  refine lv_aload_n hx hb dX8_put_0 rfl (lv_at hl 0 rfl) ?_
  refine lv_iload_n hx hb dX8_put_1 rfl (lv_at hl 1 rfl) ?_
  replace hf := chkI_inv hf
  obtain ⟨hi1, hf⟩ := hf
  refine r_iald C h 0 rfl hi1 dX8_put_2 ?_
  refine lv_topi (fun t2 et2 => ?_)
  replace hf := lt1_inv et2 hf
  refine lv_istore_n (lv' := [(3, .int t2), (0, .ref h_a0), (1, .int p1), (2, .int p2)]) hx hb dX8_put_3 rfl hl (by decide) rfl (fun ls hl => ?_)
  refine lv_aload_n hx hb dX8_put_4 rfl (lv_at hl 1 rfl) ?_
  refine lv_iload_n hx hb dX8_put_5 rfl (lv_at hl 2 rfl) ?_
  refine lv_iload_n hx hb dX8_put_6 rfl (lv_at hl 3 rfl) ?_
  replace hf := chkI_inv hf
  obtain ⟨hi3, hf⟩ := hf
  refine r_iast (ws' := [(h_a0, ia G n_a0 (upd f_a0 p1.toNatClampNeg p2))]) C h 0 rfl hi3 dX8_put_7 rfl (fun H locs h => ?_)
  refine lv_iload_n hx hb dX8_put_8 rfl (lv_at hl 0 rfl) ?_
  cases hf
  exact r_iret C h hr hlk rfl dX8_put_9
set_option maxRecDepth 100000 in
set_option maxHeartbeats 4000000 in
theorem c_X8_change {l : Launch} {G : Gt} {h_this h_this_rock h_this_kept h_this_trial h_this_planner h_this_reader h_this_draft h_this_host h_this_thing h_this_tape h_this_rows h_this_rock_kinds h_this_rock_trims h_this_rock_lanes h_this_rock_lights h_this_rock_currents h_this_rock_buoys h_this_rock_now h_this_rock_rules h_this_rock_reports h_this_rock_now_off : Nat} {p0 : Int32} {p1 : Int32} {p2 : Int32} {x_this_tapeCount : Int32} {x_this_rowCount : Int32} {x_this_isKept : Int32} {x_this_rock_count : Int32} {x_this_rock_end : Int32} {x_this_rock_z : Int32} {f_this_rock_lanes : Nat → Int32} {x_this_rock_now_watch : Int32} {x_this_rock_now_score : Int32} {x_this_rock_now_home : Int32} {f_this_rock_now_off : Nat → Int32} {f_this_rock_trims : Nat → Int32} {r : Int32} {m_this_rock_lanes : Nat → Int32} {m_this_rock_now_home : Int32} {m_this_rock_now_off : Nat → Int32} {m_this_rock_trims : Nat → Int32} (hf : f_X8_change p0 p1 p2 x_this_rock_count f_this_rock_lanes x_this_rock_now_home f_this_rock_now_off f_this_rock_trims = some (r, m_this_rock_lanes, m_this_rock_now_home, m_this_rock_now_off, m_this_rock_trims)) : mFi l G yX8_change cX8_change 4 .int 1 [.ref h_this, .int p0, .int p1, .int p2] [(h_this, ob 8 [.ref h_this_rock, .ref h_this_kept, .ref h_this_trial, .ref h_this_planner, .ref h_this_reader, .ref h_this_draft, .ref h_this_host, .ref h_this_thing, .ref h_this_tape, .ref h_this_rows, .int x_this_tapeCount, .int x_this_rowCount, .int x_this_isKept]), (h_this_rock, ob 3 [.ref h_this_rock_kinds, .ref h_this_rock_trims, .ref h_this_rock_lanes, .ref h_this_rock_lights, .ref h_this_rock_currents, .ref h_this_rock_buoys, .ref h_this_rock_now, .ref h_this_rock_rules, .ref h_this_rock_reports, .int x_this_rock_count, .int x_this_rock_end, .int x_this_rock_z]), (h_this_rock_lanes, ia G 6 f_this_rock_lanes), (h_this_rock_now, ob 6 [.ref h_this_rock_now_off, .int x_this_rock_now_watch, .int x_this_rock_now_score, .int x_this_rock_now_home]), (h_this_rock_now_off, ia G 6 f_this_rock_now_off), (h_this_rock_trims, ia G 6 f_this_rock_trims)] r [(h_this, ob 8 [.ref h_this_rock, .ref h_this_kept, .ref h_this_trial, .ref h_this_planner, .ref h_this_reader, .ref h_this_draft, .ref h_this_host, .ref h_this_thing, .ref h_this_tape, .ref h_this_rows, .int x_this_tapeCount, .int x_this_rowCount, .int x_this_isKept]), (h_this_rock, ob 3 [.ref h_this_rock_kinds, .ref h_this_rock_trims, .ref h_this_rock_lanes, .ref h_this_rock_lights, .ref h_this_rock_currents, .ref h_this_rock_buoys, .ref h_this_rock_now, .ref h_this_rock_rules, .ref h_this_rock_reports, .int x_this_rock_count, .int x_this_rock_end, .int x_this_rock_z]), (h_this_rock_lanes, ia G 6 m_this_rock_lanes), (h_this_rock_now, ob 6 [.ref h_this_rock_now_off, .int x_this_rock_now_watch, .int x_this_rock_now_score, .int m_this_rock_now_home]), (h_this_rock_now_off, ia G 6 m_this_rock_now_off), (h_this_rock_trims, ia G 6 m_this_rock_trims)] := by
  refine mFi.of (by decide +kernel) (Nat.le_of_ble_eq_true rfl) ?_
  intro p e s m below meth c A C hr hlk h ls hl
  obtain ⟨hx, hb, hml, hown, hts⟩ := id C
  replace hl : lv_has ls 4 [(0, .ref h_this), (1, .int p0), (2, .int p1), (3, .int p2)] := hl
  unfold f_X8_change at hf
  refine lv_aload_n hx hb dX8_change_0 rfl (lv_at hl 0 rfl) ?_
  refine r_get C h fk_X8_10 0 rfl rfl dX8_change_1 ?_
  refine lv_iload_n hx hb dX8_change_4 rfl (lv_at hl 1 rfl) ?_
  replace hf := bd1_inv hf
  obtain ⟨r1, hc2, hf⟩ := hf
  refine r_ciV0 C h (c_X3_has hc2) mv_X8_90 rfl 1 rfl [1] rfl rfl hl.1 rfl (Nat.le_of_ble_eq_true rfl) (rok (by decide)) dX8_change_5 (fun H locs h => ?_)
  refine lv_if_eq (tgt := 15) hx hb dX8_change_8 rfl (fun c3 => ?_) (fun c3 => ?_)
  · replace hf := ifp c3 hf
    refine lv_iconst (v := (-1 : Int32)) hx hb dX8_change_15 rfl ?_
    cases hf
    exact r_iret C h hr hlk rfl dX8_change_16
  · replace hf := ifn c3 hf
    refine lv_iload_n hx hb dX8_change_11 rfl (lv_at hl 3 rfl) ?_
    refine lv_if_ge (tgt := 17) hx hb dX8_change_12 rfl (fun c4 => ?_) (fun c4 => ?_)
    · replace hf := ifp c4 hf
      refine lv_iload_n hx hb dX8_change_17 rfl (lv_at hl 2 rfl) ?_
      by_cases c5 : p1 = (1 : Int32)
      · replace hf := ifp c5 hf
        refine r_tab (tgt := 48) C dX8_change_18 (1 : Int32) c5 (by decide) rfl rfl ?_
        refine lv_iload_n hx hb dX8_change_48 rfl (lv_at hl 3 rfl) ?_
        refine lv_bipush (v := (99 : Int32)) hx hb dX8_change_49 rfl ?_
        refine lv_icmp_le (tgt := 58) hx hb dX8_change_51 rfl (fun c9 => ?_) (fun c9 => ?_)
        · replace hf := ifp c9 hf
          refine lv_aload_n hx hb dX8_change_58 rfl (lv_at hl 0 rfl) ?_
          refine r_get C h fk_X8_10 0 rfl rfl dX8_change_59 ?_
          refine r_get C h fk_X8_94 1 rfl rfl dX8_change_62 ?_
          refine r_get C h fk_X8_100 3 rfl rfl dX8_change_65 ?_
          refine lv_iload_n hx hb dX8_change_68 rfl (lv_at hl 1 rfl) ?_
          refine lv_iload_n hx hb dX8_change_69 rfl (lv_at hl 3 rfl) ?_
          replace hf := bd2_inv hf
          obtain ⟨r10, g11, hc12, hf⟩ := hf
          refine r_ciS (ws' := [(h_this, ob 8 [.ref h_this_rock, .ref h_this_kept, .ref h_this_trial, .ref h_this_planner, .ref h_this_reader, .ref h_this_draft, .ref h_this_host, .ref h_this_thing, .ref h_this_tape, .ref h_this_rows, .int x_this_tapeCount, .int x_this_rowCount, .int x_this_isKept]), (h_this_rock, ob 3 [.ref h_this_rock_kinds, .ref h_this_rock_trims, .ref h_this_rock_lanes, .ref h_this_rock_lights, .ref h_this_rock_currents, .ref h_this_rock_buoys, .ref h_this_rock_now, .ref h_this_rock_rules, .ref h_this_rock_reports, .int x_this_rock_count, .int x_this_rock_end, .int x_this_rock_z]), (h_this_rock_lanes, ia G 6 f_this_rock_lanes), (h_this_rock_now, ob 6 [.ref h_this_rock_now_off, .int x_this_rock_now_watch, .int x_this_rock_now_score, .int x_this_rock_now_home]), (h_this_rock_now_off, ia G 6 g11), (h_this_rock_trims, ia G 6 f_this_rock_trims)]) C h (c_X8_put hc12) ms_X8_130 rfl [4] rfl rfl [4] [(h_this_rock_now_off, ia G 6 g11)] rfl rfl (by decide +kernel) rfl hl.1 rfl (Nat.le_of_ble_eq_true rfl) (rok (by decide)) dX8_change_70 (fun H locs h => ?_)
          cases hf
          exact r_iret C h hr hlk rfl dX8_change_73
        · replace hf := ifn c9 hf
          refine lv_iconst (v := (-1 : Int32)) hx hb dX8_change_54 rfl ?_
          refine lv_goto (tgt := 73) hx hb dX8_change_55 rfl ?_
          cases hf
          exact r_iret C h hr hlk rfl dX8_change_73
      · replace hf := ifn c5 hf
        by_cases c6 : p1 = (2 : Int32)
        · replace hf := ifp c6 hf
          refine r_tab (tgt := 74) C dX8_change_18 (2 : Int32) c6 (by decide) rfl rfl ?_
          refine lv_iload_n hx hb dX8_change_74 rfl (lv_at hl 3 rfl) ?_
          refine lv_bipush (v := (9 : Int32)) hx hb dX8_change_75 rfl ?_
          refine lv_icmp_le (tgt := 84) hx hb dX8_change_77 rfl (fun c13 => ?_) (fun c13 => ?_)
          · replace hf := ifp c13 hf
            refine lv_aload_n hx hb dX8_change_84 rfl (lv_at hl 0 rfl) ?_
            refine r_get C h fk_X8_10 0 rfl rfl dX8_change_85 ?_
            refine r_get C h fk_X8_103 1 rfl rfl dX8_change_88 ?_
            refine lv_iload_n hx hb dX8_change_91 rfl (lv_at hl 1 rfl) ?_
            refine lv_iload_n hx hb dX8_change_92 rfl (lv_at hl 3 rfl) ?_
            replace hf := bd2_inv hf
            obtain ⟨r14, g15, hc16, hf⟩ := hf
            refine r_ciS (ws' := [(h_this, ob 8 [.ref h_this_rock, .ref h_this_kept, .ref h_this_trial, .ref h_this_planner, .ref h_this_reader, .ref h_this_draft, .ref h_this_host, .ref h_this_thing, .ref h_this_tape, .ref h_this_rows, .int x_this_tapeCount, .int x_this_rowCount, .int x_this_isKept]), (h_this_rock, ob 3 [.ref h_this_rock_kinds, .ref h_this_rock_trims, .ref h_this_rock_lanes, .ref h_this_rock_lights, .ref h_this_rock_currents, .ref h_this_rock_buoys, .ref h_this_rock_now, .ref h_this_rock_rules, .ref h_this_rock_reports, .int x_this_rock_count, .int x_this_rock_end, .int x_this_rock_z]), (h_this_rock_lanes, ia G 6 f_this_rock_lanes), (h_this_rock_now, ob 6 [.ref h_this_rock_now_off, .int x_this_rock_now_watch, .int x_this_rock_now_score, .int x_this_rock_now_home]), (h_this_rock_now_off, ia G 6 f_this_rock_now_off), (h_this_rock_trims, ia G 6 g15)]) C h (c_X8_put hc16) ms_X8_130 rfl [5] rfl rfl [5] [(h_this_rock_trims, ia G 6 g15)] rfl rfl (by decide +kernel) rfl hl.1 rfl (Nat.le_of_ble_eq_true rfl) (rok (by decide)) dX8_change_93 (fun H locs h => ?_)
            cases hf
            exact r_iret C h hr hlk rfl dX8_change_96
          · replace hf := ifn c13 hf
            refine lv_iconst (v := (-1 : Int32)) hx hb dX8_change_80 rfl ?_
            refine lv_goto (tgt := 96) hx hb dX8_change_81 rfl ?_
            cases hf
            exact r_iret C h hr hlk rfl dX8_change_96
        · replace hf := ifn c6 hf
          by_cases c7 : p1 = (3 : Int32)
          · replace hf := ifp c7 hf
            refine r_tab (tgt := 97) C dX8_change_18 (3 : Int32) c7 (by decide) rfl rfl ?_
            refine lv_iload_n hx hb dX8_change_97 rfl (lv_at hl 3 rfl) ?_
            refine lv_bipush (v := (6 : Int32)) hx hb dX8_change_98 rfl ?_
            refine lv_icmp_lt (tgt := 107) hx hb dX8_change_100 rfl (fun c17 => ?_) (fun c17 => ?_)
            · replace hf := ifp c17 hf
              refine lv_aload_n hx hb dX8_change_107 rfl (lv_at hl 0 rfl) ?_
              refine r_get C h fk_X8_10 0 rfl rfl dX8_change_108 ?_
              refine r_get C h fk_X8_106 1 rfl rfl dX8_change_111 ?_
              refine lv_iload_n hx hb dX8_change_114 rfl (lv_at hl 1 rfl) ?_
              refine lv_iload_n hx hb dX8_change_115 rfl (lv_at hl 3 rfl) ?_
              replace hf := bd2_inv hf
              obtain ⟨r18, g19, hc20, hf⟩ := hf
              refine r_ciS (ws' := [(h_this, ob 8 [.ref h_this_rock, .ref h_this_kept, .ref h_this_trial, .ref h_this_planner, .ref h_this_reader, .ref h_this_draft, .ref h_this_host, .ref h_this_thing, .ref h_this_tape, .ref h_this_rows, .int x_this_tapeCount, .int x_this_rowCount, .int x_this_isKept]), (h_this_rock, ob 3 [.ref h_this_rock_kinds, .ref h_this_rock_trims, .ref h_this_rock_lanes, .ref h_this_rock_lights, .ref h_this_rock_currents, .ref h_this_rock_buoys, .ref h_this_rock_now, .ref h_this_rock_rules, .ref h_this_rock_reports, .int x_this_rock_count, .int x_this_rock_end, .int x_this_rock_z]), (h_this_rock_lanes, ia G 6 g19), (h_this_rock_now, ob 6 [.ref h_this_rock_now_off, .int x_this_rock_now_watch, .int x_this_rock_now_score, .int x_this_rock_now_home]), (h_this_rock_now_off, ia G 6 f_this_rock_now_off), (h_this_rock_trims, ia G 6 f_this_rock_trims)]) C h (c_X8_put hc20) ms_X8_130 rfl [2] rfl rfl [2] [(h_this_rock_lanes, ia G 6 g19)] rfl rfl (by decide +kernel) rfl hl.1 rfl (Nat.le_of_ble_eq_true rfl) (rok (by decide)) dX8_change_116 (fun H locs h => ?_)
              cases hf
              exact r_iret C h hr hlk rfl dX8_change_119
            · replace hf := ifn c17 hf
              refine lv_iconst (v := (-1 : Int32)) hx hb dX8_change_103 rfl ?_
              refine lv_goto (tgt := 119) hx hb dX8_change_104 rfl ?_
              cases hf
              exact r_iret C h hr hlk rfl dX8_change_119
          · replace hf := ifn c7 hf
            by_cases c8 : p1 = (4 : Int32)
            · replace hf := ifp c8 hf
              refine r_tab (tgt := 120) C dX8_change_18 (4 : Int32) c8 (by decide) rfl rfl ?_
              refine lv_iload_n hx hb dX8_change_120 rfl (lv_at hl 3 rfl) ?_
              refine lv_iconst (v := (1 : Int32)) hx hb dX8_change_121 rfl ?_
              refine lv_icmp_le (tgt := 129) hx hb dX8_change_122 rfl (fun c21 => ?_) (fun c21 => ?_)
              · replace hf := ifp c21 hf
                refine lv_aload_n hx hb dX8_change_129 rfl (lv_at hl 0 rfl) ?_
                refine r_get C h fk_X8_10 0 rfl rfl dX8_change_130 ?_
                refine r_get C h fk_X8_94 1 rfl rfl dX8_change_133 ?_
                refine lv_iload_n hx hb dX8_change_136 rfl (lv_at hl 1 rfl) ?_
                refine lv_iload_n hx hb dX8_change_137 rfl (lv_at hl 3 rfl) ?_
                replace hf := bd2_inv hf
                obtain ⟨r22, y23, hc24, hf⟩ := hf
                refine r_ciV (ws' := [(h_this, ob 8 [.ref h_this_rock, .ref h_this_kept, .ref h_this_trial, .ref h_this_planner, .ref h_this_reader, .ref h_this_draft, .ref h_this_host, .ref h_this_thing, .ref h_this_tape, .ref h_this_rows, .int x_this_tapeCount, .int x_this_rowCount, .int x_this_isKept]), (h_this_rock, ob 3 [.ref h_this_rock_kinds, .ref h_this_rock_trims, .ref h_this_rock_lanes, .ref h_this_rock_lights, .ref h_this_rock_currents, .ref h_this_rock_buoys, .ref h_this_rock_now, .ref h_this_rock_rules, .ref h_this_rock_reports, .int x_this_rock_count, .int x_this_rock_end, .int x_this_rock_z]), (h_this_rock_lanes, ia G 6 f_this_rock_lanes), (h_this_rock_now, ob 6 [.ref h_this_rock_now_off, .int x_this_rock_now_watch, .int x_this_rock_now_score, .int y23]), (h_this_rock_now_off, ia G 6 f_this_rock_now_off), (h_this_rock_trims, ia G 6 f_this_rock_trims)]) C h (c_X6_bring hc24) mv_X8_134 rfl 3 rfl [3] rfl rfl [3] [(h_this_rock_now, ob 6 [.ref h_this_rock_now_off, .int x_this_rock_now_watch, .int x_this_rock_now_score, .int y23])] rfl rfl (by decide +kernel) rfl hl.1 rfl (Nat.le_of_ble_eq_true rfl) (rok (by decide)) dX8_change_138 (fun H locs h => ?_)
                cases hf
                exact r_iret C h hr hlk rfl dX8_change_141
              · replace hf := ifn c21 hf
                refine lv_iconst (v := (-1 : Int32)) hx hb dX8_change_125 rfl ?_
                refine lv_goto (tgt := 141) hx hb dX8_change_126 rfl ?_
                cases hf
                exact r_iret C h hr hlk rfl dX8_change_141
            · replace hf := ifn c8 hf
              refine r_tabD (tgt := 142) C dX8_change_18 [(1 : Int32), (2 : Int32), (3 : Int32), (4 : Int32)] (by decide) (nel_c c5 (nel_c c6 (nel_c c7 (nel_c c8 nel_0)))) rfl ?_
              refine lv_iconst (v := (-1 : Int32)) hx hb dX8_change_142 rfl ?_
              cases hf
              exact r_iret C h hr hlk rfl dX8_change_143
    · replace hf := ifn c4 hf
      refine lv_iconst (v := (-1 : Int32)) hx hb dX8_change_15 rfl ?_
      cases hf
      exact r_iret C h hr hlk rfl dX8_change_16
set_option maxRecDepth 100000 in
set_option maxHeartbeats 4000000 in
theorem c_X8_remake {l : Launch} {G : Gt} {h_this h_this_rock h_this_kept h_this_trial h_this_planner h_this_reader h_this_draft h_this_host h_this_thing h_this_tape h_this_rows h_this_rock_kinds h_this_rock_trims h_this_rock_lanes h_this_rock_lights h_this_rock_currents h_this_rock_buoys h_this_rock_now h_this_rock_rules h_this_rock_reports : Nat} {p0 : Int32} {p1 : Int32} {x_this_tapeCount : Int32} {x_this_rowCount : Int32} {x_this_isKept : Int32} {x_this_rock_count : Int32} {x_this_rock_end : Int32} {x_this_rock_z : Int32} {f_this_rock_kinds : Nat → Int32} {r : Int32} {m_this_rock_kinds : Nat → Int32} (hf : f_X8_remake p0 p1 x_this_rock_count f_this_rock_kinds = some (r, m_this_rock_kinds)) : mFi l G yX8_remake cX8_remake 3 .int 1 [.ref h_this, .int p0, .int p1] [(h_this, ob 8 [.ref h_this_rock, .ref h_this_kept, .ref h_this_trial, .ref h_this_planner, .ref h_this_reader, .ref h_this_draft, .ref h_this_host, .ref h_this_thing, .ref h_this_tape, .ref h_this_rows, .int x_this_tapeCount, .int x_this_rowCount, .int x_this_isKept]), (h_this_rock, ob 3 [.ref h_this_rock_kinds, .ref h_this_rock_trims, .ref h_this_rock_lanes, .ref h_this_rock_lights, .ref h_this_rock_currents, .ref h_this_rock_buoys, .ref h_this_rock_now, .ref h_this_rock_rules, .ref h_this_rock_reports, .int x_this_rock_count, .int x_this_rock_end, .int x_this_rock_z]), (h_this_rock_kinds, ia G 6 f_this_rock_kinds)] r [(h_this, ob 8 [.ref h_this_rock, .ref h_this_kept, .ref h_this_trial, .ref h_this_planner, .ref h_this_reader, .ref h_this_draft, .ref h_this_host, .ref h_this_thing, .ref h_this_tape, .ref h_this_rows, .int x_this_tapeCount, .int x_this_rowCount, .int x_this_isKept]), (h_this_rock, ob 3 [.ref h_this_rock_kinds, .ref h_this_rock_trims, .ref h_this_rock_lanes, .ref h_this_rock_lights, .ref h_this_rock_currents, .ref h_this_rock_buoys, .ref h_this_rock_now, .ref h_this_rock_rules, .ref h_this_rock_reports, .int x_this_rock_count, .int x_this_rock_end, .int x_this_rock_z]), (h_this_rock_kinds, ia G 6 m_this_rock_kinds)] := by
  refine mFi.of (by decide +kernel) (Nat.le_of_ble_eq_true rfl) ?_
  intro p e s m below meth c A C hr hlk h ls hl
  obtain ⟨hx, hb, hml, hown, hts⟩ := id C
  replace hl : lv_has ls 3 [(0, .ref h_this), (1, .int p0), (2, .int p1)] := hl
  unfold f_X8_remake at hf
  refine lv_aload_n hx hb dX8_remake_0 rfl (lv_at hl 0 rfl) ?_
  refine r_get C h fk_X8_10 0 rfl rfl dX8_remake_1 ?_
  refine lv_iload_n hx hb dX8_remake_4 rfl (lv_at hl 1 rfl) ?_
  replace hf := bd1_inv hf
  obtain ⟨r1, hc2, hf⟩ := hf
  refine r_ciV0 C h (c_X3_has hc2) mv_X8_90 rfl 1 rfl [1] rfl rfl hl.1 rfl (Nat.le_of_ble_eq_true rfl) (rok (by decide)) dX8_remake_5 (fun H locs h => ?_)
  refine lv_if_eq (tgt := 20) hx hb dX8_remake_8 rfl (fun c3 => ?_) (fun c3 => ?_)
  · replace hf := ifp c3 hf
    refine lv_iconst (v := (-1 : Int32)) hx hb dX8_remake_20 rfl ?_
    cases hf
    exact r_iret C h hr hlk rfl dX8_remake_21
  · replace hf := ifn c3 hf
    refine lv_iload_n hx hb dX8_remake_11 rfl (lv_at hl 2 rfl) ?_
    refine lv_iconst (v := (1 : Int32)) hx hb dX8_remake_12 rfl ?_
    refine lv_iconst (v := (5 : Int32)) hx hb dX8_remake_13 rfl ?_
    replace hf := bd1_inv hf
    obtain ⟨r4, hc5, hf⟩ := hf
    refine r_ciS0 C h (c_X8_within hc5) ms_X8_79 rfl [] rfl rfl hl.1 rfl (Nat.le_of_ble_eq_true rfl) (rok (by decide)) dX8_remake_14 (fun H locs h => ?_)
    refine lv_if_ne (tgt := 22) hx hb dX8_remake_17 rfl (fun c6 => ?_) (fun c6 => ?_)
    · replace hf := ifn c6 hf
      refine lv_aload_n hx hb dX8_remake_22 rfl (lv_at hl 0 rfl) ?_
      refine r_get C h fk_X8_10 0 rfl rfl dX8_remake_23 ?_
      refine r_get C h fk_X8_97 1 rfl rfl dX8_remake_26 ?_
      refine lv_iload_n hx hb dX8_remake_29 rfl (lv_at hl 1 rfl) ?_
      refine lv_iload_n hx hb dX8_remake_30 rfl (lv_at hl 2 rfl) ?_
      replace hf := bd2_inv hf
      obtain ⟨r7, g8, hc9, hf⟩ := hf
      refine r_ciS (ws' := [(h_this, ob 8 [.ref h_this_rock, .ref h_this_kept, .ref h_this_trial, .ref h_this_planner, .ref h_this_reader, .ref h_this_draft, .ref h_this_host, .ref h_this_thing, .ref h_this_tape, .ref h_this_rows, .int x_this_tapeCount, .int x_this_rowCount, .int x_this_isKept]), (h_this_rock, ob 3 [.ref h_this_rock_kinds, .ref h_this_rock_trims, .ref h_this_rock_lanes, .ref h_this_rock_lights, .ref h_this_rock_currents, .ref h_this_rock_buoys, .ref h_this_rock_now, .ref h_this_rock_rules, .ref h_this_rock_reports, .int x_this_rock_count, .int x_this_rock_end, .int x_this_rock_z]), (h_this_rock_kinds, ia G 6 g8)]) C h (c_X8_put hc9) ms_X8_130 rfl [2] rfl rfl [2] [(h_this_rock_kinds, ia G 6 g8)] rfl rfl (by decide +kernel) rfl hl.1 rfl (Nat.le_of_ble_eq_true rfl) (rok (by decide)) dX8_remake_31 (fun H locs h => ?_)
      cases hf
      exact r_iret C h hr hlk rfl dX8_remake_34
    · replace hf := ifp c6 hf
      refine lv_iconst (v := (-1 : Int32)) hx hb dX8_remake_20 rfl ?_
      cases hf
      exact r_iret C h hr hlk rfl dX8_remake_21
