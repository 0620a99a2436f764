def f_X8_wouldBe_L58 (p0 : Int32) (p1 : Int32) (p2 : Int32) (f_this_host_items : Nat → Int32) (f_this_host_sizes : Nat → Int32) (x_this_rock_count : Int32) (x_this_rock_end : Int32) (f_this_rock_buoys : Nat → Int32) (f_this_rock_currents : Nat → Int32) (f_this_rock_kinds : Nat → Int32) (f_this_rock_lanes : Nat → Int32) (f_this_rock_lights : Nat → Int32) (x_this_rock_rules_count : Int32) (f_this_rock_rules_begins : Nat → Int32) (f_this_rock_rules_deeds : Nat → Int32) (f_this_rock_rules_kinds : Nat → Int32) (f_this_rock_rules_lefts : Nat → Int32) (f_this_rock_rules_rights : Nat → Int32) (f_this_rock_rules_steps : Nat → Int32) (f_this_rock_trims : Nat → Int32) : Nat → Int32 → Int32 → (Nat → Int32) → Int32 → Int32 → Int32 → (Nat → Int32) → Option (Int32 × (Nat → Int32) × Int32 × Int32 × Int32 × (Nat → Int32))
  | 0, _, _, _, _, _, _, _ => none
  | n + 1, v5, v6, g_this_rock_rules_facts, y_this_trial_watch, y_this_trial_score, y_this_trial_home, g_this_trial_off => (if p2 ≤ v6 then some (v5, g_this_rock_rules_facts, y_this_trial_watch, y_this_trial_score, y_this_trial_home, g_this_trial_off) else bd1 (f_X0_hasItem p0 (p1 + v6) f_this_host_sizes) (fun r16 => (if r16 = 0 then some ((-12 : Int32), g_this_rock_rules_facts, y_this_trial_watch, y_this_trial_score, y_this_trial_home, g_this_trial_off) else bd1 (f_X0_get p0 (p1 + v6) f_this_host_items) (fun r19 => bd1 (f_X3_hasAct r19 x_this_rock_count) (fun r21 => (if r21 = 0 then some ((-4 : Int32), g_this_rock_rules_facts, y_this_trial_watch, y_this_trial_score, y_this_trial_home, g_this_trial_off) else bd1 (f_X3_isOver y_this_trial_watch x_this_rock_end) (fun r24 => (if r24 = 0 then bd6 (f_X3_pass r19 y_this_trial_watch y_this_trial_score y_this_trial_home g_this_trial_off x_this_rock_count f_this_rock_buoys f_this_rock_currents f_this_rock_kinds f_this_rock_lanes f_this_rock_lights x_this_rock_rules_count f_this_rock_rules_begins f_this_rock_rules_deeds g_this_rock_rules_facts f_this_rock_rules_kinds f_this_rock_rules_lefts f_this_rock_rules_rights f_this_rock_rules_steps f_this_rock_trims) (fun r27 y28 y29 y30 g31 g32 => lt1 (v5 + r27) (fun (t34 : Int32) => lt1 (v6 + (1 : Int32)) (fun (t35 : Int32) => (f_X8_wouldBe_L58 p0 p1 p2 f_this_host_items f_this_host_sizes x_this_rock_count x_this_rock_end f_this_rock_buoys f_this_rock_currents f_this_rock_kinds f_this_rock_lanes f_this_rock_lights x_this_rock_rules_count f_this_rock_rules_begins f_this_rock_rules_deeds f_this_rock_rules_kinds f_this_rock_rules_lefts f_this_rock_rules_rights f_this_rock_rules_steps f_this_rock_trims n) t34 t35 g32 y28 y29 y30 g31))) else some ((-4 : Int32), g_this_rock_rules_facts, y_this_trial_watch, y_this_trial_score, y_this_trial_home, g_this_trial_off)))))))))
def f_X8_wouldBe (p0 : Int32) (p1 : Int32) (p2 : Int32) (f_this_host_items : Nat → Int32) (f_this_host_sizes : Nat → Int32) (f_this_host_sorts : Nat → Int32) (x_this_rock_count : Int32) (x_this_rock_end : Int32) (f_this_rock_buoys : Nat → Int32) (f_this_rock_currents : Nat → Int32) (f_this_rock_kinds : Nat → Int32) (f_this_rock_lanes : Nat → Int32) (f_this_rock_lights : Nat → Int32) (x_this_rock_now_watch : Int32) (x_this_rock_now_score : Int32) (x_this_rock_now_home : Int32) (f_this_rock_now_off : Nat → Int32) (x_this_rock_rules_count : Int32) (f_this_rock_rules_begins : Nat → Int32) (f_this_rock_rules_deeds : Nat → Int32) (f_this_rock_rules_facts : Nat → Int32) (f_this_rock_rules_kinds : Nat → Int32) (f_this_rock_rules_lefts : Nat → Int32) (f_this_rock_rules_rights : Nat → Int32) (f_this_rock_rules_steps : Nat → Int32) (f_this_rock_trims : Nat → Int32) (x_this_trial_watch : Int32) (x_this_trial_score : Int32) (x_this_trial_home : Int32) (f_this_trial_off : Nat → Int32) : Option (Int32 × (Nat → Int32) × Int32 × Int32 × Int32 × (Nat → Int32)) := bd1 (f_X0_hasSheet p0) (fun r1 => (if r1 = 0 then some ((-1 : Int32), f_this_rock_rules_facts, x_this_trial_watch, x_this_trial_score, x_this_trial_home, f_this_trial_off) else bd1 (f_X8_within p2 (0 : Int32) (20 : Int32)) (fun r4 => (if r4 = 0 then some ((-1 : Int32), f_this_rock_rules_facts, x_this_trial_watch, x_this_trial_score, x_this_trial_home, f_this_trial_off) else bd1 (f_X0_refusalOf p0 (0 : Int32) f_this_host_sorts) (fun r7 => (if r7 = 0 then bd4 (f_X6_become x_this_rock_now_watch x_this_rock_now_score x_this_rock_now_home f_this_rock_now_off f_this_trial_off) (fun y10 y11 y12 g13 => f_X8_wouldBe_L58 p0 p1 p2 f_this_host_items f_this_host_sizes x_this_rock_count x_this_rock_end f_this_rock_buoys f_this_rock_currents f_this_rock_kinds f_this_rock_lanes f_this_rock_lights x_this_rock_rules_count f_this_rock_rules_begins f_this_rock_rules_deeds f_this_rock_rules_kinds f_this_rock_rules_lefts f_this_rock_rules_rights f_this_rock_rules_steps f_this_rock_trims 1000 (0 : Int32) (0 : Int32) f_this_rock_rules_facts y10 y11 y12 g13) else some (r7, f_this_rock_rules_facts, x_this_trial_watch, x_this_trial_score, x_this_trial_home, f_this_trial_off)))))))
set_option maxRecDepth 100000 in
set_option maxHeartbeats 4000000 in
theorem c_X8_wouldBe {l : Launch} {G : Gt} {h_this h_this_rock h_this_kept h_this_trial h_this_planner h_this_reader h_this_draft h_this_host h_this_thing h_this_tape h_this_rows h_this_host_sorts h_this_host_sizes h_this_host_items h_this_host_holds h_this_host_shelfShips h_this_host_shelfSorts h_this_host_shelfSizes h_this_rock_kinds h_this_rock_trims h_this_rock_lanes h_this_rock_lights h_this_rock_currents h_this_rock_buoys h_this_rock_now h_this_rock_rules h_this_rock_reports h_this_rock_now_off h_this_rock_rules_kinds h_this_rock_rules_deeds h_this_rock_rules_begins h_this_rock_rules_steps h_this_rock_rules_lefts h_this_rock_rules_rights h_this_rock_rules_facts h_this_trial_off : Nat} {p0 : Int32} {p1 : Int32} {p2 : Int32} {x_this_tapeCount : Int32} {x_this_rowCount : Int32} {x_this_isKept : Int32} {f_this_host_items : Nat → Int32} {f_this_host_sizes : Nat → Int32} {f_this_host_sorts : Nat → Int32} {x_this_rock_count : Int32} {x_this_rock_end : Int32} {x_this_rock_z : Int32} {f_this_rock_buoys : Nat → Int32} {f_this_rock_currents : Nat → Int32} {f_this_rock_kinds : Nat → Int32} {f_this_rock_lanes : Nat → Int32} {f_this_rock_lights : Nat → Int32} {x_this_rock_now_watch : Int32} {x_this_rock_now_score : Int32} {x_this_rock_now_home : Int32} {f_this_rock_now_off : Nat → Int32} {x_this_rock_rules_count : Int32} {x_this_rock_rules_size : Int32} {f_this_rock_rules_begins : Nat → Int32} {f_this_rock_rules_deeds : Nat → Int32} {f_this_rock_rules_facts : Nat → Int32} {f_this_rock_rules_kinds : Nat → Int32} {f_this_rock_rules_lefts : Nat → Int32} {f_this_rock_rules_rights : Nat → Int32} {f_this_rock_rules_steps : Nat → Int32} {f_this_rock_trims : Nat → Int32} {x_this_trial_watch : Int32} {x_this_trial_score : Int32} {x_this_trial_home : Int32} {f_this_trial_off : Nat → Int32} {r : Int32} {m_this_rock_rules_facts : Nat → Int32} {m_this_trial_watch : Int32} {m_this_trial_score : Int32} {m_this_trial_home : Int32} {m_this_trial_off : Nat → Int32} (hf : f_X8_wouldBe p0 p1 p2 f_this_host_items f_this_host_sizes f_this_host_sorts x_this_rock_count x_this_rock_end f_this_rock_buoys f_this_rock_currents f_this_rock_kinds f_this_rock_lanes f_this_rock_lights x_this_rock_now_watch x_this_rock_now_score x_this_rock_now_home f_this_rock_now_off x_this_rock_rules_count f_this_rock_rules_begins f_this_rock_rules_deeds f_this_rock_rules_facts f_this_rock_rules_kinds f_this_rock_rules_lefts f_this_rock_rules_rights f_this_rock_rules_steps f_this_rock_trims x_this_trial_watch x_this_trial_score x_this_trial_home f_this_trial_off = some (r, m_this_rock_rules_facts, m_this_trial_watch, m_this_trial_score, m_this_trial_home, m_this_trial_off)) : mFi l G yX8_wouldBe cX8_wouldBe 8 .int 5 [.ref h_this, .int p0, .int p1, .int p2] [(h_this, ob 8 [.ref h_this_rock, .ref h_this_kept, .ref h_this_trial, .ref h_this_planner, .ref h_this_reader, .ref h_this_draft, .ref h_this_host, .ref h_this_thing, .ref h_this_tape, .ref h_this_rows, .int x_this_tapeCount, .int x_this_rowCount, .int x_this_isKept]), (h_this_host, ob 0 [.ref h_this_host_sorts, .ref h_this_host_sizes, .ref h_this_host_items, .ref h_this_host_holds, .ref h_this_host_shelfShips, .ref h_this_host_shelfSorts, .ref h_this_host_shelfSizes]), (h_this_host_items, ia G 160 f_this_host_items), (h_this_host_sizes, ia G 4 f_this_host_sizes), (h_this_host_sorts, ia G 4 f_this_host_sorts), (h_this_rock, ob 3 [.ref h_this_rock_kinds, .ref h_this_rock_trims, .ref h_this_rock_lanes, .ref h_this_rock_lights, .ref h_this_rock_currents, .ref h_this_rock_buoys, .ref h_this_rock_now, .ref h_this_rock_rules, .ref h_this_rock_reports, .int x_this_rock_count, .int x_this_rock_end, .int x_this_rock_z]), (h_this_rock_buoys, ia G 6 f_this_rock_buoys), (h_this_rock_currents, ia G 6 f_this_rock_currents), (h_this_rock_kinds, ia G 6 f_this_rock_kinds), (h_this_rock_lanes, ia G 6 f_this_rock_lanes), (h_this_rock_lights, ia G 16 f_this_rock_lights), (h_this_rock_now, ob 6 [.ref h_this_rock_now_off, .int x_this_rock_now_watch, .int x_this_rock_now_score, .int x_this_rock_now_home]), (h_this_rock_now_off, ia G 6 f_this_rock_now_off), (h_this_rock_rules, ob 5 [.ref h_this_rock_rules_kinds, .ref h_this_rock_rules_deeds, .ref h_this_rock_rules_begins, .ref h_this_rock_rules_steps, .ref h_this_rock_rules_lefts, .ref h_this_rock_rules_rights, .ref h_this_rock_rules_facts, .int x_this_rock_rules_count, .int x_this_rock_rules_size]), (h_this_rock_rules_begins, ia G 9 f_this_rock_rules_begins), (h_this_rock_rules_deeds, ia G 8 f_this_rock_rules_deeds), (h_this_rock_rules_facts, ia G 5 f_this_rock_rules_facts), (h_this_rock_rules_kinds, ia G 8 f_this_rock_rules_kinds), (h_this_rock_rules_lefts, ia G 200 f_this_rock_rules_lefts), (h_this_rock_rules_rights, ia G 200 f_this_rock_rules_rights), (h_this_rock_rules_steps, ia G 200 f_this_rock_rules_steps), (h_this_rock_trims, ia G 6 f_this_rock_trims), (h_this_trial, ob 6 [.ref h_this_trial_off, .int x_this_trial_watch, .int x_this_trial_score, .int x_this_trial_home]), (h_this_trial_off, ia G 6 f_this_trial_off)] r [(h_this, ob 8 [.ref h_this_rock, .ref h_this_kept, .ref h_this_trial, .ref h_this_planner, .ref h_this_reader, .ref h_this_draft, .ref h_this_host, .ref h_this_thing, .ref h_this_tape, .ref h_this_rows, .int x_this_tapeCount, .int x_this_rowCount, .int x_this_isKept]), (h_this_host, ob 0 [.ref h_this_host_sorts, .ref h_this_host_sizes, .ref h_this_host_items, .ref h_this_host_holds, .ref h_this_host_shelfShips, .ref h_this_host_shelfSorts, .ref h_this_host_shelfSizes]), (h_this_host_items, ia G 160 f_this_host_items), (h_this_host_sizes, ia G 4 f_this_host_sizes), (h_this_host_sorts, ia G 4 f_this_host_sorts), (h_this_rock, ob 3 [.ref h_this_rock_kinds, .ref h_this_rock_trims, .ref h_this_rock_lanes, .ref h_this_rock_lights, .ref h_this_rock_currents, .ref h_this_rock_buoys, .ref h_this_rock_now, .ref h_this_rock_rules, .ref h_this_rock_reports, .int x_this_rock_count, .int x_this_rock_end, .int x_this_rock_z]), (h_this_rock_buoys, ia G 6 f_this_rock_buoys), (h_this_rock_currents, ia G 6 f_this_rock_currents), (h_this_rock_kinds, ia G 6 f_this_rock_kinds), (h_this_rock_lanes, ia G 6 f_this_rock_lanes), (h_this_rock_lights, ia G 16 f_this_rock_lights), (h_this_rock_now, ob 6 [.ref h_this_rock_now_off, .int x_this_rock_now_watch, .int x_this_rock_now_score, .int x_this_rock_now_home]), (h_this_rock_now_off, ia G 6 f_this_rock_now_off), (h_this_rock_rules, ob 5 [.ref h_this_rock_rules_kinds, .ref h_this_rock_rules_deeds, .ref h_this_rock_rules_begins, .ref h_this_rock_rules_steps, .ref h_this_rock_rules_lefts, .ref h_this_rock_rules_rights, .ref h_this_rock_rules_facts, .int x_this_rock_rules_count, .int x_this_rock_rules_size]), (h_this_rock_rules_begins, ia G 9 f_this_rock_rules_begins), (h_this_rock_rules_deeds, ia G 8 f_this_rock_rules_deeds), (h_this_rock_rules_facts, ia G 5 m_this_rock_rules_facts), (h_this_rock_rules_kinds, ia G 8 f_this_rock_rules_kinds), (h_this_rock_rules_lefts, ia G 200 f_this_rock_rules_lefts), (h_this_rock_rules_rights, ia G 200 f_this_rock_rules_rights), (h_this_rock_rules_steps, ia G 200 f_this_rock_rules_steps), (h_this_rock_trims, ia G 6 f_this_rock_trims), (h_this_trial, ob 6 [.ref h_this_trial_off, .int m_this_trial_watch, .int m_this_trial_score, .int m_this_trial_home]), (h_this_trial_off, ia G 6 m_this_trial_off)] := by
  refine mFi.of (by decide +kernel) (Nat.le_of_ble_eq_true rfl) ?_
  intro p e s m below meth c A C hr hlk h ls hl
  obtain ⟨hx, hb, hml, hown, hts⟩ := id C
  replace hl : lv_has ls 8 [(0, .ref h_this), (1, .int p0), (2, .int p1), (3, .int p2)] := hl
  unfold f_X8_wouldBe at hf
  refine with_K G A 8 (fun K hK1 hK2 => ?_)
  have L58 : ∀ (n : Nat) (v5 : Int32) (v6 : Int32) (g_this_rock_rules_facts : Nat → Int32) (y_this_trial_watch : Int32) (y_this_trial_score : Int32) (y_this_trial_home : Int32) (g_this_trial_off : Nat → Int32), f_X8_wouldBe_L58 p0 p1 p2 f_this_host_items f_this_host_sizes x_this_rock_count x_this_rock_end f_this_rock_buoys f_this_rock_currents f_this_rock_kinds f_this_rock_lanes f_this_rock_lights x_this_rock_rules_count f_this_rock_rules_begins f_this_rock_rules_deeds f_this_rock_rules_kinds f_this_rock_rules_lefts f_this_rock_rules_rights f_this_rock_rules_steps f_this_rock_trims n v5 v6 g_this_rock_rules_facts y_this_trial_watch y_this_trial_score y_this_trial_home g_this_trial_off = some (r, m_this_rock_rules_facts, m_this_trial_watch, m_this_trial_score, m_this_trial_home, m_this_trial_off) → K 58 ([] : List Value) [(h_this, ob 8 [.ref h_this_rock, .ref h_this_kept, .ref h_this_trial, .ref h_this_planner, .ref h_this_reader, .ref h_this_draft, .ref h_this_host, .ref h_this_thing, .ref h_this_tape, .ref h_this_rows, .int x_this_tapeCount, .int x_this_rowCount, .int x_this_isKept]), (h_this_host, ob 0 [.ref h_this_host_sorts, .ref h_this_host_sizes, .ref h_this_host_items, .ref h_this_host_holds, .ref h_this_host_shelfShips, .ref h_this_host_shelfSorts, .ref h_this_host_shelfSizes]), (h_this_host_items, ia G 160 f_this_host_items), (h_this_host_sizes, ia G 4 f_this_host_sizes), (h_this_host_sorts, ia G 4 f_this_host_sorts), (h_this_rock, ob 3 [.ref h_this_rock_kinds, .ref h_this_rock_trims, .ref h_this_rock_lanes, .ref h_this_rock_lights, .ref h_this_rock_currents, .ref h_this_rock_buoys, .ref h_this_rock_now, .ref h_this_rock_rules, .ref h_this_rock_reports, .int x_this_rock_count, .int x_this_rock_end, .int x_this_rock_z]), (h_this_rock_buoys, ia G 6 f_this_rock_buoys), (h_this_rock_currents, ia G 6 f_this_rock_currents), (h_this_rock_kinds, ia G 6 f_this_rock_kinds), (h_this_rock_lanes, ia G 6 f_this_rock_lanes), (h_this_rock_lights, ia G 16 f_this_rock_lights), (h_this_rock_now, ob 6 [.ref h_this_rock_now_off, .int x_this_rock_now_watch, .int x_this_rock_now_score, .int x_this_rock_now_home]), (h_this_rock_now_off, ia G 6 f_this_rock_now_off), (h_this_rock_rules, ob 5 [.ref h_this_rock_rules_kinds, .ref h_this_rock_rules_deeds, .ref h_this_rock_rules_begins, .ref h_this_rock_rules_steps, .ref h_this_rock_rules_lefts, .ref h_this_rock_rules_rights, .ref h_this_rock_rules_facts, .int x_this_rock_rules_count, .int x_this_rock_rules_size]), (h_this_rock_rules_begins, ia G 9 f_this_rock_rules_begins), (h_this_rock_rules_deeds, ia G 8 f_this_rock_rules_deeds), (h_this_rock_rules_facts, ia G 5 g_this_rock_rules_facts), (h_this_rock_rules_kinds, ia G 8 f_this_rock_rules_kinds), (h_this_rock_rules_lefts, ia G 200 f_this_rock_rules_lefts), (h_this_rock_rules_rights, ia G 200 f_this_rock_rules_rights), (h_this_rock_rules_steps, ia G 200 f_this_rock_rules_steps), (h_this_rock_trims, ia G 6 f_this_rock_trims), (h_this_trial, ob 6 [.ref h_this_trial_off, .int y_this_trial_watch, .int y_this_trial_score, .int y_this_trial_home]), (h_this_trial_off, ia G 6 g_this_trial_off)] [(0, .ref h_this), (1, .int p0), (2, .int p1), (3, .int p2), (5, .int v5), (6, .int v6)] := by
    intro n
    induction n with
    | zero =>
      intro v5 v6 g_this_rock_rules_facts y_this_trial_watch y_this_trial_score y_this_trial_home g_this_trial_off hf
      replace hf : (none : Option _) = some _ := hf
      cases hf
    | succ n ih =>
      intro v5 v6 g_this_rock_rules_facts y_this_trial_watch y_this_trial_score y_this_trial_home g_this_trial_off hf
      rw [f_X8_wouldBe_L58] at hf
      refine hK1 _ _ _ _ (fun H locs ls h hl => ?_)
      refine lv_iload hx hb dX8_wouldBe_58 (lv_at hl 5 rfl) ?_
      refine lv_iload_n hx hb dX8_wouldBe_60 rfl (lv_at hl 3 rfl) ?_
      refine lv_icmp_ge (tgt := 149) hx hb dX8_wouldBe_61 rfl (fun c15 => ?_) (fun c15 => ?_)
      · replace hf := ifp c15 hf
        refine lv_iload hx hb dX8_wouldBe_149 (lv_at hl 4 rfl) ?_
        obtain ⟨rfl, rfl, rfl, rfl, rfl, rfl⟩ := sm6 hf
        exact r_iret C h hr hlk rfl dX8_wouldBe_151
      · replace hf := ifn c15 hf
        refine lv_aload_n hx hb dX8_wouldBe_64 rfl (lv_at hl 0 rfl) ?_
        refine r_get C h fk_X8_50 0 rfl rfl dX8_wouldBe_65 ?_
        refine lv_iload_n hx hb dX8_wouldBe_68 rfl (lv_at hl 1 rfl) ?_
        refine lv_iload_n hx hb dX8_wouldBe_69 rfl (lv_at hl 2 rfl) ?_
        refine lv_iload hx hb dX8_wouldBe_70 (lv_at hl 5 rfl) ?_
        refine lv_iadd hx hb dX8_wouldBe_72 ?_
        replace hf := bd1_inv hf
        obtain ⟨r16, hc17, hf⟩ := hf
        refine r_ciV0 C h (c_X0_hasItem hc17) mv_X8_307 rfl 1 rfl [1, 3] rfl rfl hl.1 rfl (Nat.le_of_ble_eq_true rfl) (rok (by decide)) dX8_wouldBe_73 (fun H locs h => ?_)
        refine lv_if_ne (tgt := 82) hx hb dX8_wouldBe_76 rfl (fun c18 => ?_) (fun c18 => ?_)
        · replace hf := ifn c18 hf
          refine lv_aload_n hx hb dX8_wouldBe_82 rfl (lv_at hl 0 rfl) ?_
          refine r_get C h fk_X8_50 0 rfl rfl dX8_wouldBe_83 ?_
          refine lv_iload_n hx hb dX8_wouldBe_86 rfl (lv_at hl 1 rfl) ?_
          refine lv_iload_n hx hb dX8_wouldBe_87 rfl (lv_at hl 2 rfl) ?_
          refine lv_iload hx hb dX8_wouldBe_88 (lv_at hl 5 rfl) ?_
          refine lv_iadd hx hb dX8_wouldBe_90 ?_
          replace hf := bd1_inv hf
          obtain ⟨r19, hc20, hf⟩ := hf
          refine r_ciV0 C h (c_X0_get hc20) mv_X8_315 rfl 1 rfl [1, 2] rfl rfl hl.1 rfl (Nat.le_of_ble_eq_true rfl) (rok (by decide)) dX8_wouldBe_91 (fun H locs h => ?_)
          refine lv_istore (lv' := [(7, .int r19), (0, .ref h_this), (1, .int p0), (2, .int p1), (3, .int p2), (5, .int v5), (6, .int v6)]) hx hb dX8_wouldBe_94 hl (by decide) rfl (fun ls hl => ?_)
          refine lv_aload_n hx hb dX8_wouldBe_96 rfl (lv_at hl 1 rfl) ?_
          refine r_get C h fk_X8_10 0 rfl rfl dX8_wouldBe_97 ?_
          refine lv_iload hx hb dX8_wouldBe_100 (lv_at hl 0 rfl) ?_
          replace hf := bd1_inv hf
          obtain ⟨r21, hc22, hf⟩ := hf
          refine r_ciV0 C h (c_X3_hasAct hc22) mv_X8_294 rfl 5 rfl [5] rfl rfl hl.1 rfl (Nat.le_of_ble_eq_true rfl) (rok (by decide)) dX8_wouldBe_102 (fun H locs h => ?_)
          refine lv_if_eq (tgt := 122) hx hb dX8_wouldBe_105 rfl (fun c23 => ?_) (fun c23 => ?_)
          · replace hf := ifp c23 hf
            refine lv_bipush (v := (-4 : Int32)) hx hb dX8_wouldBe_122 rfl ?_
            obtain ⟨rfl, rfl, rfl, rfl, rfl, rfl⟩ := sm6 hf
            exact r_iret C h hr hlk rfl dX8_wouldBe_124
          · replace hf := ifn c23 hf
            refine lv_aload_n hx hb dX8_wouldBe_108 rfl (lv_at hl 1 rfl) ?_
            refine r_get C h fk_X8_10 0 rfl rfl dX8_wouldBe_109 ?_
            refine lv_aload_n hx hb dX8_wouldBe_112 rfl (lv_at hl 1 rfl) ?_
            refine r_get C h fk_X8_22 0 rfl rfl dX8_wouldBe_113 ?_
            replace hf := bd1_inv hf
            obtain ⟨r24, hc25, hf⟩ := hf
            refine r_ciV0 C h (c_X3_isOver hc25) mv_X8_159 rfl 5 rfl [22, 5] rfl rfl hl.1 rfl (Nat.le_of_ble_eq_true rfl) (rok (by decide)) dX8_wouldBe_116 (fun H locs h => ?_)
            refine lv_if_eq (tgt := 125) hx hb dX8_wouldBe_119 rfl (fun c26 => ?_) (fun c26 => ?_)
            · replace hf := ifp c26 hf
              refine lv_iload hx hb dX8_wouldBe_125 (lv_at hl 5 rfl) ?_
              refine lv_aload_n hx hb dX8_wouldBe_127 rfl (lv_at hl 1 rfl) ?_
              refine r_get C h fk_X8_10 0 rfl rfl dX8_wouldBe_128 ?_
              refine lv_aload_n hx hb dX8_wouldBe_131 rfl (lv_at hl 1 rfl) ?_
              refine r_get C h fk_X8_22 0 rfl rfl dX8_wouldBe_132 ?_
              refine lv_iload hx hb dX8_wouldBe_135 (lv_at hl 0 rfl) ?_
              replace hf := bd6_inv hf
              obtain ⟨r27, y28, y29, y30, g31, g32, hc33, hf⟩ := hf
              refine r_ciV (ws' := [(h_this, ob 8 [.ref h_this_rock, .ref h_this_kept, .ref h_this_trial, .ref h_this_planner, .ref h_this_reader, .ref h_this_draft, .ref h_this_host, .ref h_this_thing, .ref h_this_tape, .ref h_this_rows, .int x_this_tapeCount, .int x_this_rowCount, .int x_this_isKept]), (h_this_host, ob 0 [.ref h_this_host_sorts, .ref h_this_host_sizes, .ref h_this_host_items, .ref h_this_host_holds, .ref h_this_host_shelfShips, .ref h_this_host_shelfSorts, .ref h_this_host_shelfSizes]), (h_this_host_items, ia G 160 f_this_host_items), (h_this_host_sizes, ia G 4 f_this_host_sizes), (h_this_host_sorts, ia G 4 f_this_host_sorts), (h_this_rock, ob 3 [.ref h_this_rock_kinds, .ref h_this_rock_trims, .ref h_this_rock_lanes, .ref h_this_rock_lights, .ref h_this_rock_currents, .ref h_this_rock_buoys, .ref h_this_rock_now, .ref h_this_rock_rules, .ref h_this_rock_reports, .int x_this_rock_count, .int x_this_rock_end, .int x_this_rock_z]), (h_this_rock_buoys, ia G 6 f_this_rock_buoys), (h_this_rock_currents, ia G 6 f_this_rock_currents), (h_this_rock_kinds, ia G 6 f_this_rock_kinds), (h_this_rock_lanes, ia G 6 f_this_rock_lanes), (h_this_rock_lights, ia G 16 f_this_rock_lights), (h_this_rock_now, ob 6 [.ref h_this_rock_now_off, .int x_this_rock_now_watch, .int x_this_rock_now_score, .int x_this_rock_now_home]), (h_this_rock_now_off, ia G 6 f_this_rock_now_off), (h_this_rock_rules, ob 5 [.ref h_this_rock_rules_kinds, .ref h_this_rock_rules_deeds, .ref h_this_rock_rules_begins, .ref h_this_rock_rules_steps, .ref h_this_rock_rules_lefts, .ref h_this_rock_rules_rights, .ref h_this_rock_rules_facts, .int x_this_rock_rules_count, .int x_this_rock_rules_size]), (h_this_rock_rules_begins, ia G 9 f_this_rock_rules_begins), (h_this_rock_rules_deeds, ia G 8 f_this_rock_rules_deeds), (h_this_rock_rules_facts, ia G 5 g32), (h_this_rock_rules_kinds, ia G 8 f_this_rock_rules_kinds), (h_this_rock_rules_lefts, ia G 200 f_this_rock_rules_lefts), (h_this_rock_rules_rights, ia G 200 f_this_rock_rules_rights), (h_this_rock_rules_steps, ia G 200 f_this_rock_rules_steps), (h_this_rock_trims, ia G 6 f_this_rock_trims), (h_this_trial, ob 6 [.ref h_this_trial_off, .int y28, .int y29, .int y30]), (h_this_trial_off, ia G 6 g31)]) C h (c_X3_pass hc33) mv_X8_287 rfl 5 rfl [22, 23, 5, 6, 7, 8, 9, 10, 13, 14, 15, 16, 17, 18, 19, 20, 21] rfl rfl [16, 22, 23] [(h_this_rock_rules_facts, ia G 5 g32), (h_this_trial, ob 6 [.ref h_this_trial_off, .int y28, .int y29, .int y30]), (h_this_trial_off, ia G 6 g31)] rfl rfl (by decide +kernel) rfl hl.1 rfl (Nat.le_of_ble_eq_true rfl) (rok (by decide)) dX8_wouldBe_137 (fun H locs h => ?_)
              refine lv_iadd hx hb dX8_wouldBe_140 ?_
              refine lv_topi (fun t34 et34 => ?_)
              replace hf := lt1_inv et34 hf
              refine lv_istore (lv' := [(5, .int t34), (7, .int r19), (0, .ref h_this), (1, .int p0), (2, .int p1), (3, .int p2), (6, .int v6)]) hx hb dX8_wouldBe_141 hl (by decide) rfl (fun ls hl => ?_)
              obtain ⟨t35, et35⟩ : ∃ y : Int32, y = v6 + (1 : Int32) := ⟨_, rfl⟩
              replace hf := lt1_inv et35 hf
              refine lv_iinc (v := t35) (lv' := [(6, .int t35), (5, .int t34), (7, .int r19), (0, .ref h_this), (1, .int p0), (2, .int p1), (3, .int p2)]) hx hb dX8_wouldBe_143 hl (k := 6) rfl (by rw [et35]; rfl) (by decide) rfl (fun ls hl => ?_)
              refine lv_goto (tgt := 58) hx hb dX8_wouldBe_146 rfl ?_
              exact hK2 _ _ _ _ (ih t34 t35 g32 y28 y29 y30 g31 hf) _ _ _ h (lv_sub hl [3, 4, 5, 6, 1, 0] rfl)
            · replace hf := ifn c26 hf
              refine lv_bipush (v := (-4 : Int32)) hx hb dX8_wouldBe_122 rfl ?_
              obtain ⟨rfl, rfl, rfl, rfl, rfl, rfl⟩ := sm6 hf
              exact r_iret C h hr hlk rfl dX8_wouldBe_124
        · replace hf := ifp c18 hf
          refine lv_bipush (v := (-12 : Int32)) hx hb dX8_wouldBe_79 rfl ?_
          obtain ⟨rfl, rfl, rfl, rfl, rfl, rfl⟩ := sm6 hf
          exact r_iret C h hr hlk rfl dX8_wouldBe_81
  refine lv_iload_n hx hb dX8_wouldBe_0 rfl (lv_at hl 1 rfl) ?_
  replace hf := bd1_inv hf
  obtain ⟨r1, hc2, hf⟩ := hf
  refine r_ciS0 C h (c_X0_hasSheet hc2) ms_X8_297 rfl [] rfl rfl hl.1 rfl (Nat.le_of_ble_eq_true rfl) (rok (by decide)) dX8_wouldBe_1 (fun H locs h => ?_)
  refine lv_if_eq (tgt := 17) hx hb dX8_wouldBe_4 rfl (fun c3 => ?_) (fun c3 => ?_)
  · replace hf := ifp c3 hf
    refine lv_iconst (v := (-1 : Int32)) hx hb dX8_wouldBe_17 rfl ?_
    obtain ⟨rfl, rfl, rfl, rfl, rfl, rfl⟩ := sm6 hf
    exact r_iret C h hr hlk rfl dX8_wouldBe_18
  · replace hf := ifn c3 hf
    refine lv_iload_n hx hb dX8_wouldBe_7 rfl (lv_at hl 3 rfl) ?_
    refine lv_iconst (v := (0 : Int32)) hx hb dX8_wouldBe_8 rfl ?_
    refine lv_bipush (v := (20 : Int32)) hx hb dX8_wouldBe_9 rfl ?_
    replace hf := bd1_inv hf
    obtain ⟨r4, hc5, hf⟩ := hf
    refine r_ciS0 C h (c_X8_within hc5) ms_X8_79 rfl [] rfl rfl hl.1 rfl (Nat.le_of_ble_eq_true rfl) (rok (by decide)) dX8_wouldBe_11 (fun H locs h => ?_)
    refine lv_if_ne (tgt := 19) hx hb dX8_wouldBe_14 rfl (fun c6 => ?_) (fun c6 => ?_)
    · replace hf := ifn c6 hf
      refine lv_aload_n hx hb dX8_wouldBe_19 rfl (lv_at hl 0 rfl) ?_
      refine r_get C h fk_X8_50 0 rfl rfl dX8_wouldBe_20 ?_
      refine lv_iload_n hx hb dX8_wouldBe_23 rfl (lv_at hl 1 rfl) ?_
      refine lv_iconst (v := (0 : Int32)) hx hb dX8_wouldBe_24 rfl ?_
      replace hf := bd1_inv hf
      obtain ⟨r7, hc8, hf⟩ := hf
      refine r_ciV0 C h (c_X0_refusalOf hc8) mv_X8_312 rfl 1 rfl [1, 4] rfl rfl hl.1 rfl (Nat.le_of_ble_eq_true rfl) (rok (by decide)) dX8_wouldBe_25 (fun H locs h => ?_)
      refine lv_istore (lv' := [(4, .int r7), (0, .ref h_this), (1, .int p0), (2, .int p1), (3, .int p2)]) hx hb dX8_wouldBe_28 hl (by decide) rfl (fun ls hl => ?_)
      refine lv_iload hx hb dX8_wouldBe_30 (lv_at hl 0 rfl) ?_
      refine lv_if_eq (tgt := 38) hx hb dX8_wouldBe_32 rfl (fun c9 => ?_) (fun c9 => ?_)
      · replace hf := ifp c9 hf
        refine lv_aload_n hx hb dX8_wouldBe_38 rfl (lv_at hl 1 rfl) ?_
        refine r_get C h fk_X8_22 0 rfl rfl dX8_wouldBe_39 ?_
        refine lv_aload_n hx hb dX8_wouldBe_42 rfl (lv_at hl 1 rfl) ?_
        refine r_get C h fk_X8_10 0 rfl rfl dX8_wouldBe_43 ?_
        refine r_get C h fk_X8_94 5 rfl rfl dX8_wouldBe_46 ?_
        replace hf := bd4_inv hf
        obtain ⟨y10, y11, y12, g13, hc14, hf⟩ := hf
        refine r_cvV (ws' := [(h_this, ob 8 [.ref h_this_rock, .ref h_this_kept, .ref h_this_trial, .ref h_this_planner, .ref h_this_reader, .ref h_this_draft, .ref h_this_host, .ref h_this_thing, .ref h_this_tape, .ref h_this_rows, .int x_this_tapeCount, .int x_this_rowCount, .int x_this_isKept]), (h_this_host, ob 0 [.ref h_this_host_sorts, .ref h_this_host_sizes, .ref h_this_host_items, .ref h_this_host_holds, .ref h_this_host_shelfShips, .ref h_this_host_shelfSorts, .ref h_this_host_shelfSizes]), (h_this_host_items, ia G 160 f_this_host_items), (h_this_host_sizes, ia G 4 f_this_host_sizes), (h_this_host_sorts, ia G 4 f_this_host_sorts), (h_this_rock, ob 3 [.ref h_this_rock_kinds, .ref h_this_rock_trims, .ref h_this_rock_lanes, .ref h_this_rock_lights, .ref h_this_rock_currents, .ref h_this_rock_buoys, .ref h_this_rock_now, .ref h_this_rock_rules, .ref h_this_rock_reports, .int x_this_rock_count, .int x_this_rock_end, .int x_this_rock_z]), (h_this_rock_buoys, ia G 6 f_this_rock_buoys), (h_this_rock_currents, ia G 6 f_this_rock_currents), (h_this_rock_kinds, ia G 6 f_this_rock_kinds), (h_this_rock_lanes, ia G 6 f_this_rock_lanes), (h_this_rock_lights, ia G 16 f_this_rock_lights), (h_this_rock_now, ob 6 [.ref h_this_rock_now_off, .int x_this_rock_now_watch, .int x_this_rock_now_score, .int x_this_rock_now_home]), (h_this_rock_now_off, ia G 6 f_this_rock_now_off), (h_this_rock_rules, ob 5 [.ref h_this_rock_rules_kinds, .ref h_this_rock_rules_deeds, .ref h_this_rock_rules_begins, .ref h_this_rock_rules_steps, .ref h_this_rock_rules_lefts, .ref h_this_rock_rules_rights, .ref h_this_rock_rules_facts, .int x_this_rock_rules_count, .int x_this_rock_rules_size]), (h_this_rock_rules_begins, ia G 9 f_this_rock_rules_begins), (h_this_rock_rules_deeds, ia G 8 f_this_rock_rules_deeds), (h_this_rock_rules_facts, ia G 5 f_this_rock_rules_facts), (h_this_rock_rules_kinds, ia G 8 f_this_rock_rules_kinds), (h_this_rock_rules_lefts, ia G 200 f_this_rock_rules_lefts), (h_this_rock_rules_rights, ia G 200 f_this_rock_rules_rights), (h_this_rock_rules_steps, ia G 200 f_this_rock_rules_steps), (h_this_rock_trims, ia G 6 f_this_rock_trims), (h_this_trial, ob 6 [.ref h_this_trial_off, .int y10, .int y11, .int y12]), (h_this_trial_off, ia G 6 g13)]) C h (c_X6_become hc14) mv_X8_189 rfl 22 rfl [11, 12, 22, 23] rfl rfl [22, 23] [(h_this_trial, ob 6 [.ref h_this_trial_off, .int y10, .int y11, .int y12]), (h_this_trial_off, ia G 6 g13)] rfl rfl (by decide +kernel) rfl hl.1 rfl (Nat.le_of_ble_eq_true rfl) (rok (by decide)) dX8_wouldBe_49 (fun H locs h => ?_)
        refine lv_iconst (v := (0 : Int32)) hx hb dX8_wouldBe_52 rfl ?_
        refine lv_istore (lv' := [(5, .int (0 : Int32)), (4, .int r7), (0, .ref h_this), (1, .int p0), (2, .int p1), (3, .int p2)]) hx hb dX8_wouldBe_53 hl (by decide) rfl (fun ls hl => ?_)
        refine lv_iconst (v := (0 : Int32)) hx hb dX8_wouldBe_55 rfl ?_
        refine lv_istore (lv' := [(6, .int (0 : Int32)), (5, .int (0 : Int32)), (4, .int r7), (0, .ref h_this), (1, .int p0), (2, .int p1), (3, .int p2)]) hx hb dX8_wouldBe_56 hl (by decide) rfl (fun ls hl => ?_)
        exact hK2 _ _ _ _ (L58 1000 (0 : Int32) (0 : Int32) f_this_rock_rules_facts y10 y11 y12 g13 hf) _ _ _ h (lv_sub hl [3, 4, 5, 6, 1, 0] rfl)
      · replace hf := ifn c9 hf
        refine lv_iload hx hb dX8_wouldBe_35 (lv_at hl 0 rfl) ?_
        obtain ⟨rfl, rfl, rfl, rfl, rfl, rfl⟩ := sm6 hf
        exact r_iret C h hr hlk rfl dX8_wouldBe_37
    · replace hf := ifp c6 hf
      refine lv_iconst (v := (-1 : Int32)) hx hb dX8_wouldBe_17 rfl ?_
      obtain ⟨rfl, rfl, rfl, rfl, rfl, rfl⟩ := sm6 hf
      exact r_iret C h hr hlk rfl dX8_wouldBe_18
def f_X0_hasShelf (p0 : Int32) : Option (Int32) := (if p0 < 0 then some (0 : Int32) else (if (4 : Int32) ≤ p0 then some (0 : Int32) else some (1 : Int32)))
set_option maxRecDepth 100000 in
set_option maxHeartbeats 4000000 in
theorem c_X0_hasShelf {l : Launch} {G : Gt} {p0 : Int32} {r : Int32} (hf : f_X0_hasShelf p0 = some r) : mFi l G yX0_hasShelf cX0_hasShelf 1 .boolean 0 [.int p0] ([] : va_W) r ([] : va_W) := by
  refine mFi.of (by decide +kernel) (Nat.le_of_ble_eq_true rfl) ?_
  intro p e s m below meth c A C hr hlk h ls hl
  obtain ⟨hx, hb, hml, hown, hts⟩ := id C
  replace hl : lv_has ls 1 [(0, .int p0)] := hl
  unfold f_X0_hasShelf at hf
  refine lv_iload_n hx hb dX0_hasShelf_0 rfl (lv_at hl 0 rfl) ?_
  refine lv_if_lt (tgt := 13) hx hb dX0_hasShelf_1 rfl (fun c1 => ?_) (fun c1 => ?_)
  · replace hf := ifp c1 hf
    refine lv_iconst (v := (0 : Int32)) hx hb dX0_hasShelf_13 rfl ?_
    cases hf
    exact r_iret C h hr hlk rfl dX0_hasShelf_14
  · replace hf := ifn c1 hf
    refine lv_iload_n hx hb dX0_hasShelf_4 rfl (lv_at hl 0 rfl) ?_
    refine lv_iconst (v := (4 : Int32)) hx hb dX0_hasShelf_5 rfl ?_
    refine lv_icmp_ge (tgt := 13) hx hb dX0_hasShelf_6 rfl (fun c2 => ?_) (fun c2 => ?_)
    · replace hf := ifp c2 hf
      refine lv_iconst (v := (0 : Int32)) hx hb dX0_hasShelf_13 rfl ?_
      cases hf
      exact r_iret C h hr hlk rfl dX0_hasShelf_14
    · replace hf := ifn c2 hf
      refine lv_iconst (v := (1 : Int32)) hx hb dX0_hasShelf_9 rfl ?_
      refine lv_goto (tgt := 14) hx hb dX0_hasShelf_10 rfl ?_
      cases hf
      exact r_iret C h hr hlk rfl dX0_hasShelf_14
def f_X0_holdShip (p0 : Int32) (p1 : Int32) (f_this_holds : Nat → Int32) (f_this_shelfShips : Nat → Int32) : Option (Int32 × (Nat → Int32) × (Nat → Int32)) := chkI p0 4 (chkI p0 4 (some ((1 : Int32), upd f_this_holds p0.toNatClampNeg (1 : Int32), upd f_this_shelfShips p0.toNatClampNeg p1)))
set_option maxRecDepth 100000 in
set_option maxHeartbeats 4000000 in
theorem c_X0_holdShip {l : Launch} {G : Gt} {h_this h_this_sorts h_this_sizes h_this_items h_this_holds h_this_shelfShips h_this_shelfSorts h_this_shelfSizes : Nat} {p0 : Int32} {p1 : Int32} {f_this_holds : Nat → Int32} {f_this_shelfShips : Nat → Int32} {r : Int32} {m_this_holds : Nat → Int32} {m_this_shelfShips : Nat → Int32} (hf : f_X0_holdShip p0 p1 f_this_holds f_this_shelfShips = some (r, m_this_holds, m_this_shelfShips)) : mFi l G yX0_holdShip cX0_holdShip 3 .int 0 [.ref h_this, .int p0, .int p1] [(h_this, ob 0 [.ref h_this_sorts, .ref h_this_sizes, .ref h_this_items, .ref h_this_holds, .ref h_this_shelfShips, .ref h_this_shelfSorts, .ref h_this_shelfSizes]), (h_this_holds, ia G 4 f_this_holds), (h_this_shelfShips, ia G 4 f_this_shelfShips)] r [(h_this, ob 0 [.ref h_this_sorts, .ref h_this_sizes, .ref h_this_items, .ref h_this_holds, .ref h_this_shelfShips, .ref h_this_shelfSorts, .ref h_this_shelfSizes]), (h_this_holds, ia G 4 m_this_holds), (h_this_shelfShips, ia G 4 m_this_shelfShips)] := by
  refine mFi.of (by decide +kernel) (Nat.le_of_ble_eq_true rfl) ?_
  intro p e s m below meth c A C hr hlk h ls hl
  obtain ⟨hx, hb, hml, hown, hts⟩ := id C
  replace hl : lv_has ls 3 [(0, .ref h_this), (1, .int p0), (2, .int p1)] := hl
  unfold f_X0_holdShip at hf
  refine lv_aload_n hx hb dX0_holdShip_0 rfl (lv_at hl 0 rfl) ?_
  refine r_get C h fk_X0_21 0 rfl rfl dX0_holdShip_1 ?_
  refine lv_iload_n hx hb dX0_holdShip_4 rfl (lv_at hl 1 rfl) ?_
  refine lv_iconst (v := (1 : Int32)) hx hb dX0_holdShip_5 rfl ?_
  replace hf := chkI_inv hf
  obtain ⟨hi1, hf⟩ := hf
  refine r_iast (ws' := [(h_this, ob 0 [.ref h_this_sorts, .ref h_this_sizes, .ref h_this_items, .ref h_this_holds, .ref h_this_shelfShips, .ref h_this_shelfSorts, .ref h_this_shelfSizes]), (h_this_holds, ia G 4 (upd f_this_holds p0.toNatClampNeg (1 : Int32))), (h_this_shelfShips, ia G 4 f_this_shelfShips)]) C h 1 rfl hi1 dX0_holdShip_6 rfl (fun H locs h => ?_)
  refine lv_aload_n hx hb dX0_holdShip_7 rfl (lv_at hl 0 rfl) ?_
  refine r_get C h fk_X0_24 0 rfl rfl dX0_holdShip_8 ?_
  refine lv_iload_n hx hb dX0_holdShip_11 rfl (lv_at hl 1 rfl) ?_
  refine lv_iload_n hx hb dX0_holdShip_12 rfl (lv_at hl 2 rfl) ?_
  replace hf := chkI_inv hf
  obtain ⟨hi2, hf⟩ := hf
  refine r_iast (ws' := [(h_this, ob 0 [.ref h_this_sorts, .ref h_this_sizes, .ref h_this_items, .ref h_this_holds, .ref h_this_shelfShips, .ref h_this_shelfSorts, .ref h_this_shelfSizes]), (h_this_holds, ia G 4 (upd f_this_holds p0.toNatClampNeg (1 : Int32))), (h_this_shelfShips, ia G 4 (upd f_this_shelfShips p0.toNatClampNeg p1))]) C h 2 rfl hi2 dX0_holdShip_13 rfl (fun H locs h => ?_)
  refine lv_iconst (v := (1 : Int32)) hx hb dX0_holdShip_14 rfl ?_
  cases hf
  exact r_iret C h hr hlk rfl dX0_holdShip_15
def f_X0_holdRow_b18 (p0 : Int32) (p1 : Int32) (f_this_holds : Nat → Int32) (f_this_shelfSizes : Nat → Int32) (f_this_shelfSorts : Nat → Int32) (f_this_sizes : Nat → Int32) (f_this_sorts : Nat → Int32) (s1 : Int32) (s2 : Int32) : Option (Int32 × (Nat → Int32) × (Nat → Int32) × (Nat → Int32)) := chkI s1 4 (chkI p1 4 (lt1 (f_this_sorts p1.toNatClampNeg) (fun (t6 : Int32) => chkI p0 4 (chkI p1 4 (lt1 (f_this_sizes p1.toNatClampNeg) (fun (t9 : Int32) => chkI p0 4 (some ((1 : Int32), upd f_this_holds s1.toNatClampNeg s2, upd f_this_shelfSizes p0.toNatClampNeg t9, upd f_this_shelfSorts p0.toNatClampNeg t6))))))))
def f_X0_holdRow (p0 : Int32) (p1 : Int32) (f_this_holds : Nat → Int32) (f_this_shelfSizes : Nat → Int32) (f_this_shelfSorts : Nat → Int32) (f_this_sizes : Nat → Int32) (f_this_sorts : Nat → Int32) : Option (Int32 × (Nat → Int32) × (Nat → Int32) × (Nat → Int32)) := bd1 (f_X0_isMissing p1 f_this_sorts) (fun r1 => (if r1 = 0 then f_X0_holdRow_b18 p0 p1 f_this_holds f_this_shelfSizes f_this_shelfSorts f_this_sizes f_this_sorts p0 (2 : Int32) else f_X0_holdRow_b18 p0 p1 f_this_holds f_this_shelfSizes f_this_shelfSorts f_this_sizes f_this_sorts p0 (0 : Int32)))
set_option maxRecDepth 100000 in
set_option maxHeartbeats 4000000 in
theorem c_X0_holdRow {l : Launch} {G : Gt} {h_this h_this_sorts h_this_sizes h_this_items h_this_holds h_this_shelfShips h_this_shelfSorts h_this_shelfSizes : Nat} {p0 : Int32} {p1 : Int32} {f_this_holds : Nat → Int32} {f_this_shelfSizes : Nat → Int32} {f_this_shelfSorts : Nat → Int32} {f_this_sizes : Nat → Int32} {f_this_sorts : Nat → Int32} {r : Int32} {m_this_holds : Nat → Int32} {m_this_shelfSizes : Nat → Int32} {m_this_shelfSorts : Nat → Int32} (hf : f_X0_holdRow p0 p1 f_this_holds f_this_shelfSizes f_this_shelfSorts f_this_sizes f_this_sorts = some (r, m_this_holds, m_this_shelfSizes, m_this_shelfSorts)) : mFi l G yX0_holdRow cX0_holdRow 3 .int 1 [.ref h_this, .int p0, .int p1] [(h_this, ob 0 [.ref h_this_sorts, .ref h_this_sizes, .ref h_this_items, .ref h_this_holds, .ref h_this_shelfShips, .ref h_this_shelfSorts, .ref h_this_shelfSizes]), (h_this_holds, ia G 4 f_this_holds), (h_this_shelfSizes, ia G 4 f_this_shelfSizes), (h_this_shelfSorts, ia G 4 f_this_shelfSorts), (h_this_sizes, ia G 4 f_this_sizes), (h_this_sorts, ia G 4 f_this_sorts)] r [(h_this, ob 0 [.ref h_this_sorts, .ref h_this_sizes, .ref h_this_items, .ref h_this_holds, .ref h_this_shelfShips, .ref h_this_shelfSorts, .ref h_this_shelfSizes]), (h_this_holds, ia G 4 m_this_holds), (h_this_shelfSizes, ia G 4 m_this_shelfSizes), (h_this_shelfSorts, ia G 4 m_this_shelfSorts), (h_this_sizes, ia G 4 f_this_sizes), (h_this_sorts, ia G 4 f_this_sorts)] := by
  refine mFi.of (by decide +kernel) (Nat.le_of_ble_eq_true rfl) ?_
  intro p e s m below meth c A C hr hlk h ls hl
  obtain ⟨hx, hb, hml, hown, hts⟩ := id C
  replace hl : lv_has ls 3 [(0, .ref h_this), (1, .int p0), (2, .int p1)] := hl
  unfold f_X0_holdRow at hf
  refine with_K G A 3 (fun K hK1 hK2 => ?_)
  have B18 : ∀ (s1 : Int32) (s2 : Int32), f_X0_holdRow_b18 p0 p1 f_this_holds f_this_shelfSizes f_this_shelfSorts f_this_sizes f_this_sorts s1 s2 = some (r, m_this_holds, m_this_shelfSizes, m_this_shelfSorts) → K 18 [.int s2, .int s1, .ref h_this_holds] [(h_this, ob 0 [.ref h_this_sorts, .ref h_this_sizes, .ref h_this_items, .ref h_this_holds, .ref h_this_shelfShips, .ref h_this_shelfSorts, .ref h_this_shelfSizes]), (h_this_holds, ia G 4 f_this_holds), (h_this_shelfSizes, ia G 4 f_this_shelfSizes), (h_this_shelfSorts, ia G 4 f_this_shelfSorts), (h_this_sizes, ia G 4 f_this_sizes), (h_this_sorts, ia G 4 f_this_sorts)] [(0, .ref h_this), (1, .int p0), (2, .int p1)] := by
    intro s1 s2 hf
    unfold f_X0_holdRow_b18 at hf
    refine hK1 _ _ _ _ (fun H locs ls h hl => ?_)
    replace hf := chkI_inv hf
    obtain ⟨hi4, hf⟩ := hf
    refine r_iast (ws' := [(h_this, ob 0 [.ref h_this_sorts, .ref h_this_sizes, .ref h_this_items, .ref h_this_holds, .ref h_this_shelfShips, .ref h_this_shelfSorts, .ref h_this_shelfSizes]), (h_this_holds, ia G 4 (upd f_this_holds s1.toNatClampNeg s2)), (h_this_shelfSizes, ia G 4 f_this_shelfSizes), (h_this_shelfSorts, ia G 4 f_this_shelfSorts), (h_this_sizes, ia G 4 f_this_sizes), (h_this_sorts, ia G 4 f_this_sorts)]) C h 1 rfl hi4 dX0_holdRow_18 rfl (fun H locs h => ?_)
    refine lv_aload_n hx hb dX0_holdRow_19 rfl (lv_at hl 0 rfl) ?_
    refine r_get C h fk_X0_27 0 rfl rfl dX0_holdRow_20 ?_
    refine lv_iload_n hx hb dX0_holdRow_23 rfl (lv_at hl 1 rfl) ?_
    refine lv_aload_n hx hb dX0_holdRow_24 rfl (lv_at hl 0 rfl) ?_
    refine r_get C h fk_X0_9 0 rfl rfl dX0_holdRow_25 ?_
    refine lv_iload_n hx hb dX0_holdRow_28 rfl (lv_at hl 2 rfl) ?_
    replace hf := chkI_inv hf
    obtain ⟨hi5, hf⟩ := hf
    refine r_iald C h 5 rfl hi5 dX0_holdRow_29 ?_
    refine lv_topi (fun t6 et6 => ?_)
    replace hf := lt1_inv et6 hf
    replace hf := chkI_inv hf
    obtain ⟨hi7, hf⟩ := hf
    refine r_iast (ws' := [(h_this, ob 0 [.ref h_this_sorts, .ref h_this_sizes, .ref h_this_items, .ref h_this_holds, .ref h_this_shelfShips, .ref h_this_shelfSorts, .ref h_this_shelfSizes]), (h_this_holds, ia G 4 (upd f_this_holds s1.toNatClampNeg s2)), (h_this_shelfSizes, ia G 4 f_this_shelfSizes), (h_this_shelfSorts, ia G 4 (upd f_this_shelfSorts p0.toNatClampNeg t6)), (h_this_sizes, ia G 4 f_this_sizes), (h_this_sorts, ia G 4 f_this_sorts)]) C h 3 rfl hi7 dX0_holdRow_30 rfl (fun H locs h => ?_)
    refine lv_aload_n hx hb dX0_holdRow_31 rfl (lv_at hl 0 rfl) ?_
    refine r_get C h fk_X0_30 0 rfl rfl dX0_holdRow_32 ?_
    refine lv_iload_n hx hb dX0_holdRow_35 rfl (lv_at hl 1 rfl) ?_
    refine lv_aload_n hx hb dX0_holdRow_36 rfl (lv_at hl 0 rfl) ?_
    refine r_get C h fk_X0_15 0 rfl rfl dX0_holdRow_37 ?_
    refine lv_iload_n hx hb dX0_holdRow_40 rfl (lv_at hl 2 rfl) ?_
    replace hf := chkI_inv hf
    obtain ⟨hi8, hf⟩ := hf
    refine r_iald C h 4 rfl hi8 dX0_holdRow_41 ?_
    refine lv_topi (fun t9 et9 => ?_)
    replace hf := lt1_inv et9 hf
    replace hf := chkI_inv hf
    obtain ⟨hi10, hf⟩ := hf
    refine r_iast (ws' := [(h_this, ob 0 [.ref h_this_sorts, .ref h_this_sizes, .ref h_this_items, .ref h_this_holds, .ref h_this_shelfShips, .ref h_this_shelfSorts, .ref h_this_shelfSizes]), (h_this_holds, ia G 4 (upd f_this_holds s1.toNatClampNeg s2)), (h_this_shelfSizes, ia G 4 (upd f_this_shelfSizes p0.toNatClampNeg t9)), (h_this_shelfSorts, ia G 4 (upd f_this_shelfSorts p0.toNatClampNeg t6)), (h_this_sizes, ia G 4 f_this_sizes), (h_this_sorts, ia G 4 f_this_sorts)]) C h 2 rfl hi10 dX0_holdRow_42 rfl (fun H locs h => ?_)
    refine lv_iconst (v := (1 : Int32)) hx hb dX0_holdRow_43 rfl ?_
    cases hf
    exact r_iret C h hr hlk rfl dX0_holdRow_44
  refine lv_aload_n hx hb dX0_holdRow_0 rfl (lv_at hl 0 rfl) ?_
  refine r_get C h fk_X0_21 0 rfl rfl dX0_holdRow_1 ?_
  refine lv_iload_n hx hb dX0_holdRow_4 rfl (lv_at hl 1 rfl) ?_
  refine lv_aload_n hx hb dX0_holdRow_5 rfl (lv_at hl 0 rfl) ?_
  refine lv_iload_n hx hb dX0_holdRow_6 rfl (lv_at hl 2 rfl) ?_
  replace hf := bd1_inv hf
  obtain ⟨r1, hc2, hf⟩ := hf
  refine r_ciV0 C h (c_X0_isMissing hc2) mv_X0_39 rfl 0 rfl [0, 5] rfl rfl hl.1 rfl (Nat.le_of_ble_eq_true rfl) (rok (by decide)) dX0_holdRow_7 (fun H locs h => ?_)
  refine lv_if_eq (tgt := 17) hx hb dX0_holdRow_10 rfl (fun c3 => ?_) (fun c3 => ?_)
  · replace hf := ifp c3 hf
    refine lv_iconst (v := (2 : Int32)) hx hb dX0_holdRow_17 rfl ?_
    exact hK2 _ _ _ _ (B18 p0 (2 : Int32) hf) _ _ _ h (lv_sub hl [0, 1, 2] rfl)
  · replace hf := ifn c3 hf
    refine lv_iconst (v := (0 : Int32)) hx hb dX0_holdRow_13 rfl ?_
    refine lv_goto (tgt := 18) hx hb dX0_holdRow_14 rfl ?_
    exact hK2 _ _ _ _ (B18 p0 (0 : Int32) hf) _ _ _ h (lv_sub hl [0, 1, 2] rfl)
def f_X0_holdNothing (p0 : Int32) (f_this_holds : Nat → Int32) : Option (Int32 × (Nat → Int32)) := chkI p0 4 (some ((1 : Int32), upd f_this_holds p0.toNatClampNeg (0 : Int32)))
set_option maxRecDepth 100000 in
set_option maxHeartbeats 4000000 in
theorem c_X0_holdNothing {l : Launch} {G : Gt} {h_this h_this_sorts h_this_sizes h_this_items h_this_holds h_this_shelfShips h_this_shelfSorts h_this_shelfSizes : Nat} {p0 : Int32} {f_this_holds : Nat → Int32} {r : Int32} {m_this_holds : Nat → Int32} (hf : f_X0_holdNothing p0 f_this_holds = some (r, m_this_holds)) : mFi l G yX0_holdNothing cX0_holdNothing 2 .int 0 [.ref h_this, .int p0] [(h_this, ob 0 [.ref h_this_sorts, .ref h_this_sizes, .ref h_this_items, .ref h_this_holds, .ref h_this_shelfShips, .ref h_this_shelfSorts, .ref h_this_shelfSizes]), (h_this_holds, ia G 4 f_this_holds)] r [(h_this, ob 0 [.ref h_this_sorts, .ref h_this_sizes, .ref h_this_items, .ref h_this_holds, .ref h_this_shelfShips, .ref h_this_shelfSorts, .ref h_this_shelfSizes]), (h_this_holds, ia G 4 m_this_holds)] := by
  refine mFi.of (by decide +kernel) (Nat.le_of_ble_eq_true rfl) ?_
  intro p e s m below meth c A C hr hlk h ls hl
  obtain ⟨hx, hb, hml, hown, hts⟩ := id C
  replace hl : lv_has ls 2 [(0, .ref h_this), (1, .int p0)] := hl
  unfold f_X0_holdNothing at hf
  refine lv_aload_n hx hb dX0_holdNothing_0 rfl (lv_at hl 0 rfl) ?_
  refine r_get C h fk_X0_21 0 rfl rfl dX0_holdNothing_1 ?_
  refine lv_iload_n hx hb dX0_holdNothing_4 rfl (lv_at hl 1 rfl) ?_
  refine lv_iconst (v := (0 : Int32)) hx hb dX0_holdNothing_5 rfl ?_
  replace hf := chkI_inv hf
  obtain ⟨hi1, hf⟩ := hf
  refine r_iast (ws' := [(h_this, ob 0 [.ref h_this_sorts, .ref h_this_sizes, .ref h_this_items, .ref h_this_holds, .ref h_this_shelfShips, .ref h_this_shelfSorts, .ref h_this_shelfSizes]), (h_this_holds, ia G 4 (upd f_this_holds p0.toNatClampNeg (0 : Int32)))]) C h 1 rfl hi1 dX0_holdNothing_6 rfl (fun H locs h => ?_)
  refine lv_iconst (v := (1 : Int32)) hx hb dX0_holdNothing_7 rfl ?_
  cases hf
  exact r_iret C h hr hlk rfl dX0_holdNothing_8
def f_X8_shelf (p0 : Int32) (p1 : Int32) (p2 : Int32) (f_this_host_holds : Nat → Int32) (f_this_host_shelfShips : Nat → Int32) (f_this_host_shelfSizes : Nat → Int32) (f_this_host_shelfSorts : Nat → Int32) (f_this_host_sizes : Nat → Int32) (f_this_host_sorts : Nat → Int32) (x_this_rock_count : Int32) : Option (Int32 × (Nat → Int32) × (Nat → Int32) × (Nat → Int32) × (Nat → Int32)) := bd1 (f_X0_hasShelf p0) (fun r1 => (if r1 = 0 then some ((-1 : Int32), f_this_host_holds, f_this_host_shelfShips, f_this_host_shelfSizes, f_this_host_shelfSorts) else (if p1 = (0 : Int32) then bd1 (f_X3_has p2 x_this_rock_count) (fun r7 => (if r7 = 0 then some ((-1 : Int32), f_this_host_holds, f_this_host_shelfShips, f_this_host_shelfSizes, f_this_host_shelfSorts) else bd3 (f_X0_holdShip p0 p2 f_this_host_holds f_this_host_shelfShips) (fun r10 g11 g12 => some (r10, g11, g12, f_this_host_shelfSizes, f_this_host_shelfSorts)))) else (if p1 = (1 : Int32) then bd1 (f_X0_hasSheet p2) (fun r14 => (if r14 = 0 then some ((-1 : Int32), f_this_host_holds, f_this_host_shelfShips, f_this_host_shelfSizes, f_this_host_shelfSorts) else bd4 (f_X0_holdRow p0 p2 f_this_host_holds f_this_host_shelfSizes f_this_host_shelfSorts f_this_host_sizes f_this_host_sorts) (fun r17 g18 g19 g20 => some (r17, g18, f_this_host_shelfShips, g19, g20)))) else (if p1 = (2 : Int32) then bd2 (f_X0_holdNothing p0 f_this_host_holds) (fun r22 g23 => some (r22, g23, f_this_host_shelfShips, f_this_host_shelfSizes, f_this_host_shelfSorts)) else some ((-1 : Int32), f_this_host_holds, f_this_host_shelfShips, f_this_host_shelfSizes, f_this_host_shelfSorts))))))
set_option maxRecDepth 100000 in
set_option maxHeartbeats 4000000 in
theorem c_X8_shelf {l : Launch} {G : Gt} {h_this h_this_rock h_this_kept h_this_trial h_this_planner h_this_reader h_this_draft h_this_host h_this_thing h_this_tape h_this_rows h_this_host_sorts h_this_host_sizes h_this_host_items h_this_host_holds h_this_host_shelfShips h_this_host_shelfSorts h_this_host_shelfSizes h_this_rock_kinds h_this_rock_trims h_this_rock_lanes h_this_rock_lights h_this_rock_currents h_this_rock_buoys h_this_rock_now h_this_rock_rules h_this_rock_reports : Nat} {p0 : Int32} {p1 : Int32} {p2 : Int32} {x_this_tapeCount : Int32} {x_this_rowCount : Int32} {x_this_isKept : Int32} {f_this_host_holds : Nat → Int32} {f_this_host_shelfShips : Nat → Int32} {f_this_host_shelfSizes : Nat → Int32} {f_this_host_shelfSorts : Nat → Int32} {f_this_host_sizes : Nat → Int32} {f_this_host_sorts : Nat → Int32} {x_this_rock_count : Int32} {x_this_rock_end : Int32} {x_this_rock_z : Int32} {r : Int32} {m_this_host_holds : Nat → Int32} {m_this_host_shelfShips : Nat → Int32} {m_this_host_shelfSizes : Nat → Int32} {m_this_host_shelfSorts : Nat → Int32} (hf : f_X8_shelf p0 p1 p2 f_this_host_holds f_this_host_shelfShips f_this_host_shelfSizes f_this_host_shelfSorts f_this_host_sizes f_this_host_sorts x_this_rock_count = some (r, m_this_host_holds, m_this_host_shelfShips, m_this_host_shelfSizes, m_this_host_shelfSorts)) : mFi l G yX8_shelf cX8_shelf 4 .int 2 [.ref h_this, .int p0, .int p1, .int p2] [(h_this, ob 8 [.ref h_this_rock, .ref h_this_kept, .ref h_this_trial, .ref h_this_planner, .ref h_this_reader, .ref h_this_draft, .ref h_this_host, .ref h_this_thing, .ref h_this_tape, .ref h_this_rows, .int x_this_tapeCount, .int x_this_rowCount, .int x_this_isKept]), (h_this_host, ob 0 [.ref h_this_host_sorts, .ref h_this_host_sizes, .ref h_this_host_items, .ref h_this_host_holds, .ref h_this_host_shelfShips, .ref h_this_host_shelfSorts, .ref h_this_host_shelfSizes]), (h_this_host_holds, ia G 4 f_this_host_holds), (h_this_host_shelfShips, ia G 4 f_this_host_shelfShips), (h_this_host_shelfSizes, ia G 4 f_this_host_shelfSizes), (h_this_host_shelfSorts, ia G 4 f_this_host_shelfSorts), (h_this_host_sizes, ia G 4 f_this_host_sizes), (h_this_host_sorts, ia G 4 f_this_host_sorts), (h_this_rock, ob 3 [.ref h_this_rock_kinds, .ref h_this_rock_trims, .ref h_this_rock_lanes, .ref h_this_rock_lights, .ref h_this_rock_currents, .ref h_this_rock_buoys, .ref h_this_rock_now, .ref h_this_rock_rules, .ref h_this_rock_reports, .int x_this_rock_count, .int x_this_rock_end, .int x_this_rock_z])] r [(h_this, ob 8 [.ref h_this_rock, .ref h_this_kept, .ref h_this_trial, .ref h_this_planner, .ref h_this_reader, .ref h_this_draft, .ref h_this_host, .ref h_this_thing, .ref h_this_tape, .ref h_this_rows, .int x_this_tapeCount, .int x_this_rowCount, .int x_this_isKept]), (h_this_host, ob 0 [.ref h_this_host_sorts, .ref h_this_host_sizes, .ref h_this_host_items, .ref h_this_host_holds, .ref h_this_host_shelfShips, .ref h_this_host_shelfSorts, .ref h_this_host_shelfSizes]), (h_this_host_holds, ia G 4 m_this_host_holds), (h_this_host_shelfShips, ia G 4 m_this_host_shelfShips), (h_this_host_shelfSizes, ia G 4 m_this_host_shelfSizes), (h_this_host_shelfSorts, ia G 4 m_this_host_shelfSorts), (h_this_host_sizes, ia G 4 f_this_host_sizes), (h_this_host_sorts, ia G 4 f_this_host_sorts), (h_this_rock, ob 3 [.ref h_this_rock_kinds, .ref h_this_rock_trims, .ref h_this_rock_lanes, .ref h_this_rock_lights, .ref h_this_rock_currents, .ref h_this_rock_buoys, .ref h_this_rock_now, .ref h_this_rock_rules, .ref h_this_rock_reports, .int x_this_rock_count, .int x_this_rock_end, .int x_this_rock_z])] := by
  refine mFi.of (by decide +kernel) (Nat.le_of_ble_eq_true rfl) ?_
  intro p e s m below meth c A C hr hlk h ls hl
  obtain ⟨hx, hb, hml, hown, hts⟩ := id C
  replace hl : lv_has ls 4 [(0, .ref h_this), (1, .int p0), (2, .int p1), (3, .int p2)] := hl
  unfold f_X8_shelf at hf
  refine lv_iload_n hx hb dX8_shelf_0 rfl (lv_at hl 1 rfl) ?_
  replace hf := bd1_inv hf
  obtain ⟨r1, hc2, hf⟩ := hf
  refine r_ciS0 C h (c_X0_hasShelf hc2) ms_X8_318 rfl [] rfl rfl hl.1 rfl (Nat.le_of_ble_eq_true rfl) (rok (by decide)) dX8_shelf_1 (fun H locs h => ?_)
  refine lv_if_ne (tgt := 9) hx hb dX8_shelf_4 rfl (fun c3 => ?_) (fun c3 => ?_)
  · replace hf := ifn c3 hf
    refine lv_iload_n hx hb dX8_shelf_9 rfl (lv_at hl 2 rfl) ?_
    by_cases c4 : p1 = (0 : Int32)
    · replace hf := ifp c4 hf
      refine r_tab (tgt := 36) C dX8_shelf_10 (0 : Int32) c4 (by decide) rfl rfl ?_
      refine lv_aload_n hx hb dX8_shelf_36 rfl (lv_at hl 0 rfl) ?_
      refine r_get C h fk_X8_10 0 rfl rfl dX8_shelf_37 ?_
      refine lv_iload_n hx hb dX8_shelf_40 rfl (lv_at hl 3 rfl) ?_
      replace hf := bd1_inv hf
      obtain ⟨r7, hc8, hf⟩ := hf
      refine r_ciV0 C h (c_X3_has hc8) mv_X8_90 rfl 8 rfl [8] rfl rfl hl.1 rfl (Nat.le_of_ble_eq_true rfl) (rok (by decide)) dX8_shelf_41 (fun H locs h => ?_)
      refine lv_if_eq (tgt := 59) hx hb dX8_shelf_44 rfl (fun c9 => ?_) (fun c9 => ?_)
      · replace hf := ifp c9 hf
        refine lv_iconst (v := (-1 : Int32)) hx hb dX8_shelf_59 rfl ?_
        cases hf
        exact r_iret C h hr hlk rfl dX8_shelf_60
      · replace hf := ifn c9 hf
        refine lv_aload_n hx hb dX8_shelf_47 rfl (lv_at hl 0 rfl) ?_
        refine r_get C h fk_X8_50 0 rfl rfl dX8_shelf_48 ?_
        refine lv_iload_n hx hb dX8_shelf_51 rfl (lv_at hl 1 rfl) ?_
        refine lv_iload_n hx hb dX8_shelf_52 rfl (lv_at hl 3 rfl) ?_
        replace hf := bd3_inv hf
        obtain ⟨r10, g11, g12, hc13, hf⟩ := hf
        refine r_ciV (ws' := [(h_this, ob 8 [.ref h_this_rock, .ref h_this_kept, .ref h_this_trial, .ref h_this_planner, .ref h_this_reader, .ref h_this_draft, .ref h_this_host, .ref h_this_thing, .ref h_this_tape, .ref h_this_rows, .int x_this_tapeCount, .int x_this_rowCount, .int x_this_isKept]), (h_this_host, ob 0 [.ref h_this_host_sorts, .ref h_this_host_sizes, .ref h_this_host_items, .ref h_this_host_holds, .ref h_this_host_shelfShips, .ref h_this_host_shelfSorts, .ref h_this_host_shelfSizes]), (h_this_host_holds, ia G 4 g11), (h_this_host_shelfShips, ia G 4 g12), (h_this_host_shelfSizes, ia G 4 f_this_host_shelfSizes), (h_this_host_shelfSorts, ia G 4 f_this_host_shelfSorts), (h_this_host_sizes, ia G 4 f_this_host_sizes), (h_this_host_sorts, ia G 4 f_this_host_sorts), (h_this_rock, ob 3 [.ref h_this_rock_kinds, .ref h_this_rock_trims, .ref h_this_rock_lanes, .ref h_this_rock_lights, .ref h_this_rock_currents, .ref h_this_rock_buoys, .ref h_this_rock_now, .ref h_this_rock_rules, .ref h_this_rock_reports, .int x_this_rock_count, .int x_this_rock_end, .int x_this_rock_z])]) C h (c_X0_holdShip hc13) mv_X8_321 rfl 1 rfl [1, 2, 3] rfl rfl [2, 3] [(h_this_host_holds, ia G 4 g11), (h_this_host_shelfShips, ia G 4 g12)] rfl rfl (by decide +kernel) rfl hl.1 rfl (Nat.le_of_ble_eq_true rfl) (rok (by decide)) dX8_shelf_53 (fun H locs h => ?_)
        refine lv_goto (tgt := 60) hx hb dX8_shelf_56 rfl ?_
        cases hf
        exact r_iret C h hr hlk rfl dX8_shelf_60
    · replace hf := ifn c4 hf
      by_cases c5 : p1 = (1 : Int32)
      · replace hf := ifp c5 hf
        refine r_tab (tgt := 61) C dX8_shelf_10 (1 : Int32) c5 (by decide) rfl rfl ?_
        refine lv_iload_n hx hb dX8_shelf_61 rfl (lv_at hl 3 rfl) ?_
        replace hf := bd1_inv hf
        obtain ⟨r14, hc15, hf⟩ := hf
        refine r_ciS0 C h (c_X0_hasSheet hc15) ms_X8_297 rfl [] rfl rfl hl.1 rfl (Nat.le_of_ble_eq_true rfl) (rok (by decide)) dX8_shelf_62 (fun H locs h => ?_)
        refine lv_if_eq (tgt := 80) hx hb dX8_shelf_65 rfl (fun c16 => ?_) (fun c16 => ?_)
        · replace hf := ifp c16 hf
          refine lv_iconst (v := (-1 : Int32)) hx hb dX8_shelf_80 rfl ?_
          cases hf
          exact r_iret C h hr hlk rfl dX8_shelf_81
        · replace hf := ifn c16 hf
          refine lv_aload_n hx hb dX8_shelf_68 rfl (lv_at hl 0 rfl) ?_
          refine r_get C h fk_X8_50 0 rfl rfl dX8_shelf_69 ?_
          refine lv_iload_n hx hb dX8_shelf_72 rfl (lv_at hl 1 rfl) ?_
          refine lv_iload_n hx hb dX8_shelf_73 rfl (lv_at hl 3 rfl) ?_
          replace hf := bd4_inv hf
          obtain ⟨r17, g18, g19, g20, hc21, hf⟩ := hf
          refine r_ciV (ws' := [(h_this, ob 8 [.ref h_this_rock, .ref h_this_kept, .ref h_this_trial, .ref h_this_planner, .ref h_this_reader, .ref h_this_draft, .ref h_this_host, .ref h_this_thing, .ref h_this_tape, .ref h_this_rows, .int x_this_tapeCount, .int x_this_rowCount, .int x_this_isKept]), (h_this_host, ob 0 [.ref h_this_host_sorts, .ref h_this_host_sizes, .ref h_this_host_items, .ref h_this_host_holds, .ref h_this_host_shelfShips, .ref h_this_host_shelfSorts, .ref h_this_host_shelfSizes]), (h_this_host_holds, ia G 4 g18), (h_this_host_shelfShips, ia G 4 f_this_host_shelfShips), (h_this_host_shelfSizes, ia G 4 g19), (h_this_host_shelfSorts, ia G 4 g20), (h_this_host_sizes, ia G 4 f_this_host_sizes), (h_this_host_sorts, ia G 4 f_this_host_sorts), (h_this_rock, ob 3 [.ref h_this_rock_kinds, .ref h_this_rock_trims, .ref h_this_rock_lanes, .ref h_this_rock_lights, .ref h_this_rock_currents, .ref h_this_rock_buoys, .ref h_this_rock_now, .ref h_this_rock_rules, .ref h_this_rock_reports, .int x_this_rock_count, .int x_this_rock_end, .int x_this_rock_z])]) C h (c_X0_holdRow hc21) mv_X8_324 rfl 1 rfl [1, 2, 4, 5, 6, 7] rfl rfl [2, 4, 5] [(h_this_host_holds, ia G 4 g18), (h_this_host_shelfSizes, ia G 4 g19), (h_this_host_shelfSorts, ia G 4 g20)] rfl rfl (by decide +kernel) rfl hl.1 rfl (Nat.le_of_ble_eq_true rfl) (rok (by decide)) dX8_shelf_74 (fun H locs h => ?_)
          refine lv_goto (tgt := 81) hx hb dX8_shelf_77 rfl ?_
          cases hf
          exact r_iret C h hr hlk rfl dX8_shelf_81
      · replace hf := ifn c5 hf
        by_cases c6 : p1 = (2 : Int32)
        · replace hf := ifp c6 hf
          refine r_tab (tgt := 82) C dX8_shelf_10 (2 : Int32) c6 (by decide) rfl rfl ?_
          refine lv_aload_n hx hb dX8_shelf_82 rfl (lv_at hl 0 rfl) ?_
          refine r_get C h fk_X8_50 0 rfl rfl dX8_shelf_83 ?_
          refine lv_iload_n hx hb dX8_shelf_86 rfl (lv_at hl 1 rfl) ?_
          replace hf := bd2_inv hf
          obtain ⟨r22, g23, hc24, hf⟩ := hf
          refine r_ciV (ws' := [(h_this, ob 8 [.ref h_this_rock, .ref h_this_kept, .ref h_this_trial, .ref h_this_planner, .ref h_this_reader, .ref h_this_draft, .ref h_this_host, .ref h_this_thing, .ref h_this_tape, .ref h_this_rows, .int x_this_tapeCount, .int x_this_rowCount, .int x_this_isKept]), (h_this_host, ob 0 [.ref h_this_host_sorts, .ref h_this_host_sizes, .ref h_this_host_items, .ref h_this_host_holds, .ref h_this_host_shelfShips, .ref h_this_host_shelfSorts, .ref h_this_host_shelfSizes]), (h_this_host_holds, ia G 4 g23), (h_this_host_shelfShips, ia G 4 f_this_host_shelfShips), (h_this_host_shelfSizes, ia G 4 f_this_host_shelfSizes), (h_this_host_shelfSorts, ia G 4 f_this_host_shelfSorts), (h_this_host_sizes, ia G 4 f_this_host_sizes), (h_this_host_sorts, ia G 4 f_this_host_sorts), (h_this_rock, ob 3 [.ref h_this_rock_kinds, .ref h_this_rock_trims, .ref h_this_rock_lanes, .ref h_this_rock_lights, .ref h_this_rock_currents, .ref h_this_rock_buoys, .ref h_this_rock_now, .ref h_this_rock_rules, .ref h_this_rock_reports, .int x_this_rock_count, .int x_this_rock_end, .int x_this_rock_z])]) C h (c_X0_holdNothing hc24) mv_X8_327 rfl 1 rfl [1, 2] rfl rfl [2] [(h_this_host_holds, ia G 4 g23)] rfl rfl (by decide +kernel) rfl hl.1 rfl (Nat.le_of_ble_eq_true rfl) (rok (by decide)) dX8_shelf_87 (fun H locs h => ?_)
          cases hf
          exact r_iret C h hr hlk rfl dX8_shelf_90
        · replace hf := ifn c6 hf
          refine r_tabD (tgt := 91) C dX8_shelf_10 [(0 : Int32), (1 : Int32), (2 : Int32)] (by decide) (nel_c c4 (nel_c c5 (nel_c c6 nel_0))) rfl ?_
          refine lv_iconst (v := (-1 : Int32)) hx hb dX8_shelf_91 rfl ?_
          cases hf
          exact r_iret C h hr hlk rfl dX8_shelf_92
  · replace hf := ifp c3 hf
    refine lv_iconst (v := (-1 : Int32)) hx hb dX8_shelf_7 rfl ?_
    cases hf
    exact r_iret C h hr hlk rfl dX8_shelf_8
def f_X0_holdsRow (p0 : Int32) (f_this_holds : Nat → Int32) : Option (Int32) := chkI p0 4 ((if (f_this_holds p0.toNatClampNeg) = (2 : Int32) then some (1 : Int32) else some (0 : Int32)))
set_option maxRecDepth 100000 in
set_option maxHeartbeats 4000000 in
theorem c_X0_holdsRow {l : Launch} {G : Gt} {h_this h_this_sorts h_this_sizes h_this_items h_this_holds h_this_shelfShips h_this_shelfSorts h_this_shelfSizes : Nat} {p0 : Int32} {f_this_holds : Nat → Int32} {r : Int32} (hf : f_X0_holdsRow p0 f_this_holds = some r) : mFi l G yX0_holdsRow cX0_holdsRow 2 .boolean 0 [.ref h_this, .int p0] [(h_this, ob 0 [.ref h_this_sorts, .ref h_this_sizes, .ref h_this_items, .ref h_this_holds, .ref h_this_shelfShips, .ref h_this_shelfSorts, .ref h_this_shelfSizes]), (h_this_holds, ia G 4 f_this_holds)] r [(h_this, ob 0 [.ref h_this_sorts, .ref h_this_sizes, .ref h_this_items, .ref h_this_holds, .ref h_this_shelfShips, .ref h_this_shelfSorts, .ref h_this_shelfSizes]), (h_this_holds, ia G 4 f_this_holds)] := by
  refine mFi.of (by decide +kernel) (Nat.le_of_ble_eq_true rfl) ?_
  intro p e s m below meth c A C hr hlk h ls hl
  obtain ⟨hx, hb, hml, hown, hts⟩ := id C
  replace hl : lv_has ls 2 [(0, .ref h_this), (1, .int p0)] := hl
  unfold f_X0_holdsRow at hf
  refine lv_aload_n hx hb dX0_holdsRow_0 rfl (lv_at hl 0 rfl) ?_
  refine r_get C h fk_X0_21 0 rfl rfl dX0_holdsRow_1 ?_
  refine lv_iload_n hx hb dX0_holdsRow_4 rfl (lv_at hl 1 rfl) ?_
  replace hf := chkI_inv hf
  obtain ⟨hi1, hf⟩ := hf
  refine r_iald C h 1 rfl hi1 dX0_holdsRow_5 ?_
  refine lv_iconst (v := (2 : Int32)) hx hb dX0_holdsRow_6 rfl ?_
  refine lv_icmp_ne (tgt := 14) hx hb dX0_holdsRow_7 rfl (fun c2 => ?_) (fun c2 => ?_)
  · replace hf := ifn c2 hf
    refine lv_iconst (v := (0 : Int32)) hx hb dX0_holdsRow_14 rfl ?_
    cases hf
    exact r_iret C h hr hlk rfl dX0_holdsRow_15
  · replace hf := ifp c2 hf
    refine lv_iconst (v := (1 : Int32)) hx hb dX0_holdsRow_10 rfl ?_
    refine lv_goto (tgt := 15) hx hb dX0_holdsRow_11 rfl ?_
    cases hf
    exact r_iret C h hr hlk rfl dX0_holdsRow_15
def f_X0_sortOn (p0 : Int32) (f_this_shelfSorts : Nat → Int32) : Option (Int32) := chkI p0 4 (some (f_this_shelfSorts p0.toNatClampNeg))
set_option maxRecDepth 100000 in
set_option maxHeartbeats 4000000 in
theorem c_X0_sortOn {l : Launch} {G : Gt} {h_this h_this_sorts h_this_sizes h_this_items h_this_holds h_this_shelfShips h_this_shelfSorts h_this_shelfSizes : Nat} {p0 : Int32} {f_this_shelfSorts : Nat → Int32} {r : Int32} (hf : f_X0_sortOn p0 f_this_shelfSorts = some r) : mFi l G yX0_sortOn cX0_sortOn 2 .int 0 [.ref h_this, .int p0] [(h_this, ob 0 [.ref h_this_sorts, .ref h_this_sizes, .ref h_this_items, .ref h_this_holds, .ref h_this_shelfShips, .ref h_this_shelfSorts, .ref h_this_shelfSizes]), (h_this_shelfSorts, ia G 4 f_this_shelfSorts)] r [(h_this, ob 0 [.ref h_this_sorts, .ref h_this_sizes, .ref h_this_items, .ref h_this_holds, .ref h_this_shelfShips, .ref h_this_shelfSorts, .ref h_this_shelfSizes]), (h_this_shelfSorts, ia G 4 f_this_shelfSorts)] := by
  refine mFi.of (by decide +kernel) (Nat.le_of_ble_eq_true rfl) ?_
  intro p e s m below meth c A C hr hlk h ls hl
  obtain ⟨hx, hb, hml, hown, hts⟩ := id C
  replace hl : lv_has ls 2 [(0, .ref h_this), (1, .int p0)] := hl
  unfold f_X0_sortOn at hf
  refine lv_aload_n hx hb dX0_sortOn_0 rfl (lv_at hl 0 rfl) ?_
  refine r_get C h fk_X0_27 0 rfl rfl dX0_sortOn_1 ?_
  refine lv_iload_n hx hb dX0_sortOn_4 rfl (lv_at hl 1 rfl) ?_
  replace hf := chkI_inv hf
  obtain ⟨hi1, hf⟩ := hf
  refine r_iald C h 1 rfl hi1 dX0_sortOn_5 ?_
  cases hf
  exact r_iret C h hr hlk rfl dX0_sortOn_6
def f_X0_sizeOn (p0 : Int32) (f_this_shelfSizes : Nat → Int32) : Option (Int32) := chkI p0 4 (some (f_this_shelfSizes p0.toNatClampNeg))
set_option maxRecDepth 100000 in
set_option maxHeartbeats 4000000 in
theorem c_X0_sizeOn {l : Launch} {G : Gt} {h_this h_this_sorts h_this_sizes h_this_items h_this_holds h_this_shelfShips h_this_shelfSorts h_this_shelfSizes : Nat} {p0 : Int32} {f_this_shelfSizes : Nat → Int32} {r : Int32} (hf : f_X0_sizeOn p0 f_this_shelfSizes = some r) : mFi l G yX0_sizeOn cX0_sizeOn 2 .int 0 [.ref h_this, .int p0] [(h_this, ob 0 [.ref h_this_sorts, .ref h_this_sizes, .ref h_this_items, .ref h_this_holds, .ref h_this_shelfShips, .ref h_this_shelfSorts, .ref h_this_shelfSizes]), (h_this_shelfSizes, ia G 4 f_this_shelfSizes)] r [(h_this, ob 0 [.ref h_this_sorts, .ref h_this_sizes, .ref h_this_items, .ref h_this_holds, .ref h_this_shelfShips, .ref h_this_shelfSorts, .ref h_this_shelfSizes]), (h_this_shelfSizes, ia G 4 f_this_shelfSizes)] := by
  refine mFi.of (by decide +kernel) (Nat.le_of_ble_eq_true rfl) ?_
  intro p e s m below meth c A C hr hlk h ls hl
  obtain ⟨hx, hb, hml, hown, hts⟩ := id C
  replace hl : lv_has ls 2 [(0, .ref h_this), (1, .int p0)] := hl
  unfold f_X0_sizeOn at hf
  refine lv_aload_n hx hb dX0_sizeOn_0 rfl (lv_at hl 0 rfl) ?_
  refine r_get C h fk_X0_30 0 rfl rfl dX0_sizeOn_1 ?_
  refine lv_iload_n hx hb dX0_sizeOn_4 rfl (lv_at hl 1 rfl) ?_
  replace hf := chkI_inv hf
  obtain ⟨hi1, hf⟩ := hf
  refine r_iald C h 1 rfl hi1 dX0_sizeOn_5 ?_
  cases hf
  exact r_iret C h hr hlk rfl dX0_sizeOn_6
def f_X0_shipOn (p0 : Int32) (f_this_holds : Nat → Int32) (f_this_shelfShips : Nat → Int32) : Option (Int32) := chkI p0 4 ((if (f_this_holds p0.toNatClampNeg) = (1 : Int32) then chkI p0 4 (some (f_this_shelfShips p0.toNatClampNeg)) else some (-3 : Int32)))
set_option maxRecDepth 100000 in
set_option maxHeartbeats 4000000 in
theorem c_X0_shipOn {l : Launch} {G : Gt} {h_this h_this_sorts h_this_sizes h_this_items h_this_holds h_this_shelfShips h_this_shelfSorts h_this_shelfSizes : Nat} {p0 : Int32} {f_this_holds : Nat → Int32} {f_this_shelfShips : Nat → Int32} {r : Int32} (hf : f_X0_shipOn p0 f_this_holds f_this_shelfShips = some r) : mFi l G yX0_shipOn cX0_shipOn 2 .int 0 [.ref h_this, .int p0] [(h_this, ob 0 [.ref h_this_sorts, .ref h_this_sizes, .ref h_this_items, .ref h_this_holds, .ref h_this_shelfShips, .ref h_this_shelfSorts, .ref h_this_shelfSizes]), (h_this_holds, ia G 4 f_this_holds), (h_this_shelfShips, ia G 4 f_this_shelfShips)] r [(h_this, ob 0 [.ref h_this_sorts, .ref h_this_sizes, .ref h_this_items, .ref h_this_holds, .ref h_this_shelfShips, .ref h_this_shelfSorts, .ref h_this_shelfSizes]), (h_this_holds, ia G 4 f_this_holds), (h_this_shelfShips, ia G 4 f_this_shelfShips)] := by
  refine mFi.of (by decide +kernel) (Nat.le_of_ble_eq_true rfl) ?_
  intro p e s m below meth c A C hr hlk h ls hl
  obtain ⟨hx, hb, hml, hown, hts⟩ := id C
  replace hl : lv_has ls 2 [(0, .ref h_this), (1, .int p0)] := hl
  unfold f_X0_shipOn at hf
  refine lv_aload_n hx hb dX0_shipOn_0 rfl (lv_at hl 0 rfl) ?_
  refine r_get C h fk_X0_21 0 rfl rfl dX0_shipOn_1 ?_
  refine lv_iload_n hx hb dX0_shipOn_4 rfl (lv_at hl 1 rfl) ?_
  replace hf := chkI_inv hf
  obtain ⟨hi1, hf⟩ := hf
  refine r_iald C h 1 rfl hi1 dX0_shipOn_5 ?_
  refine lv_iconst (v := (1 : Int32)) hx hb dX0_shipOn_6 rfl ?_
  refine lv_icmp_ne (tgt := 19) hx hb dX0_shipOn_7 rfl (fun c2 => ?_) (fun c2 => ?_)
  · replace hf := ifn c2 hf
    refine lv_bipush (v := (-3 : Int32)) hx hb dX0_shipOn_19 rfl ?_
    cases hf
    exact r_iret C h hr hlk rfl dX0_shipOn_21
  · replace hf := ifp c2 hf
    refine lv_aload_n hx hb dX0_shipOn_10 rfl (lv_at hl 0 rfl) ?_
    refine r_get C h fk_X0_24 0 rfl rfl dX0_shipOn_11 ?_
    refine lv_iload_n hx hb dX0_shipOn_14 rfl (lv_at hl 1 rfl) ?_
    replace hf := chkI_inv hf
    obtain ⟨hi3, hf⟩ := hf
    refine r_iald C h 2 rfl hi3 dX0_shipOn_15 ?_
    refine lv_goto (tgt := 21) hx hb dX0_shipOn_16 rfl ?_
    cases hf
    exact r_iret C h hr hlk rfl dX0_shipOn_21
def f_X8_taken_b29 (p0 : Int32) (p1 : Int32) (f_this_host_holds : Nat → Int32) (f_this_host_shelfShips : Nat → Int32) (f_this_host_shelfSizes : Nat → Int32) (f_this_host_shelfSorts : Nat → Int32) (x_this_rock_count : Int32) (f_this_rock_kinds : Nat → Int32) : Option (Int32) := bd1 (f_X0_holdsRow p0 f_this_host_holds) (fun r7 => (if r7 = 0 then bd1 (f_X0_shipOn p0 f_this_host_holds f_this_host_shelfShips) (fun r10 => bd1 (f_X3_has r10 x_this_rock_count) (fun r12 => (if r12 = 0 then some (-11 : Int32) else (if (10 : Int32) ≤ p1 then some (-13 : Int32) else chkI r10 6 (bd1 (f_X8_isOrUnder (f_this_rock_kinds r10.toNatClampNeg) p1) (fun r17 => (if r17 = 0 then some (-13 : Int32) else some r10))))))) else bd1 (f_X0_sortOn p0 f_this_host_shelfSorts) (fun r20 => (if r20 = (p1 - (10 : Int32)) then bd1 (f_X0_sizeOn p0 f_this_host_shelfSizes) (fun r23 => some r23) else some (-13 : Int32)))))
def f_X8_taken (p0 : Int32) (p1 : Int32) (f_this_host_holds : Nat → Int32) (f_this_host_shelfShips : Nat → Int32) (f_this_host_shelfSizes : Nat → Int32) (f_this_host_shelfSorts : Nat → Int32) (x_this_rock_count : Int32) (f_this_rock_kinds : Nat → Int32) : Option (Int32) := bd1 (f_X0_hasShelf p0) (fun r1 => (if r1 = 0 then some (-1 : Int32) else bd1 (f_X8_within p1 (0 : Int32) (5 : Int32)) (fun r4 => (if r4 = 0 then bd1 (f_X8_within p1 (10 : Int32) (14 : Int32)) (fun r25 => (if r25 = 0 then some (-1 : Int32) else f_X8_taken_b29 p0 p1 f_this_host_holds f_this_host_shelfShips f_this_host_shelfSizes f_this_host_shelfSorts x_this_rock_count f_this_rock_kinds)) else f_X8_taken_b29 p0 p1 f_this_host_holds f_this_host_shelfShips f_this_host_shelfSizes f_this_host_shelfSorts x_this_rock_count f_this_rock_kinds))))
set_option maxRecDepth 100000 in
set_option maxHeartbeats 4000000 in
theorem c_X8_taken {l : Launch} {G : Gt} {h_this h_this_rock h_this_kept h_this_trial h_this_planner h_this_reader h_this_draft h_this_host h_this_thing h_this_tape h_this_rows h_this_host_sorts h_this_host_sizes h_this_host_items h_this_host_holds h_this_host_shelfShips h_this_host_shelfSorts h_this_host_shelfSizes h_this_rock_kinds h_this_rock_trims h_this_rock_lanes h_this_rock_lights h_this_rock_currents h_this_rock_buoys h_this_rock_now h_this_rock_rules h_this_rock_reports : Nat} {p0 : Int32} {p1 : Int32} {x_this_tapeCount : Int32} {x_this_rowCount : Int32} {x_this_isKept : Int32} {f_this_host_holds : Nat → Int32} {f_this_host_shelfShips : Nat → Int32} {f_this_host_shelfSizes : Nat → Int32} {f_this_host_shelfSorts : Nat → Int32} {x_this_rock_count : Int32} {x_this_rock_end : Int32} {x_this_rock_z : Int32} {f_this_rock_kinds : Nat → Int32} {r : Int32} (hf : f_X8_taken p0 p1 f_this_host_holds f_this_host_shelfShips f_this_host_shelfSizes f_this_host_shelfSorts x_this_rock_count f_this_rock_kinds = some r) : mFi l G yX8_taken cX8_taken 4 .int 1 [.ref h_this, .int p0, .int p1] [(h_this, ob 8 [.ref h_this_rock, .ref h_this_kept, .ref h_this_trial, .ref h_this_planner, .ref h_this_reader, .ref h_this_draft, .ref h_this_host, .ref h_this_thing, .ref h_this_tape, .ref h_this_rows, .int x_this_tapeCount, .int x_this_rowCount, .int x_this_isKept]), (h_this_host, ob 0 [.ref h_this_host_sorts, .ref h_this_host_sizes, .ref h_this_host_items, .ref h_this_host_holds, .ref h_this_host_shelfShips, .ref h_this_host_shelfSorts, .ref h_this_host_shelfSizes]), (h_this_host_holds, ia G 4 f_this_host_holds), (h_this_host_shelfShips, ia G 4 f_this_host_shelfShips), (h_this_host_shelfSizes, ia G 4 f_this_host_shelfSizes), (h_this_host_shelfSorts, ia G 4 f_this_host_shelfSorts), (h_this_rock, ob 3 [.ref h_this_rock_kinds, .ref h_this_rock_trims, .ref h_this_rock_lanes, .ref h_this_rock_lights, .ref h_this_rock_currents, .ref h_this_rock_buoys, .ref h_this_rock_now, .ref h_this_rock_rules, .ref h_this_rock_reports, .int x_this_rock_count, .int x_this_rock_end, .int x_this_rock_z]), (h_this_rock_kinds, ia G 6 f_this_rock_kinds)] r [(h_this, ob 8 [.ref h_this_rock, .ref h_this_kept, .ref h_this_trial, .ref h_this_planner, .ref h_this_reader, .ref h_this_draft, .ref h_this_host, .ref h_this_thing, .ref h_this_tape, .ref h_this_rows, .int x_this_tapeCount, .int x_this_rowCount, .int x_this_isKept]), (h_this_host, ob 0 [.ref h_this_host_sorts, .ref h_this_host_sizes, .ref h_this_host_items, .ref h_this_host_holds, .ref h_this_host_shelfShips, .ref h_this_host_shelfSorts, .ref h_this_host_shelfSizes]), (h_this_host_holds, ia G 4 f_this_host_holds), (h_this_host_shelfShips, ia G 4 f_this_host_shelfShips), (h_this_host_shelfSizes, ia G 4 f_this_host_shelfSizes), (h_this_host_shelfSorts, ia G 4 f_this_host_shelfSorts), (h_this_rock, ob 3 [.ref h_this_rock_kinds, .ref h_this_rock_trims, .ref h_this_rock_lanes, .ref h_this_rock_lights, .ref h_this_rock_currents, .ref h_this_rock_buoys, .ref h_this_rock_now, .ref h_this_rock_rules, .ref h_this_rock_reports, .int x_this_rock_count, .int x_this_rock_end, .int x_this_rock_z]), (h_this_rock_kinds, ia G 6 f_this_rock_kinds)] := by
  refine mFi.of (by decide +kernel) (Nat.le_of_ble_eq_true rfl) ?_
  intro p e s m below meth c A C hr hlk h ls hl
  obtain ⟨hx, hb, hml, hown, hts⟩ := id C
  replace hl : lv_has ls 4 [(0, .ref h_this), (1, .int p0), (2, .int p1)] := hl
  unfold f_X8_taken at hf
  refine with_K G A 4 (fun K hK1 hK2 => ?_)
  have B29 : f_X8_taken_b29 p0 p1 f_this_host_holds f_this_host_shelfShips f_this_host_shelfSizes f_this_host_shelfSorts x_this_rock_count f_this_rock_kinds = some r → K 29 ([] : List Value) [(h_this, ob 8 [.ref h_this_rock, .ref h_this_kept, .ref h_this_trial, .ref h_this_planner, .ref h_this_reader, .ref h_this_draft, .ref h_this_host, .ref h_this_thing, .ref h_this_tape, .ref h_this_rows, .int x_this_tapeCount, .int x_this_rowCount, .int x_this_isKept]), (h_this_host, ob 0 [.ref h_this_host_sorts, .ref h_this_host_sizes, .ref h_this_host_items, .ref h_this_host_holds, .ref h_this_host_shelfShips, .ref h_this_host_shelfSorts, .ref h_this_host_shelfSizes]), (h_this_host_holds, ia G 4 f_this_host_holds), (h_this_host_shelfShips, ia G 4 f_this_host_shelfShips), (h_this_host_shelfSizes, ia G 4 f_this_host_shelfSizes), (h_this_host_shelfSorts, ia G 4 f_this_host_shelfSorts), (h_this_rock, ob 3 [.ref h_this_rock_kinds, .ref h_this_rock_trims, .ref h_this_rock_lanes, .ref h_this_rock_lights, .ref h_this_rock_currents, .ref h_this_rock_buoys, .ref h_this_rock_now, .ref h_this_rock_rules, .ref h_this_rock_reports, .int x_this_rock_count, .int x_this_rock_end, .int x_this_rock_z]), (h_this_rock_kinds, ia G 6 f_this_rock_kinds)] [(0, .ref h_this), (1, .int p0), (2, .int p1)] := by
    intro hf
    unfold f_X8_taken_b29 at hf
    refine hK1 _ _ _ _ (fun H locs ls h hl => ?_)
    refine lv_aload_n hx hb dX8_taken_29 rfl (lv_at hl 0 rfl) ?_
    refine r_get C h fk_X8_50 0 rfl rfl dX8_taken_30 ?_
    refine lv_iload_n hx hb dX8_taken_33 rfl (lv_at hl 1 rfl) ?_
    replace hf := bd1_inv hf
    obtain ⟨r7, hc8, hf⟩ := hf
    refine r_ciV0 C h (c_X0_holdsRow hc8) mv_X8_330 rfl 1 rfl [1, 2] rfl rfl hl.1 rfl (Nat.le_of_ble_eq_true rfl) (rok (by decide)) dX8_taken_34 (fun H locs h => ?_)
    refine lv_if_eq (tgt := 69) hx hb dX8_taken_37 rfl (fun c9 => ?_) (fun c9 => ?_)
    · replace hf := ifp c9 hf
      refine lv_aload_n hx hb dX8_taken_69 rfl (lv_at hl 0 rfl) ?_
      refine r_get C h fk_X8_50 0 rfl rfl dX8_taken_70 ?_
      refine lv_iload_n hx hb dX8_taken_73 rfl (lv_at hl 1 rfl) ?_
      replace hf := bd1_inv hf
      obtain ⟨r10, hc11, hf⟩ := hf
      refine r_ciV0 C h (c_X0_shipOn hc11) mv_X8_339 rfl 1 rfl [1, 2, 3] rfl rfl hl.1 rfl (Nat.le_of_ble_eq_true rfl) (rok (by decide)) dX8_taken_74 (fun H locs h => ?_)
      refine lv_istore_n (lv' := [(3, .int r10), (0, .ref h_this), (1, .int p0), (2, .int p1)]) hx hb dX8_taken_77 rfl hl (by decide) rfl (fun ls hl => ?_)
      refine lv_aload_n hx hb dX8_taken_78 rfl (lv_at hl 1 rfl) ?_
      refine r_get C h fk_X8_10 0 rfl rfl dX8_taken_79 ?_
      refine lv_iload_n hx hb dX8_taken_82 rfl (lv_at hl 0 rfl) ?_
      replace hf := bd1_inv hf
      obtain ⟨r12, hc13, hf⟩ := hf
      refine r_ciV0 C h (c_X3_has hc13) mv_X8_90 rfl 6 rfl [6] rfl rfl hl.1 rfl (Nat.le_of_ble_eq_true rfl) (rok (by decide)) dX8_taken_83 (fun H locs h => ?_)
      refine lv_if_ne (tgt := 92) hx hb dX8_taken_86 rfl (fun c14 => ?_) (fun c14 => ?_)
      · replace hf := ifn c14 hf
        refine lv_iload_n hx hb dX8_taken_92 rfl (lv_at hl 3 rfl) ?_
        refine lv_bipush (v := (10 : Int32)) hx hb dX8_taken_93 rfl ?_
        refine lv_icmp_ge (tgt := 118) hx hb dX8_taken_95 rfl (fun c15 => ?_) (fun c15 => ?_)
        · replace hf := ifp c15 hf
          refine lv_bipush (v := (-13 : Int32)) hx hb dX8_taken_118 rfl ?_
          cases hf
          exact r_iret C h hr hlk rfl dX8_taken_120
        · replace hf := ifn c15 hf
          refine lv_aload_n hx hb dX8_taken_98 rfl (lv_at hl 1 rfl) ?_
          refine r_get C h fk_X8_10 0 rfl rfl dX8_taken_99 ?_
          refine r_get C h fk_X8_97 6 rfl rfl dX8_taken_102 ?_
          refine lv_iload_n hx hb dX8_taken_105 rfl (lv_at hl 0 rfl) ?_
          replace hf := chkI_inv hf
          obtain ⟨hi16, hf⟩ := hf
          refine r_iald C h 7 rfl hi16 dX8_taken_106 ?_
          refine lv_iload_n hx hb dX8_taken_107 rfl (lv_at hl 3 rfl) ?_
          replace hf := bd1_inv hf
          obtain ⟨r17, hc18, hf⟩ := hf
          refine r_ciS0 C h (c_X8_isOrUnder hc18) ms_X8_342 rfl [] rfl rfl hl.1 rfl (Nat.le_of_ble_eq_true rfl) (rok (by decide)) dX8_taken_108 (fun H locs h => ?_)
          refine lv_if_eq (tgt := 118) hx hb dX8_taken_111 rfl (fun c19 => ?_) (fun c19 => ?_)
          · replace hf := ifp c19 hf
            refine lv_bipush (v := (-13 : Int32)) hx hb dX8_taken_118 rfl ?_
            cases hf
            exact r_iret C h hr hlk rfl dX8_taken_120
          · replace hf := ifn c19 hf
            refine lv_iload_n hx hb dX8_taken_114 rfl (lv_at hl 0 rfl) ?_
            refine lv_goto (tgt := 120) hx hb dX8_taken_115 rfl ?_
            cases hf
            exact r_iret C h hr hlk rfl dX8_taken_120
      · replace hf := ifp c14 hf
        refine lv_bipush (v := (-11 : Int32)) hx hb dX8_taken_89 rfl ?_
        cases hf
        exact r_iret C h hr hlk rfl dX8_taken_91
    · replace hf := ifn c9 hf
      refine lv_aload_n hx hb dX8_taken_40 rfl (lv_at hl 0 rfl) ?_
      refine r_get C h fk_X8_50 0 rfl rfl dX8_taken_41 ?_
      refine lv_iload_n hx hb dX8_taken_44 rfl (lv_at hl 1 rfl) ?_
      replace hf := bd1_inv hf
      obtain ⟨r20, hc21, hf⟩ := hf
      refine r_ciV0 C h (c_X0_sortOn hc21) mv_X8_333 rfl 1 rfl [1, 5] rfl rfl hl.1 rfl (Nat.le_of_ble_eq_true rfl) (rok (by decide)) dX8_taken_45 (fun H locs h => ?_)
      refine lv_iload_n hx hb dX8_taken_48 rfl (lv_at hl 2 rfl) ?_
      refine lv_bipush (v := (10 : Int32)) hx hb dX8_taken_49 rfl ?_
      refine lv_isub hx hb dX8_taken_51 ?_
      refine lv_icmp_ne (tgt := 66) hx hb dX8_taken_52 rfl (fun c22 => ?_) (fun c22 => ?_)
      · replace hf := ifn c22 hf
        refine lv_bipush (v := (-13 : Int32)) hx hb dX8_taken_66 rfl ?_
        cases hf
        exact r_iret C h hr hlk rfl dX8_taken_68
      · replace hf := ifp c22 hf
        refine lv_aload_n hx hb dX8_taken_55 rfl (lv_at hl 0 rfl) ?_
        refine r_get C h fk_X8_50 0 rfl rfl dX8_taken_56 ?_
        refine lv_iload_n hx hb dX8_taken_59 rfl (lv_at hl 1 rfl) ?_
        replace hf := bd1_inv hf
        obtain ⟨r23, hc24, hf⟩ := hf
        refine r_ciV0 C h (c_X0_sizeOn hc24) mv_X8_336 rfl 1 rfl [1, 4] rfl rfl hl.1 rfl (Nat.le_of_ble_eq_true rfl) (rok (by decide)) dX8_taken_60 (fun H locs h => ?_)
        refine lv_goto (tgt := 68) hx hb dX8_taken_63 rfl ?_
        cases hf
        exact r_iret C h hr hlk rfl dX8_taken_68
  refine lv_iload_n hx hb dX8_taken_0 rfl (lv_at hl 1 rfl) ?_
  replace hf := bd1_inv hf
  obtain ⟨r1, hc2, hf⟩ := hf
  refine r_ciS0 C h (c_X0_hasShelf hc2) ms_X8_318 rfl [] rfl rfl hl.1 rfl (Nat.le_of_ble_eq_true rfl) (rok (by decide)) dX8_taken_1 (fun H locs h => ?_)
  refine lv_if_eq (tgt := 27) hx hb dX8_taken_4 rfl (fun c3 => ?_) (fun c3 => ?_)
  · replace hf := ifp c3 hf
    refine lv_iconst (v := (-1 : Int32)) hx hb dX8_taken_27 rfl ?_
    cases hf
    exact r_iret C h hr hlk rfl dX8_taken_28
  · replace hf := ifn c3 hf
    refine lv_iload_n hx hb dX8_taken_7 rfl (lv_at hl 2 rfl) ?_
    refine lv_iconst (v := (0 : Int32)) hx hb dX8_taken_8 rfl ?_
    refine lv_iconst (v := (5 : Int32)) hx hb dX8_taken_9 rfl ?_
    replace hf := bd1_inv hf
    obtain ⟨r4, hc5, hf⟩ := hf
    refine r_ciS0 C h (c_X8_within hc5) ms_X8_79 rfl [] rfl rfl hl.1 rfl (Nat.le_of_ble_eq_true rfl) (rok (by decide)) dX8_taken_10 (fun H locs h => ?_)
    refine lv_if_ne (tgt := 29) hx hb dX8_taken_13 rfl (fun c6 => ?_) (fun c6 => ?_)
    · replace hf := ifn c6 hf
      exact hK2 _ _ _ _ (B29 hf) _ _ _ h (lv_sub hl [0, 1, 2] rfl)
    · replace hf := ifp c6 hf
      refine lv_iload_n hx hb dX8_taken_16 rfl (lv_at hl 2 rfl) ?_
      refine lv_bipush (v := (10 : Int32)) hx hb dX8_taken_17 rfl ?_
      refine lv_bipush (v := (14 : Int32)) hx hb dX8_taken_19 rfl ?_
      replace hf := bd1_inv hf
      obtain ⟨r25, hc26, hf⟩ := hf
      refine r_ciS0 C h (c_X8_within hc26) ms_X8_79 rfl [] rfl rfl hl.1 rfl (Nat.le_of_ble_eq_true rfl) (rok (by decide)) dX8_taken_21 (fun H locs h => ?_)
      refine lv_if_ne (tgt := 29) hx hb dX8_taken_24 rfl (fun c27 => ?_) (fun c27 => ?_)
      · replace hf := ifn c27 hf
        exact hK2 _ _ _ _ (B29 hf) _ _ _ h (lv_sub hl [0, 1, 2] rfl)
      · replace hf := ifp c27 hf
        refine lv_iconst (v := (-1 : Int32)) hx hb dX8_taken_27 rfl ?_
        cases hf
        exact r_iret C h hr hlk rfl dX8_taken_28
