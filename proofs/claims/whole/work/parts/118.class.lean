set_option maxRecDepth 100000 in
set_option maxHeartbeats 4000000 in
theorem c_X0_hasShelf {l : Launch} {G : Gt} {p0 : Int32} {r : Int32} (hf : f_X0_hasShelf p0 = some r) : mFi l G yX0_hasShelf cX0_hasShelf 1 .boolean 0 [.int p0] ([] : va_W) r ([] : va_W) := by
  refine mFi.of (by decide +kernel) (Nat.le_of_ble_eq_true rfl) ?_
  intro p e s m below meth c A C hr hlk h ls hl
  obtain ⟨hx, hb, hml, hown, hts⟩ := id C
  replace hl : lv_has ls 1 [(0, .int p0)] := hl
  unfold f_X0_hasShelf at hf
  refine lv_iload_n hx hb dX0_hasShelf_0 rfl (lv_at hl 0 rfl) ?_
  refine lv_if_lt (tgt := 13) hx hb dX0_hasShelf_1 rfl (fun c1 => ?_) (fun c1 => ?_)
  · replace hf := ifp c1 hf
    refine lv_iconst (v := (0 : Int32)) hx hb dX0_hasShelf_13 rfl ?_
    cases hf
    exact r_iret C h hr hlk rfl dX0_hasShelf_14
  · replace hf := ifn c1 hf
    refine lv_iload_n hx hb dX0_hasShelf_4 rfl (lv_at hl 0 rfl) ?_
    refine lv_iconst (v := (4 : Int32)) hx hb dX0_hasShelf_5 rfl ?_
    refine lv_icmp_ge (tgt := 13) hx hb dX0_hasShelf_6 rfl (fun c2 => ?_) (fun c2 => ?_)
    · replace hf := ifp c2 hf
      refine lv_iconst (v := (0 : Int32)) hx hb dX0_hasShelf_13 rfl ?_
      cases hf
      exact r_iret C h hr hlk rfl dX0_hasShelf_14
    · replace hf := ifn c2 hf
      refine lv_iconst (v := (1 : Int32)) hx hb dX0_hasShelf_9 rfl ?_
      refine lv_goto (tgt := 14) hx hb dX0_hasShelf_10 rfl ?_
      cases hf
      exact r_iret C h hr hlk rfl dX0_hasShelf_14
set_option maxRecDepth 100000 in
set_option maxHeartbeats 4000000 in
theorem c_X0_holdShip {l : Launch} {G : Gt} {h_this h_this_sorts h_this_sizes h_this_items h_this_holds h_this_shelfShips h_this_shelfSorts h_this_shelfSizes : Nat} {p0 : Int32} {p1 : Int32} {f_this_holds : Nat → Int32} {f_this_shelfShips : Nat → Int32} {r : Int32} {m_this_holds : Nat → Int32} {m_this_shelfShips : Nat → Int32} (hf : f_X0_holdShip p0 p1 f_this_holds f_this_shelfShips = some (r, m_this_holds, m_this_shelfShips)) : mFi l G yX0_holdShip cX0_holdShip 3 .int 0 [.ref h_this, .int p0, .int p1] [(h_this, ob 0 [.ref h_this_sorts, .ref h_this_sizes, .ref h_this_items, .ref h_this_holds, .ref h_this_shelfShips, .ref h_this_shelfSorts, .ref h_this_shelfSizes]), (h_this_holds, ia G 4 f_this_holds), (h_this_shelfShips, ia G 4 f_this_shelfShips)] r [(h_this, ob 0 [.ref h_this_sorts, .ref h_this_sizes, .ref h_this_items, .ref h_this_holds, .ref h_this_shelfShips, .ref h_this_shelfSorts, .ref h_this_shelfSizes]), (h_this_holds, ia G 4 m_this_holds), (h_this_shelfShips, ia G 4 m_this_shelfShips)] := by
  refine mFi.of (by decide +kernel) (Nat.le_of_ble_eq_true rfl) ?_
  intro p e s m below meth c A C hr hlk h ls hl
  obtain ⟨hx, hb, hml, hown, hts⟩ := id C
  replace hl : lv_has ls 3 [(0, .ref h_this), (1, .int p0), (2, .int p1)] := hl
  unfold f_X0_holdShip at hf
  refine lv_aload_n hx hb dX0_holdShip_0 rfl (lv_at hl 0 rfl) ?_
  refine r_get C h fk_X0_21 0 rfl rfl dX0_holdShip_1 ?_
  refine lv_iload_n hx hb dX0_holdShip_4 rfl (lv_at hl 1 rfl) ?_
  refine lv_iconst (v := (1 : Int32)) hx hb dX0_holdShip_5 rfl ?_
  replace hf := chkI_inv hf
  obtain ⟨hi1, hf⟩ := hf
  refine r_iast (ws' := [(h_this, ob 0 [.ref h_this_sorts, .ref h_this_sizes, .ref h_this_items, .ref h_this_holds, .ref h_this_shelfShips, .ref h_this_shelfSorts, .ref h_this_shelfSizes]), (h_this_holds, ia G 4 (upd f_this_holds p0.toNatClampNeg (1 : Int32))), (h_this_shelfShips, ia G 4 f_this_shelfShips)]) C h 1 rfl hi1 dX0_holdShip_6 rfl (fun H locs h => ?_)
  refine lv_aload_n hx hb dX0_holdShip_7 rfl (lv_at hl 0 rfl) ?_
  refine r_get C h fk_X0_24 0 rfl rfl dX0_holdShip_8 ?_
  refine lv_iload_n hx hb dX0_holdShip_11 rfl (lv_at hl 1 rfl) ?_
  refine lv_iload_n hx hb dX0_holdShip_12 rfl (lv_at hl 2 rfl) ?_
  replace hf := chkI_inv hf
  obtain ⟨hi2, hf⟩ := hf
  refine r_iast (ws' := [(h_this, ob 0 [.ref h_this_sorts, .ref h_this_sizes, .ref h_this_items, .ref h_this_holds, .ref h_this_shelfShips, .ref h_this_shelfSorts, .ref h_this_shelfSizes]), (h_this_holds, ia G 4 (upd f_this_holds p0.toNatClampNeg (1 : Int32))), (h_this_shelfShips, ia G 4 (upd f_this_shelfShips p0.toNatClampNeg p1))]) C h 2 rfl hi2 dX0_holdShip_13 rfl (fun H locs h => ?_)
  refine lv_iconst (v := (1 : Int32)) hx hb dX0_holdShip_14 rfl ?_
  cases hf
  exact r_iret C h hr hlk rfl dX0_holdShip_15
set_option maxRecDepth 100000 in
set_option maxHeartbeats 4000000 in
theorem c_X0_holdRow {l : Launch} {G : Gt} {h_this h_this_sorts h_this_sizes h_this_items h_this_holds h_this_shelfShips h_this_shelfSorts h_this_shelfSizes : Nat} {p0 : Int32} {p1 : Int32} {f_this_holds : Nat → Int32} {f_this_shelfSizes : Nat → Int32} {f_this_shelfSorts : Nat → Int32} {f_this_sizes : Nat → Int32} {f_this_sorts : Nat → Int32} {r : Int32} {m_this_holds : Nat → Int32} {m_this_shelfSizes : Nat → Int32} {m_this_shelfSorts : Nat → Int32} (hf : f_X0_holdRow p0 p1 f_this_holds f_this_shelfSizes f_this_shelfSorts f_this_sizes f_this_sorts = some (r, m_this_holds, m_this_shelfSizes, m_this_shelfSorts)) : mFi l G yX0_holdRow cX0_holdRow 3 .int 1 [.ref h_this, .int p0, .int p1] [(h_this, ob 0 [.ref h_this_sorts, .ref h_this_sizes, .ref h_this_items, .ref h_this_holds, .ref h_this_shelfShips, .ref h_this_shelfSorts, .ref h_this_shelfSizes]), (h_this_holds, ia G 4 f_this_holds), (h_this_shelfSizes, ia G 4 f_this_shelfSizes), (h_this_shelfSorts, ia G 4 f_this_shelfSorts), (h_this_sizes, ia G 4 f_this_sizes), (h_this_sorts, ia G 4 f_this_sorts)] r [(h_this, ob 0 [.ref h_this_sorts, .ref h_this_sizes, .ref h_this_items, .ref h_this_holds, .ref h_this_shelfShips, .ref h_this_shelfSorts, .ref h_this_shelfSizes]), (h_this_holds, ia G 4 m_this_holds), (h_this_shelfSizes, ia G 4 m_this_shelfSizes), (h_this_shelfSorts, ia G 4 m_this_shelfSorts), (h_this_sizes, ia G 4 f_this_sizes), (h_this_sorts, ia G 4 f_this_sorts)] := by
  refine mFi.of (by decide +kernel) (Nat.le_of_ble_eq_true rfl) ?_
  intro p e s m below meth c A C hr hlk h ls hl
  obtain ⟨hx, hb, hml, hown, hts⟩ := id C
  replace hl : lv_has ls 3 [(0, .ref h_this), (1, .int p0), (2, .int p1)] := hl
  unfold f_X0_holdRow at hf
  refine with_K G A 3 (fun K hK1 hK2 => ?_)
  have B18 : ∀ (s1 : Int32) (s2 : Int32), f_X0_holdRow_b18 p0 p1 f_this_holds f_this_shelfSizes f_this_shelfSorts f_this_sizes f_this_sorts s1 s2 = some (r, m_this_holds, m_this_shelfSizes, m_this_shelfSorts) → K 18 [.int s2, .int s1, .ref h_this_holds] [(h_this, ob 0 [.ref h_this_sorts, .ref h_this_sizes, .ref h_this_items, .ref h_this_holds, .ref h_this_shelfShips, .ref h_this_shelfSorts, .ref h_this_shelfSizes]), (h_this_holds, ia G 4 f_this_holds), (h_this_shelfSizes, ia G 4 f_this_shelfSizes), (h_this_shelfSorts, ia G 4 f_this_shelfSorts), (h_this_sizes, ia G 4 f_this_sizes), (h_this_sorts, ia G 4 f_this_sorts)] [(0, .ref h_this), (1, .int p0), (2, .int p1)] := by
    intro s1 s2 hf
    unfold f_X0_holdRow_b18 at hf
    refine hK1 _ _ _ _ (fun H locs ls h hl => ?_)
    replace hf := chkI_inv hf
    obtain ⟨hi4, hf⟩ := hf
    refine r_iast (ws' := [(h_this, ob 0 [.ref h_this_sorts, .ref h_this_sizes, .ref h_this_items, .ref h_this_holds, .ref h_this_shelfShips, .ref h_this_shelfSorts, .ref h_this_shelfSizes]), (h_this_holds, ia G 4 (upd f_this_holds s1.toNatClampNeg s2)), (h_this_shelfSizes, ia G 4 f_this_shelfSizes), (h_this_shelfSorts, ia G 4 f_this_shelfSorts), (h_this_sizes, ia G 4 f_this_sizes), (h_this_sorts, ia G 4 f_this_sorts)]) C h 1 rfl hi4 dX0_holdRow_18 rfl (fun H locs h => ?_)
    refine lv_aload_n hx hb dX0_holdRow_19 rfl (lv_at hl 0 rfl) ?_
    refine r_get C h fk_X0_27 0 rfl rfl dX0_holdRow_20 ?_
    refine lv_iload_n hx hb dX0_holdRow_23 rfl (lv_at hl 1 rfl) ?_
    refine lv_aload_n hx hb dX0_holdRow_24 rfl (lv_at hl 0 rfl) ?_
    refine r_get C h fk_X0_9 0 rfl rfl dX0_holdRow_25 ?_
    refine lv_iload_n hx hb dX0_holdRow_28 rfl (lv_at hl 2 rfl) ?_
    replace hf := chkI_inv hf
    obtain ⟨hi5, hf⟩ := hf
    refine r_iald C h 5 rfl hi5 dX0_holdRow_29 ?_
    refine lv_topi (fun t6 et6 => ?_)
    replace hf := lt1_inv et6 hf
    replace hf := chkI_inv hf
    obtain ⟨hi7, hf⟩ := hf
    refine r_iast (ws' := [(h_this, ob 0 [.ref h_this_sorts, .ref h_this_sizes, .ref h_this_items, .ref h_this_holds, .ref h_this_shelfShips, .ref h_this_shelfSorts, .ref h_this_shelfSizes]), (h_this_holds, ia G 4 (upd f_this_holds s1.toNatClampNeg s2)), (h_this_shelfSizes, ia G 4 f_this_shelfSizes), (h_this_shelfSorts, ia G 4 (upd f_this_shelfSorts p0.toNatClampNeg t6)), (h_this_sizes, ia G 4 f_this_sizes), (h_this_sorts, ia G 4 f_this_sorts)]) C h 3 rfl hi7 dX0_holdRow_30 rfl (fun H locs h => ?_)
    refine lv_aload_n hx hb dX0_holdRow_31 rfl (lv_at hl 0 rfl) ?_
    refine r_get C h fk_X0_30 0 rfl rfl dX0_holdRow_32 ?_
    refine lv_iload_n hx hb dX0_holdRow_35 rfl (lv_at hl 1 rfl) ?_
    refine lv_aload_n hx hb dX0_holdRow_36 rfl (lv_at hl 0 rfl) ?_
    refine r_get C h fk_X0_15 0 rfl rfl dX0_holdRow_37 ?_
    refine lv_iload_n hx hb dX0_holdRow_40 rfl (lv_at hl 2 rfl) ?_
    replace hf := chkI_inv hf
    obtain ⟨hi8, hf⟩ := hf
    refine r_iald C h 4 rfl hi8 dX0_holdRow_41 ?_
    refine lv_topi (fun t9 et9 => ?_)
    replace hf := lt1_inv et9 hf
    replace hf := chkI_inv hf
    obtain ⟨hi10, hf⟩ := hf
    refine r_iast (ws' := [(h_this, ob 0 [.ref h_this_sorts, .ref h_this_sizes, .ref h_this_items, .ref h_this_holds, .ref h_this_shelfShips, .ref h_this_shelfSorts, .ref h_this_shelfSizes]), (h_this_holds, ia G 4 (upd f_this_holds s1.toNatClampNeg s2)), (h_this_shelfSizes, ia G 4 (upd f_this_shelfSizes p0.toNatClampNeg t9)), (h_this_shelfSorts, ia G 4 (upd f_this_shelfSorts p0.toNatClampNeg t6)), (h_this_sizes, ia G 4 f_this_sizes), (h_this_sorts, ia G 4 f_this_sorts)]) C h 2 rfl hi10 dX0_holdRow_42 rfl (fun H locs h => ?_)
    refine lv_iconst (v := (1 : Int32)) hx hb dX0_holdRow_43 rfl ?_
    cases hf
    exact r_iret C h hr hlk rfl dX0_holdRow_44
  refine lv_aload_n hx hb dX0_holdRow_0 rfl (lv_at hl 0 rfl) ?_
  refine r_get C h fk_X0_21 0 rfl rfl dX0_holdRow_1 ?_
  refine lv_iload_n hx hb dX0_holdRow_4 rfl (lv_at hl 1 rfl) ?_
  refine lv_aload_n hx hb dX0_holdRow_5 rfl (lv_at hl 0 rfl) ?_
  refine lv_iload_n hx hb dX0_holdRow_6 rfl (lv_at hl 2 rfl) ?_
  replace hf := bd1_inv hf
  obtain ⟨r1, hc2, hf⟩ := hf
  refine r_ciV0 C h (c_X0_isMissing hc2) mv_X0_39 rfl 0 rfl [0, 5] rfl rfl hl.1 rfl (Nat.le_of_ble_eq_true rfl) (rok (by decide)) dX0_holdRow_7 (fun H locs h => ?_)
  refine lv_if_eq (tgt := 17) hx hb dX0_holdRow_10 rfl (fun c3 => ?_) (fun c3 => ?_)
  · replace hf := ifp c3 hf
    refine lv_iconst (v := (2 : Int32)) hx hb dX0_holdRow_17 rfl ?_
    exact hK2 _ _ _ _ (B18 p0 (2 : Int32) hf) _ _ _ h (lv_sub hl [0, 1, 2] rfl)
  · replace hf := ifn c3 hf
    refine lv_iconst (v := (0 : Int32)) hx hb dX0_holdRow_13 rfl ?_
    refine lv_goto (tgt := 18) hx hb dX0_holdRow_14 rfl ?_
    exact hK2 _ _ _ _ (B18 p0 (0 : Int32) hf) _ _ _ h (lv_sub hl [0, 1, 2] rfl)
set_option maxRecDepth 100000 in
set_option maxHeartbeats 4000000 in
theorem c_X0_holdNothing {l : Launch} {G : Gt} {h_this h_this_sorts h_this_sizes h_this_items h_this_holds h_this_shelfShips h_this_shelfSorts h_this_shelfSizes : Nat} {p0 : Int32} {f_this_holds : Nat → Int32} {r : Int32} {m_this_holds : Nat → Int32} (hf : f_X0_holdNothing p0 f_this_holds = some (r, m_this_holds)) : mFi l G yX0_holdNothing cX0_holdNothing 2 .int 0 [.ref h_this, .int p0] [(h_this, ob 0 [.ref h_this_sorts, .ref h_this_sizes, .ref h_this_items, .ref h_this_holds, .ref h_this_shelfShips, .ref h_this_shelfSorts, .ref h_this_shelfSizes]), (h_this_holds, ia G 4 f_this_holds)] r [(h_this, ob 0 [.ref h_this_sorts, .ref h_this_sizes, .ref h_this_items, .ref h_this_holds, .ref h_this_shelfShips, .ref h_this_shelfSorts, .ref h_this_shelfSizes]), (h_this_holds, ia G 4 m_this_holds)] := by
  refine mFi.of (by decide +kernel) (Nat.le_of_ble_eq_true rfl) ?_
  intro p e s m below meth c A C hr hlk h ls hl
  obtain ⟨hx, hb, hml, hown, hts⟩ := id C
  replace hl : lv_has ls 2 [(0, .ref h_this), (1, .int p0)] := hl
  unfold f_X0_holdNothing at hf
  refine lv_aload_n hx hb dX0_holdNothing_0 rfl (lv_at hl 0 rfl) ?_
  refine r_get C h fk_X0_21 0 rfl rfl dX0_holdNothing_1 ?_
  refine lv_iload_n hx hb dX0_holdNothing_4 rfl (lv_at hl 1 rfl) ?_
  refine lv_iconst (v := (0 : Int32)) hx hb dX0_holdNothing_5 rfl ?_
  replace hf := chkI_inv hf
  obtain ⟨hi1, hf⟩ := hf
  refine r_iast (ws' := [(h_this, ob 0 [.ref h_this_sorts, .ref h_this_sizes, .ref h_this_items, .ref h_this_holds, .ref h_this_shelfShips, .ref h_this_shelfSorts, .ref h_this_shelfSizes]), (h_this_holds, ia G 4 (upd f_this_holds p0.toNatClampNeg (0 : Int32)))]) C h 1 rfl hi1 dX0_holdNothing_6 rfl (fun H locs h => ?_)
  refine lv_iconst (v := (1 : Int32)) hx hb dX0_holdNothing_7 rfl ?_
  cases hf
  exact r_iret C h hr hlk rfl dX0_holdNothing_8
set_option maxRecDepth 100000 in
set_option maxHeartbeats 4000000 in
theorem c_X8_shelf {l : Launch} {G : Gt} {h_this h_this_rock h_this_kept h_this_trial h_this_planner h_this_reader h_this_draft h_this_host h_this_thing h_this_tape h_this_rows h_this_host_sorts h_this_host_sizes h_this_host_items h_this_host_holds h_this_host_shelfShips h_this_host_shelfSorts h_this_host_shelfSizes h_this_rock_kinds h_this_rock_trims h_this_rock_lanes h_this_rock_lights h_this_rock_currents h_this_rock_buoys h_this_rock_now h_this_rock_rules h_this_rock_reports : Nat} {p0 : Int32} {p1 : Int32} {p2 : Int32} {x_this_tapeCount : Int32} {x_this_rowCount : Int32} {x_this_isKept : Int32} {f_this_host_holds : Nat → Int32} {f_this_host_shelfShips : Nat → Int32} {f_this_host_shelfSizes : Nat → Int32} {f_this_host_shelfSorts : Nat → Int32} {f_this_host_sizes : Nat → Int32} {f_this_host_sorts : Nat → Int32} {x_this_rock_count : Int32} {x_this_rock_end : Int32} {x_this_rock_z : Int32} {r : Int32} {m_this_host_holds : Nat → Int32} {m_this_host_shelfShips : Nat → Int32} {m_this_host_shelfSizes : Nat → Int32} {m_this_host_shelfSorts : Nat → Int32} (hf : f_X8_shelf p0 p1 p2 f_this_host_holds f_this_host_shelfShips f_this_host_shelfSizes f_this_host_shelfSorts f_this_host_sizes f_this_host_sorts x_this_rock_count = some (r, m_this_host_holds, m_this_host_shelfShips, m_this_host_shelfSizes, m_this_host_shelfSorts)) : mFi l G yX8_shelf cX8_shelf 4 .int 2 [.ref h_this, .int p0, .int p1, .int p2] [(h_this, ob 8 [.ref h_this_rock, .ref h_this_kept, .ref h_this_trial, .ref h_this_planner, .ref h_this_reader, .ref h_this_draft, .ref h_this_host, .ref h_this_thing, .ref h_this_tape, .ref h_this_rows, .int x_this_tapeCount, .int x_this_rowCount, .int x_this_isKept]), (h_this_host, ob 0 [.ref h_this_host_sorts, .ref h_this_host_sizes, .ref h_this_host_items, .ref h_this_host_holds, .ref h_this_host_shelfShips, .ref h_this_host_shelfSorts, .ref h_this_host_shelfSizes]), (h_this_host_holds, ia G 4 f_this_host_holds), (h_this_host_shelfShips, ia G 4 f_this_host_shelfShips), (h_this_host_shelfSizes, ia G 4 f_this_host_shelfSizes), (h_this_host_shelfSorts, ia G 4 f_this_host_shelfSorts), (h_this_host_sizes, ia G 4 f_this_host_sizes), (h_this_host_sorts, ia G 4 f_this_host_sorts), (h_this_rock, ob 3 [.ref h_this_rock_kinds, .ref h_this_rock_trims, .ref h_this_rock_lanes, .ref h_this_rock_lights, .ref h_this_rock_currents, .ref h_this_rock_buoys, .ref h_this_rock_now, .ref h_this_rock_rules, .ref h_this_rock_reports, .int x_this_rock_count, .int x_this_rock_end, .int x_this_rock_z])] r [(h_this, ob 8 [.ref h_this_rock, .ref h_this_kept, .ref h_this_trial, .ref h_this_planner, .ref h_this_reader, .ref h_this_draft, .ref h_this_host, .ref h_this_thing, .ref h_this_tape, .ref h_this_rows, .int x_this_tapeCount, .int x_this_rowCount, .int x_this_isKept]), (h_this_host, ob 0 [.ref h_this_host_sorts, .ref h_this_host_sizes, .ref h_this_host_items, .ref h_this_host_holds, .ref h_this_host_shelfShips, .ref h_this_host_shelfSorts, .ref h_this_host_shelfSizes]), (h_this_host_holds, ia G 4 m_this_host_holds), (h_this_host_shelfShips, ia G 4 m_this_host_shelfShips), (h_this_host_shelfSizes, ia G 4 m_this_host_shelfSizes), (h_this_host_shelfSorts, ia G 4 m_this_host_shelfSorts), (h_this_host_sizes, ia G 4 f_this_host_sizes), (h_this_host_sorts, ia G 4 f_this_host_sorts), (h_this_rock, ob 3 [.ref h_this_rock_kinds, .ref h_this_rock_trims, .ref h_this_rock_lanes, .ref h_this_rock_lights, .ref h_this_rock_currents, .ref h_this_rock_buoys, .ref h_this_rock_now, .ref h_this_rock_rules, .ref h_this_rock_reports, .int x_this_rock_count, .int x_this_rock_end, .int x_this_rock_z])] := by
  refine mFi.of (by decide +kernel) (Nat.le_of_ble_eq_true rfl) ?_
  intro p e s m below meth c A C hr hlk h ls hl
  obtain ⟨hx, hb, hml, hown, hts⟩ := id C
  replace hl : lv_has ls 4 [(0, .ref h_this), (1, .int p0), (2, .int p1), (3, .int p2)] := hl
  unfold f_X8_shelf at hf
  refine lv_iload_n hx hb dX8_shelf_0 rfl (lv_at hl 1 rfl) ?_
  replace hf := bd1_inv hf
  obtain ⟨r1, hc2, hf⟩ := hf
  refine r_ciS0 C h (c_X0_hasShelf hc2) ms_X8_318 rfl [] rfl rfl hl.1 rfl (Nat.le_of_ble_eq_true rfl) (rok (by decide)) dX8_shelf_1 (fun H locs h => ?_)
  refine lv_if_ne (tgt := 9) hx hb dX8_shelf_4 rfl (fun c3 => ?_) (fun c3 => ?_)
  · replace hf := ifn c3 hf
    refine lv_iload_n hx hb dX8_shelf_9 rfl (lv_at hl 2 rfl) ?_
    by_cases c4 : p1 = (0 : Int32)
    · replace hf := ifp c4 hf
      refine r_tab (tgt := 36) C dX8_shelf_10 (0 : Int32) c4 (by decide) rfl rfl ?_
      refine lv_aload_n hx hb dX8_shelf_36 rfl (lv_at hl 0 rfl) ?_
      refine r_get C h fk_X8_10 0 rfl rfl dX8_shelf_37 ?_
      refine lv_iload_n hx hb dX8_shelf_40 rfl (lv_at hl 3 rfl) ?_
      replace hf := bd1_inv hf
      obtain ⟨r7, hc8, hf⟩ := hf
      refine r_ciV0 C h (c_X3_has hc8) mv_X8_90 rfl 8 rfl [8] rfl rfl hl.1 rfl (Nat.le_of_ble_eq_true rfl) (rok (by decide)) dX8_shelf_41 (fun H locs h => ?_)
      refine lv_if_eq (tgt := 59) hx hb dX8_shelf_44 rfl (fun c9 => ?_) (fun c9 => ?_)
      · replace hf := ifp c9 hf
        refine lv_iconst (v := (-1 : Int32)) hx hb dX8_shelf_59 rfl ?_
        cases hf
        exact r_iret C h hr hlk rfl dX8_shelf_60
      · replace hf := ifn c9 hf
        refine lv_aload_n hx hb dX8_shelf_47 rfl (lv_at hl 0 rfl) ?_
        refine r_get C h fk_X8_50 0 rfl rfl dX8_shelf_48 ?_
        refine lv_iload_n hx hb dX8_shelf_51 rfl (lv_at hl 1 rfl) ?_
        refine lv_iload_n hx hb dX8_shelf_52 rfl (lv_at hl 3 rfl) ?_
        replace hf := bd3_inv hf
        obtain ⟨r10, g11, g12, hc13, hf⟩ := hf
        refine r_ciV (ws' := [(h_this, ob 8 [.ref h_this_rock, .ref h_this_kept, .ref h_this_trial, .ref h_this_planner, .ref h_this_reader, .ref h_this_draft, .ref h_this_host, .ref h_this_thing, .ref h_this_tape, .ref h_this_rows, .int x_this_tapeCount, .int x_this_rowCount, .int x_this_isKept]), (h_this_host, ob 0 [.ref h_this_host_sorts, .ref h_this_host_sizes, .ref h_this_host_items, .ref h_this_host_holds, .ref h_this_host_shelfShips, .ref h_this_host_shelfSorts, .ref h_this_host_shelfSizes]), (h_this_host_holds, ia G 4 g11), (h_this_host_shelfShips, ia G 4 g12), (h_this_host_shelfSizes, ia G 4 f_this_host_shelfSizes), (h_this_host_shelfSorts, ia G 4 f_this_host_shelfSorts), (h_this_host_sizes, ia G 4 f_this_host_sizes), (h_this_host_sorts, ia G 4 f_this_host_sorts), (h_this_rock, ob 3 [.ref h_this_rock_kinds, .ref h_this_rock_trims, .ref h_this_rock_lanes, .ref h_this_rock_lights, .ref h_this_rock_currents, .ref h_this_rock_buoys, .ref h_this_rock_now, .ref h_this_rock_rules, .ref h_this_rock_reports, .int x_this_rock_count, .int x_this_rock_end, .int x_this_rock_z])]) C h (c_X0_holdShip hc13) mv_X8_321 rfl 1 rfl [1, 2, 3] rfl rfl [2, 3] [(h_this_host_holds, ia G 4 g11), (h_this_host_shelfShips, ia G 4 g12)] rfl rfl (by decide +kernel) rfl hl.1 rfl (Nat.le_of_ble_eq_true rfl) (rok (by decide)) dX8_shelf_53 (fun H locs h => ?_)
        refine lv_goto (tgt := 60) hx hb dX8_shelf_56 rfl ?_
        cases hf
        exact r_iret C h hr hlk rfl dX8_shelf_60
    · replace hf := ifn c4 hf
      by_cases c5 : p1 = (1 : Int32)
      · replace hf := ifp c5 hf
        refine r_tab (tgt := 61) C dX8_shelf_10 (1 : Int32) c5 (by decide) rfl rfl ?_
        refine lv_iload_n hx hb dX8_shelf_61 rfl (lv_at hl 3 rfl) ?_
        replace hf := bd1_inv hf
        obtain ⟨r14, hc15, hf⟩ := hf
        refine r_ciS0 C h (c_X0_hasSheet hc15) ms_X8_297 rfl [] rfl rfl hl.1 rfl (Nat.le_of_ble_eq_true rfl) (rok (by decide)) dX8_shelf_62 (fun H locs h => ?_)
        refine lv_if_eq (tgt := 80) hx hb dX8_shelf_65 rfl (fun c16 => ?_) (fun c16 => ?_)
        · replace hf := ifp c16 hf
          refine lv_iconst (v := (-1 : Int32)) hx hb dX8_shelf_80 rfl ?_
          cases hf
          exact r_iret C h hr hlk rfl dX8_shelf_81
        · replace hf := ifn c16 hf
          refine lv_aload_n hx hb dX8_shelf_68 rfl (lv_at hl 0 rfl) ?_
          refine r_get C h fk_X8_50 0 rfl rfl dX8_shelf_69 ?_
          refine lv_iload_n hx hb dX8_shelf_72 rfl (lv_at hl 1 rfl) ?_
          refine lv_iload_n hx hb dX8_shelf_73 rfl (lv_at hl 3 rfl) ?_
          replace hf := bd4_inv hf
          obtain ⟨r17, g18, g19, g20, hc21, hf⟩ := hf
          refine r_ciV (ws' := [(h_this, ob 8 [.ref h_this_rock, .ref h_this_kept, .ref h_this_trial, .ref h_this_planner, .ref h_this_reader, .ref h_this_draft, .ref h_this_host, .ref h_this_thing, .ref h_this_tape, .ref h_this_rows, .int x_this_tapeCount, .int x_this_rowCount, .int x_this_isKept]), (h_this_host, ob 0 [.ref h_this_host_sorts, .ref h_this_host_sizes, .ref h_this_host_items, .ref h_this_host_holds, .ref h_this_host_shelfShips, .ref h_this_host_shelfSorts, .ref h_this_host_shelfSizes]), (h_this_host_holds, ia G 4 g18), (h_this_host_shelfShips, ia G 4 f_this_host_shelfShips), (h_this_host_shelfSizes, ia G 4 g19), (h_this_host_shelfSorts, ia G 4 g20), (h_this_host_sizes, ia G 4 f_this_host_sizes), (h_this_host_sorts, ia G 4 f_this_host_sorts), (h_this_rock, ob 3 [.ref h_this_rock_kinds, .ref h_this_rock_trims, .ref h_this_rock_lanes, .ref h_this_rock_lights, .ref h_this_rock_currents, .ref h_this_rock_buoys, .ref h_this_rock_now, .ref h_this_rock_rules, .ref h_this_rock_reports, .int x_this_rock_count, .int x_this_rock_end, .int x_this_rock_z])]) C h (c_X0_holdRow hc21) mv_X8_324 rfl 1 rfl [1, 2, 4, 5, 6, 7] rfl rfl [2, 4, 5] [(h_this_host_holds, ia G 4 g18), (h_this_host_shelfSizes, ia G 4 g19), (h_this_host_shelfSorts, ia G 4 g20)] rfl rfl (by decide +kernel) rfl hl.1 rfl (Nat.le_of_ble_eq_true rfl) (rok (by decide)) dX8_shelf_74 (fun H locs h => ?_)
          refine lv_goto (tgt := 81) hx hb dX8_shelf_77 rfl ?_
          cases hf
          exact r_iret C h hr hlk rfl dX8_shelf_81
      · replace hf := ifn c5 hf
        by_cases c6 : p1 = (2 : Int32)
        · replace hf := ifp c6 hf
          refine r_tab (tgt := 82) C dX8_shelf_10 (2 : Int32) c6 (by decide) rfl rfl ?_
          refine lv_aload_n hx hb dX8_shelf_82 rfl (lv_at hl 0 rfl) ?_
          refine r_get C h fk_X8_50 0 rfl rfl dX8_shelf_83 ?_
          refine lv_iload_n hx hb dX8_shelf_86 rfl (lv_at hl 1 rfl) ?_
          replace hf := bd2_inv hf
          obtain ⟨r22, g23, hc24, hf⟩ := hf
          refine r_ciV (ws' := [(h_this, ob 8 [.ref h_this_rock, .ref h_this_kept, .ref h_this_trial, .ref h_this_planner, .ref h_this_reader, .ref h_this_draft, .ref h_this_host, .ref h_this_thing, .ref h_this_tape, .ref h_this_rows, .int x_this_tapeCount, .int x_this_rowCount, .int x_this_isKept]), (h_this_host, ob 0 [.ref h_this_host_sorts, .ref h_this_host_sizes, .ref h_this_host_items, .ref h_this_host_holds, .ref h_this_host_shelfShips, .ref h_this_host_shelfSorts, .ref h_this_host_shelfSizes]), (h_this_host_holds, ia G 4 g23), (h_this_host_shelfShips, ia G 4 f_this_host_shelfShips), (h_this_host_shelfSizes, ia G 4 f_this_host_shelfSizes), (h_this_host_shelfSorts, ia G 4 f_this_host_shelfSorts), (h_this_host_sizes, ia G 4 f_this_host_sizes), (h_this_host_sorts, ia G 4 f_this_host_sorts), (h_this_rock, ob 3 [.ref h_this_rock_kinds, .ref h_this_rock_trims, .ref h_this_rock_lanes, .ref h_this_rock_lights, .ref h_this_rock_currents, .ref h_this_rock_buoys, .ref h_this_rock_now, .ref h_this_rock_rules, .ref h_this_rock_reports, .int x_this_rock_count, .int x_this_rock_end, .int x_this_rock_z])]) C h (c_X0_holdNothing hc24) mv_X8_327 rfl 1 rfl [1, 2] rfl rfl [2] [(h_this_host_holds, ia G 4 g23)] rfl rfl (by decide +kernel) rfl hl.1 rfl (Nat.le_of_ble_eq_true rfl) (rok (by decide)) dX8_shelf_87 (fun H locs h => ?_)
          cases hf
          exact r_iret C h hr hlk rfl dX8_shelf_90
        · replace hf := ifn c6 hf
          refine r_tabD (tgt := 91) C dX8_shelf_10 [(0 : Int32), (1 : Int32), (2 : Int32)] (by decide) (nel_c c4 (nel_c c5 (nel_c c6 nel_0))) rfl ?_
          refine lv_iconst (v := (-1 : Int32)) hx hb dX8_shelf_91 rfl ?_
          cases hf
          exact r_iret C h hr hlk rfl dX8_shelf_92
  · replace hf := ifp c3 hf
    refine lv_iconst (v := (-1 : Int32)) hx hb dX8_shelf_7 rfl ?_
    cases hf
    exact r_iret C h hr hlk rfl dX8_shelf_8
set_option maxRecDepth 100000 in
set_option maxHeartbeats 4000000 in
theorem c_X0_holdsRow {l : Launch} {G : Gt} {h_this h_this_sorts h_this_sizes h_this_items h_this_holds h_this_shelfShips h_this_shelfSorts h_this_shelfSizes : Nat} {p0 : Int32} {f_this_holds : Nat → Int32} {r : Int32} (hf : f_X0_holdsRow p0 f_this_holds = some r) : mFi l G yX0_holdsRow cX0_holdsRow 2 .boolean 0 [.ref h_this, .int p0] [(h_this, ob 0 [.ref h_this_sorts, .ref h_this_sizes, .ref h_this_items, .ref h_this_holds, .ref h_this_shelfShips, .ref h_this_shelfSorts, .ref h_this_shelfSizes]), (h_this_holds, ia G 4 f_this_holds)] r [(h_this, ob 0 [.ref h_this_sorts, .ref h_this_sizes, .ref h_this_items, .ref h_this_holds, .ref h_this_shelfShips, .ref h_this_shelfSorts, .ref h_this_shelfSizes]), (h_this_holds, ia G 4 f_this_holds)] := by
  refine mFi.of (by decide +kernel) (Nat.le_of_ble_eq_true rfl) ?_
  intro p e s m below meth c A C hr hlk h ls hl
  obtain ⟨hx, hb, hml, hown, hts⟩ := id C
  replace hl : lv_has ls 2 [(0, .ref h_this), (1, .int p0)] := hl
  unfold f_X0_holdsRow at hf
  refine lv_aload_n hx hb dX0_holdsRow_0 rfl (lv_at hl 0 rfl) ?_
  refine r_get C h fk_X0_21 0 rfl rfl dX0_holdsRow_1 ?_
  refine lv_iload_n hx hb dX0_holdsRow_4 rfl (lv_at hl 1 rfl) ?_
  replace hf := chkI_inv hf
  obtain ⟨hi1, hf⟩ := hf
  refine r_iald C h 1 rfl hi1 dX0_holdsRow_5 ?_
  refine lv_iconst (v := (2 : Int32)) hx hb dX0_holdsRow_6 rfl ?_
  refine lv_icmp_ne (tgt := 14) hx hb dX0_holdsRow_7 rfl (fun c2 => ?_) (fun c2 => ?_)
  · replace hf := ifn c2 hf
    refine lv_iconst (v := (0 : Int32)) hx hb dX0_holdsRow_14 rfl ?_
    cases hf
    exact r_iret C h hr hlk rfl dX0_holdsRow_15
  · replace hf := ifp c2 hf
    refine lv_iconst (v := (1 : Int32)) hx hb dX0_holdsRow_10 rfl ?_
    refine lv_goto (tgt := 15) hx hb dX0_holdsRow_11 rfl ?_
    cases hf
    exact r_iret C h hr hlk rfl dX0_holdsRow_15
set_option maxRecDepth 100000 in
set_option maxHeartbeats 4000000 in
theorem c_X0_sortOn {l : Launch} {G : Gt} {h_this h_this_sorts h_this_sizes h_this_items h_this_holds h_this_shelfShips h_this_shelfSorts h_this_shelfSizes : Nat} {p0 : Int32} {f_this_shelfSorts : Nat → Int32} {r : Int32} (hf : f_X0_sortOn p0 f_this_shelfSorts = some r) : mFi l G yX0_sortOn cX0_sortOn 2 .int 0 [.ref h_this, .int p0] [(h_this, ob 0 [.ref h_this_sorts, .ref h_this_sizes, .ref h_this_items, .ref h_this_holds, .ref h_this_shelfShips, .ref h_this_shelfSorts, .ref h_this_shelfSizes]), (h_this_shelfSorts, ia G 4 f_this_shelfSorts)] r [(h_this, ob 0 [.ref h_this_sorts, .ref h_this_sizes, .ref h_this_items, .ref h_this_holds, .ref h_this_shelfShips, .ref h_this_shelfSorts, .ref h_this_shelfSizes]), (h_this_shelfSorts, ia G 4 f_this_shelfSorts)] := by
  refine mFi.of (by decide +kernel) (Nat.le_of_ble_eq_true rfl) ?_
  intro p e s m below meth c A C hr hlk h ls hl
  obtain ⟨hx, hb, hml, hown, hts⟩ := id C
  replace hl : lv_has ls 2 [(0, .ref h_this), (1, .int p0)] := hl
  unfold f_X0_sortOn at hf
  refine lv_aload_n hx hb dX0_sortOn_0 rfl (lv_at hl 0 rfl) ?_
  refine r_get C h fk_X0_27 0 rfl rfl dX0_sortOn_1 ?_
  refine lv_iload_n hx hb dX0_sortOn_4 rfl (lv_at hl 1 rfl) ?_
  replace hf := chkI_inv hf
  obtain ⟨hi1, hf⟩ := hf
  refine r_iald C h 1 rfl hi1 dX0_sortOn_5 ?_
  cases hf
  exact r_iret C h hr hlk rfl dX0_sortOn_6
set_option maxRecDepth 100000 in
set_option maxHeartbeats 4000000 in
theorem c_X0_sizeOn {l : Launch} {G : Gt} {h_this h_this_sorts h_this_sizes h_this_items h_this_holds h_this_shelfShips h_this_shelfSorts h_this_shelfSizes : Nat} {p0 : Int32} {f_this_shelfSizes : Nat → Int32} {r : Int32} (hf : f_X0_sizeOn p0 f_this_shelfSizes = some r) : mFi l G yX0_sizeOn cX0_sizeOn 2 .int 0 [.ref h_this, .int p0] [(h_this, ob 0 [.ref h_this_sorts, .ref h_this_sizes, .ref h_this_items, .ref h_this_holds, .ref h_this_shelfShips, .ref h_this_shelfSorts, .ref h_this_shelfSizes]), (h_this_shelfSizes, ia G 4 f_this_shelfSizes)] r [(h_this, ob 0 [.ref h_this_sorts, .ref h_this_sizes, .ref h_this_items, .ref h_this_holds, .ref h_this_shelfShips, .ref h_this_shelfSorts, .ref h_this_shelfSizes]), (h_this_shelfSizes, ia G 4 f_this_shelfSizes)] := by
  refine mFi.of (by decide +kernel) (Nat.le_of_ble_eq_true rfl) ?_
  intro p e s m below meth c A C hr hlk h ls hl
  obtain ⟨hx, hb, hml, hown, hts⟩ := id C
  replace hl : lv_has ls 2 [(0, .ref h_this), (1, .int p0)] := hl
  unfold f_X0_sizeOn at hf
  refine lv_aload_n hx hb dX0_sizeOn_0 rfl (lv_at hl 0 rfl) ?_
  refine r_get C h fk_X0_30 0 rfl rfl dX0_sizeOn_1 ?_
  refine lv_iload_n hx hb dX0_sizeOn_4 rfl (lv_at hl 1 rfl) ?_
  replace hf := chkI_inv hf
  obtain ⟨hi1, hf⟩ := hf
  refine r_iald C h 1 rfl hi1 dX0_sizeOn_5 ?_
  cases hf
  exact r_iret C h hr hlk rfl dX0_sizeOn_6
set_option maxRecDepth 100000 in
set_option maxHeartbeats 4000000 in
theorem c_X0_shipOn {l : Launch} {G : Gt} {h_this h_this_sorts h_this_sizes h_this_items h_this_holds h_this_shelfShips h_this_shelfSorts h_this_shelfSizes : Nat} {p0 : Int32} {f_this_holds : Nat → Int32} {f_this_shelfShips : Nat → Int32} {r : Int32} (hf : f_X0_shipOn p0 f_this_holds f_this_shelfShips = some r) : mFi l G yX0_shipOn cX0_shipOn 2 .int 0 [.ref h_this, .int p0] [(h_this, ob 0 [.ref h_this_sorts, .ref h_this_sizes, .ref h_this_items, .ref h_this_holds, .ref h_this_shelfShips, .ref h_this_shelfSorts, .ref h_this_shelfSizes]), (h_this_holds, ia G 4 f_this_holds), (h_this_shelfShips, ia G 4 f_this_shelfShips)] r [(h_this, ob 0 [.ref h_this_sorts, .ref h_this_sizes, .ref h_this_items, .ref h_this_holds, .ref h_this_shelfShips, .ref h_this_shelfSorts, .ref h_this_shelfSizes]), (h_this_holds, ia G 4 f_this_holds), (h_this_shelfShips, ia G 4 f_this_shelfShips)] := by
  refine mFi.of (by decide +kernel) (Nat.le_of_ble_eq_true rfl) ?_
  intro p e s m below meth c A C hr hlk h ls hl
  obtain ⟨hx, hb, hml, hown, hts⟩ := id C
  replace hl : lv_has ls 2 [(0, .ref h_this), (1, .int p0)] := hl
  unfold f_X0_shipOn at hf
  refine lv_aload_n hx hb dX0_shipOn_0 rfl (lv_at hl 0 rfl) ?_
  refine r_get C h fk_X0_21 0 rfl rfl dX0_shipOn_1 ?_
  refine lv_iload_n hx hb dX0_shipOn_4 rfl (lv_at hl 1 rfl) ?_
  replace hf := chkI_inv hf
  obtain ⟨hi1, hf⟩ := hf
  refine r_iald C h 1 rfl hi1 dX0_shipOn_5 ?_
  refine lv_iconst (v := (1 : Int32)) hx hb dX0_shipOn_6 rfl ?_
  refine lv_icmp_ne (tgt := 19) hx hb dX0_shipOn_7 rfl (fun c2 => ?_) (fun c2 => ?_)
  · replace hf := ifn c2 hf
    refine lv_bipush (v := (-3 : Int32)) hx hb dX0_shipOn_19 rfl ?_
    cases hf
    exact r_iret C h hr hlk rfl dX0_shipOn_21
  · replace hf := ifp c2 hf
    refine lv_aload_n hx hb dX0_shipOn_10 rfl (lv_at hl 0 rfl) ?_
    refine r_get C h fk_X0_24 0 rfl rfl dX0_shipOn_11 ?_
    refine lv_iload_n hx hb dX0_shipOn_14 rfl (lv_at hl 1 rfl) ?_
    replace hf := chkI_inv hf
    obtain ⟨hi3, hf⟩ := hf
    refine r_iald C h 2 rfl hi3 dX0_shipOn_15 ?_
    refine lv_goto (tgt := 21) hx hb dX0_shipOn_16 rfl ?_
    cases hf
    exact r_iret C h hr hlk rfl dX0_shipOn_21
set_option maxRecDepth 100000 in
set_option maxHeartbeats 4000000 in
theorem c_X8_taken {l : Launch} {G : Gt} {h_this h_this_rock h_this_kept h_this_trial h_this_planner h_this_reader h_this_draft h_this_host h_this_thing h_this_tape h_this_rows h_this_host_sorts h_this_host_sizes h_this_host_items h_this_host_holds h_this_host_shelfShips h_this_host_shelfSorts h_this_host_shelfSizes h_this_rock_kinds h_this_rock_trims h_this_rock_lanes h_this_rock_lights h_this_rock_currents h_this_rock_buoys h_this_rock_now h_this_rock_rules h_this_rock_reports : Nat} {p0 : Int32} {p1 : Int32} {x_this_tapeCount : Int32} {x_this_rowCount : Int32} {x_this_isKept : Int32} {f_this_host_holds : Nat → Int32} {f_this_host_shelfShips : Nat → Int32} {f_this_host_shelfSizes : Nat → Int32} {f_this_host_shelfSorts : Nat → Int32} {x_this_rock_count : Int32} {x_this_rock_end : Int32} {x_this_rock_z : Int32} {f_this_rock_kinds : Nat → Int32} {r : Int32} (hf : f_X8_taken p0 p1 f_this_host_holds f_this_host_shelfShips f_this_host_shelfSizes f_this_host_shelfSorts x_this_rock_count f_this_rock_kinds = some r) : mFi l G yX8_taken cX8_taken 4 .int 1 [.ref h_this, .int p0, .int p1] [(h_this, ob 8 [.ref h_this_rock, .ref h_this_kept, .ref h_this_trial, .ref h_this_planner, .ref h_this_reader, .ref h_this_draft, .ref h_this_host, .ref h_this_thing, .ref h_this_tape, .ref h_this_rows, .int x_this_tapeCount, .int x_this_rowCount, .int x_this_isKept]), (h_this_host, ob 0 [.ref h_this_host_sorts, .ref h_this_host_sizes, .ref h_this_host_items, .ref h_this_host_holds, .ref h_this_host_shelfShips, .ref h_this_host_shelfSorts, .ref h_this_host_shelfSizes]), (h_this_host_holds, ia G 4 f_this_host_holds), (h_this_host_shelfShips, ia G 4 f_this_host_shelfShips), (h_this_host_shelfSizes, ia G 4 f_this_host_shelfSizes), (h_this_host_shelfSorts, ia G 4 f_this_host_shelfSorts), (h_this_rock, ob 3 [.ref h_this_rock_kinds, .ref h_this_rock_trims, .ref h_this_rock_lanes, .ref h_this_rock_lights, .ref h_this_rock_currents, .ref h_this_rock_buoys, .ref h_this_rock_now, .ref h_this_rock_rules, .ref h_this_rock_reports, .int x_this_rock_count, .int x_this_rock_end, .int x_this_rock_z]), (h_this_rock_kinds, ia G 6 f_this_rock_kinds)] r [(h_this, ob 8 [.ref h_this_rock, .ref h_this_kept, .ref h_this_trial, .ref h_this_planner, .ref h_this_reader, .ref h_this_draft, .ref h_this_host, .ref h_this_thing, .ref h_this_tape, .ref h_this_rows, .int x_this_tapeCount, .int x_this_rowCount, .int x_this_isKept]), (h_this_host, ob 0 [.ref h_this_host_sorts, .ref h_this_host_sizes, .ref h_this_host_items, .ref h_this_host_holds, .ref h_this_host_shelfShips, .ref h_this_host_shelfSorts, .ref h_this_host_shelfSizes]), (h_this_host_holds, ia G 4 f_this_host_holds), (h_this_host_shelfShips, ia G 4 f_this_host_shelfShips), (h_this_host_shelfSizes, ia G 4 f_this_host_shelfSizes), (h_this_host_shelfSorts, ia G 4 f_this_host_shelfSorts), (h_this_rock, ob 3 [.ref h_this_rock_kinds, .ref h_this_rock_trims, .ref h_this_rock_lanes, .ref h_this_rock_lights, .ref h_this_rock_currents, .ref h_this_rock_buoys, .ref h_this_rock_now, .ref h_this_rock_rules, .ref h_this_rock_reports, .int x_this_rock_count, .int x_this_rock_end, .int x_this_rock_z]), (h_this_rock_kinds, ia G 6 f_this_rock_kinds)] := by
  refine mFi.of (by decide +kernel) (Nat.le_of_ble_eq_true rfl) ?_
  intro p e s m below meth c A C hr hlk h ls hl
  obtain ⟨hx, hb, hml, hown, hts⟩ := id C
  replace hl : lv_has ls 4 [(0, .ref h_this), (1, .int p0), (2, .int p1)] := hl
  unfold f_X8_taken at hf
  refine with_K G A 4 (fun K hK1 hK2 => ?_)
  have B29 : f_X8_taken_b29 p0 p1 f_this_host_holds f_this_host_shelfShips f_this_host_shelfSizes f_this_host_shelfSorts x_this_rock_count f_this_rock_kinds = some r → K 29 ([] : List Value) [(h_this, ob 8 [.ref h_this_rock, .ref h_this_kept, .ref h_this_trial, .ref h_this_planner, .ref h_this_reader, .ref h_this_draft, .ref h_this_host, .ref h_this_thing, .ref h_this_tape, .ref h_this_rows, .int x_this_tapeCount, .int x_this_rowCount, .int x_this_isKept]), (h_this_host, ob 0 [.ref h_this_host_sorts, .ref h_this_host_sizes, .ref h_this_host_items, .ref h_this_host_holds, .ref h_this_host_shelfShips, .ref h_this_host_shelfSorts, .ref h_this_host_shelfSizes]), (h_this_host_holds, ia G 4 f_this_host_holds), (h_this_host_shelfShips, ia G 4 f_this_host_shelfShips), (h_this_host_shelfSizes, ia G 4 f_this_host_shelfSizes), (h_this_host_shelfSorts, ia G 4 f_this_host_shelfSorts), (h_this_rock, ob 3 [.ref h_this_rock_kinds, .ref h_this_rock_trims, .ref h_this_rock_lanes, .ref h_this_rock_lights, .ref h_this_rock_currents, .ref h_this_rock_buoys, .ref h_this_rock_now, .ref h_this_rock_rules, .ref h_this_rock_reports, .int x_this_rock_count, .int x_this_rock_end, .int x_this_rock_z]), (h_this_rock_kinds, ia G 6 f_this_rock_kinds)] [(0, .ref h_this), (1, .int p0), (2, .int p1)] := by
    intro hf
    unfold f_X8_taken_b29 at hf
    refine hK1 _ _ _ _ (fun H locs ls h hl => ?_)
    refine lv_aload_n hx hb dX8_taken_29 rfl (lv_at hl 0 rfl) ?_
    refine r_get C h fk_X8_50 0 rfl rfl dX8_taken_30 ?_
    refine lv_iload_n hx hb dX8_taken_33 rfl (lv_at hl 1 rfl) ?_
    replace hf := bd1_inv hf
    obtain ⟨r7, hc8, hf⟩ := hf
    refine r_ciV0 C h (c_X0_holdsRow hc8) mv_X8_330 rfl 1 rfl [1, 2] rfl rfl hl.1 rfl (Nat.le_of_ble_eq_true rfl) (rok (by decide)) dX8_taken_34 (fun H locs h => ?_)
    refine lv_if_eq (tgt := 69) hx hb dX8_taken_37 rfl (fun c9 => ?_) (fun c9 => ?_)
    · replace hf := ifp c9 hf
      refine lv_aload_n hx hb dX8_taken_69 rfl (lv_at hl 0 rfl) ?_
      refine r_get C h fk_X8_50 0 rfl rfl dX8_taken_70 ?_
      refine lv_iload_n hx hb dX8_taken_73 rfl (lv_at hl 1 rfl) ?_
      replace hf := bd1_inv hf
      obtain ⟨r10, hc11, hf⟩ := hf
      refine r_ciV0 C h (c_X0_shipOn hc11) mv_X8_339 rfl 1 rfl [1, 2, 3] rfl rfl hl.1 rfl (Nat.le_of_ble_eq_true rfl) (rok (by decide)) dX8_taken_74 (fun H locs h => ?_)
      refine lv_istore_n (lv' := [(3, .int r10), (0, .ref h_this), (1, .int p0), (2, .int p1)]) hx hb dX8_taken_77 rfl hl (by decide) rfl (fun ls hl => ?_)
      refine lv_aload_n hx hb dX8_taken_78 rfl (lv_at hl 1 rfl) ?_
      refine r_get C h fk_X8_10 0 rfl rfl dX8_taken_79 ?_
      refine lv_iload_n hx hb dX8_taken_82 rfl (lv_at hl 0 rfl) ?_
      replace hf := bd1_inv hf
      obtain ⟨r12, hc13, hf⟩ := hf
      refine r_ciV0 C h (c_X3_has hc13) mv_X8_90 rfl 6 rfl [6] rfl rfl hl.1 rfl (Nat.le_of_ble_eq_true rfl) (rok (by decide)) dX8_taken_83 (fun H locs h => ?_)
      refine lv_if_ne (tgt := 92) hx hb dX8_taken_86 rfl (fun c14 => ?_) (fun c14 => ?_)
      · replace hf := ifn c14 hf
        refine lv_iload_n hx hb dX8_taken_92 rfl (lv_at hl 3 rfl) ?_
        refine lv_bipush (v := (10 : Int32)) hx hb dX8_taken_93 rfl ?_
        refine lv_icmp_ge (tgt := 118) hx hb dX8_taken_95 rfl (fun c15 => ?_) (fun c15 => ?_)
        · replace hf := ifp c15 hf
          refine lv_bipush (v := (-13 : Int32)) hx hb dX8_taken_118 rfl ?_
          cases hf
          exact r_iret C h hr hlk rfl dX8_taken_120
        · replace hf := ifn c15 hf
          refine lv_aload_n hx hb dX8_taken_98 rfl (lv_at hl 1 rfl) ?_
          refine r_get C h fk_X8_10 0 rfl rfl dX8_taken_99 ?_
          refine r_get C h fk_X8_97 6 rfl rfl dX8_taken_102 ?_
          refine lv_iload_n hx hb dX8_taken_105 rfl (lv_at hl 0 rfl) ?_
          replace hf := chkI_inv hf
          obtain ⟨hi16, hf⟩ := hf
          refine r_iald C h 7 rfl hi16 dX8_taken_106 ?_
          refine lv_iload_n hx hb dX8_taken_107 rfl (lv_at hl 3 rfl) ?_
          replace hf := bd1_inv hf
          obtain ⟨r17, hc18, hf⟩ := hf
          refine r_ciS0 C h (c_X8_isOrUnder hc18) ms_X8_342 rfl [] rfl rfl hl.1 rfl (Nat.le_of_ble_eq_true rfl) (rok (by decide)) dX8_taken_108 (fun H locs h => ?_)
          refine lv_if_eq (tgt := 118) hx hb dX8_taken_111 rfl (fun c19 => ?_) (fun c19 => ?_)
          · replace hf := ifp c19 hf
            refine lv_bipush (v := (-13 : Int32)) hx hb dX8_taken_118 rfl ?_
            cases hf
            exact r_iret C h hr hlk rfl dX8_taken_120
          · replace hf := ifn c19 hf
            refine lv_iload_n hx hb dX8_taken_114 rfl (lv_at hl 0 rfl) ?_
            refine lv_goto (tgt := 120) hx hb dX8_taken_115 rfl ?_
            cases hf
            exact r_iret C h hr hlk rfl dX8_taken_120
      · replace hf := ifp c14 hf
        refine lv_bipush (v := (-11 : Int32)) hx hb dX8_taken_89 rfl ?_
        cases hf
        exact r_iret C h hr hlk rfl dX8_taken_91
    · replace hf := ifn c9 hf
      refine lv_aload_n hx hb dX8_taken_40 rfl (lv_at hl 0 rfl) ?_
      refine r_get C h fk_X8_50 0 rfl rfl dX8_taken_41 ?_
      refine lv_iload_n hx hb dX8_taken_44 rfl (lv_at hl 1 rfl) ?_
      replace hf := bd1_inv hf
      obtain ⟨r20, hc21, hf⟩ := hf
      refine r_ciV0 C h (c_X0_sortOn hc21) mv_X8_333 rfl 1 rfl [1, 5] rfl rfl hl.1 rfl (Nat.le_of_ble_eq_true rfl) (rok (by decide)) dX8_taken_45 (fun H locs h => ?_)
      refine lv_iload_n hx hb dX8_taken_48 rfl (lv_at hl 2 rfl) ?_
      refine lv_bipush (v := (10 : Int32)) hx hb dX8_taken_49 rfl ?_
      refine lv_isub hx hb dX8_taken_51 ?_
      refine lv_icmp_ne (tgt := 66) hx hb dX8_taken_52 rfl (fun c22 => ?_) (fun c22 => ?_)
      · replace hf := ifn c22 hf
        refine lv_bipush (v := (-13 : Int32)) hx hb dX8_taken_66 rfl ?_
        cases hf
        exact r_iret C h hr hlk rfl dX8_taken_68
      · replace hf := ifp c22 hf
        refine lv_aload_n hx hb dX8_taken_55 rfl (lv_at hl 0 rfl) ?_
        refine r_get C h fk_X8_50 0 rfl rfl dX8_taken_56 ?_
        refine lv_iload_n hx hb dX8_taken_59 rfl (lv_at hl 1 rfl) ?_
        replace hf := bd1_inv hf
        obtain ⟨r23, hc24, hf⟩ := hf
        refine r_ciV0 C h (c_X0_sizeOn hc24) mv_X8_336 rfl 1 rfl [1, 4] rfl rfl hl.1 rfl (Nat.le_of_ble_eq_true rfl) (rok (by decide)) dX8_taken_60 (fun H locs h => ?_)
        refine lv_goto (tgt := 68) hx hb dX8_taken_63 rfl ?_
        cases hf
        exact r_iret C h hr hlk rfl dX8_taken_68
  refine lv_iload_n hx hb dX8_taken_0 rfl (lv_at hl 1 rfl) ?_
  replace hf := bd1_inv hf
  obtain ⟨r1, hc2, hf⟩ := hf
  refine r_ciS0 C h (c_X0_hasShelf hc2) ms_X8_318 rfl [] rfl rfl hl.1 rfl (Nat.le_of_ble_eq_true rfl) (rok (by decide)) dX8_taken_1 (fun H locs h => ?_)
  refine lv_if_eq (tgt := 27) hx hb dX8_taken_4 rfl (fun c3 => ?_) (fun c3 => ?_)
  · replace hf := ifp c3 hf
    refine lv_iconst (v := (-1 : Int32)) hx hb dX8_taken_27 rfl ?_
    cases hf
    exact r_iret C h hr hlk rfl dX8_taken_28
  · replace hf := ifn c3 hf
    refine lv_iload_n hx hb dX8_taken_7 rfl (lv_at hl 2 rfl) ?_
    refine lv_iconst (v := (0 : Int32)) hx hb dX8_taken_8 rfl ?_
    refine lv_iconst (v := (5 : Int32)) hx hb dX8_taken_9 rfl ?_
    replace hf := bd1_inv hf
    obtain ⟨r4, hc5, hf⟩ := hf
    refine r_ciS0 C h (c_X8_within hc5) ms_X8_79 rfl [] rfl rfl hl.1 rfl (Nat.le_of_ble_eq_true rfl) (rok (by decide)) dX8_taken_10 (fun H locs h => ?_)
    refine lv_if_ne (tgt := 29) hx hb dX8_taken_13 rfl (fun c6 => ?_) (fun c6 => ?_)
    · replace hf := ifn c6 hf
      exact hK2 _ _ _ _ (B29 hf) _ _ _ h (lv_sub hl [0, 1, 2] rfl)
    · replace hf := ifp c6 hf
      refine lv_iload_n hx hb dX8_taken_16 rfl (lv_at hl 2 rfl) ?_
      refine lv_bipush (v := (10 : Int32)) hx hb dX8_taken_17 rfl ?_
      refine lv_bipush (v := (14 : Int32)) hx hb dX8_taken_19 rfl ?_
      replace hf := bd1_inv hf
      obtain ⟨r25, hc26, hf⟩ := hf
      refine r_ciS0 C h (c_X8_within hc26) ms_X8_79 rfl [] rfl rfl hl.1 rfl (Nat.le_of_ble_eq_true rfl) (rok (by decide)) dX8_taken_21 (fun H locs h => ?_)
      refine lv_if_ne (tgt := 29) hx hb dX8_taken_24 rfl (fun c27 => ?_) (fun c27 => ?_)
      · replace hf := ifn c27 hf
        exact hK2 _ _ _ _ (B29 hf) _ _ _ h (lv_sub hl [0, 1, 2] rfl)
      · replace hf := ifp c27 hf
        refine lv_iconst (v := (-1 : Int32)) hx hb dX8_taken_27 rfl ?_
        cases hf
        exact r_iret C h hr hlk rfl dX8_taken_28
set_option maxRecDepth 100000 in
set_option maxHeartbeats 4000000 in
theorem c_X7_forgetTrace {l : Launch} {G : Gt} {h_this h_this_bodies : Nat} {x_this_traceCount : Int32} {x_this_parted : Int32} {x_this_kind : Int32} {x_this_n : Int32} {x_this_a : Int32} {m_this_traceCount : Int32} {m_this_parted : Int32} (hf : f_X7_forgetTrace = some (m_this_traceCount, m_this_parted)) : mFv l G yX7_forgetTrace cX7_forgetTrace 1 0 [.ref h_this] [(h_this, ob 7 [.ref h_this_bodies, .int x_this_traceCount, .int x_this_parted, .int x_this_kind, .int x_this_n, .int x_this_a])] [(h_this, ob 7 [.ref h_this_bodies, .int m_this_traceCount, .int m_this_parted, .int x_this_kind, .int x_this_n, .int x_this_a])] := by
  refine mFv.of (by decide +kernel) (Nat.le_of_ble_eq_true rfl) ?_
  intro p e s m below meth c A C hr hlk h ls hl
  obtain ⟨hx, hb, hml, hown, hts⟩ := id C
  replace hl : lv_has ls 1 [(0, .ref h_this)] := hl
  unfold f_X7_forgetTrace at hf
  refine lv_aload_n hx hb dX7_forgetTrace_0 rfl (lv_at hl 0 rfl) ?_
  refine lv_iconst (v := (0 : Int32)) hx hb dX7_forgetTrace_1 rfl ?_
  refine r_put (ws' := [(h_this, ob 7 [.ref h_this_bodies, .int (0 : Int32), .int x_this_parted, .int x_this_kind, .int x_this_n, .int x_this_a])]) C h fw_X7_15 0 rfl rfl rfl (Nat.le_of_ble_eq_true rfl) dX7_forgetTrace_2 rfl (fun H locs h => ?_)
  refine lv_aload_n hx hb dX7_forgetTrace_5 rfl (lv_at hl 0 rfl) ?_
  refine lv_iconst (v := (0 : Int32)) hx hb dX7_forgetTrace_6 rfl ?_
  refine r_put (ws' := [(h_this, ob 7 [.ref h_this_bodies, .int (0 : Int32), .int (0 : Int32), .int x_this_kind, .int x_this_n, .int x_this_a])]) C h fw_X7_19 0 rfl rfl rfl (Nat.le_of_ble_eq_true rfl) dX7_forgetTrace_7 rfl (fun H locs h => ?_)
  cases hf
  exact r_vret C h hr hlk dX7_forgetTrace_10
set_option maxRecDepth 100000 in
set_option maxHeartbeats 4000000 in
theorem c_X7_stand {l : Launch} {G : Gt} {h_this h_this_bodies : Nat} {p0 : Int32} {p1 : Int32} {p2 : Int32} {x_this_traceCount : Int32} {x_this_parted : Int32} {x_this_kind : Int32} {x_this_n : Int32} {x_this_a : Int32} {m_this_kind : Int32} {m_this_n : Int32} {m_this_a : Int32} (hf : f_X7_stand p0 p1 p2 = some (m_this_kind, m_this_n, m_this_a)) : mFv l G yX7_stand cX7_stand 4 0 [.ref h_this, .int p0, .int p1, .int p2] [(h_this, ob 7 [.ref h_this_bodies, .int x_this_traceCount, .int x_this_parted, .int x_this_kind, .int x_this_n, .int x_this_a])] [(h_this, ob 7 [.ref h_this_bodies, .int x_this_traceCount, .int x_this_parted, .int m_this_kind, .int m_this_n, .int m_this_a])] := by
  refine mFv.of (by decide +kernel) (Nat.le_of_ble_eq_true rfl) ?_
  intro p e s m below meth c A C hr hlk h ls hl
  obtain ⟨hx, hb, hml, hown, hts⟩ := id C
  replace hl : lv_has ls 4 [(0, .ref h_this), (1, .int p0), (2, .int p1), (3, .int p2)] := hl
  unfold f_X7_stand at hf
  refine lv_aload_n hx hb dX7_stand_0 rfl (lv_at hl 0 rfl) ?_
  refine lv_iload_n hx hb dX7_stand_1 rfl (lv_at hl 1 rfl) ?_
  refine r_put (ws' := [(h_this, ob 7 [.ref h_this_bodies, .int x_this_traceCount, .int x_this_parted, .int p0, .int x_this_n, .int x_this_a])]) C h fw_X7_23 0 rfl rfl rfl (Nat.le_of_ble_eq_true rfl) dX7_stand_2 rfl (fun H locs h => ?_)
  refine lv_aload_n hx hb dX7_stand_5 rfl (lv_at hl 0 rfl) ?_
  refine lv_iload_n hx hb dX7_stand_6 rfl (lv_at hl 2 rfl) ?_
  refine r_put (ws' := [(h_this, ob 7 [.ref h_this_bodies, .int x_this_traceCount, .int x_this_parted, .int p0, .int p1, .int x_this_a])]) C h fw_X7_26 0 rfl rfl rfl (Nat.le_of_ble_eq_true rfl) dX7_stand_7 rfl (fun H locs h => ?_)
  refine lv_aload_n hx hb dX7_stand_10 rfl (lv_at hl 0 rfl) ?_
  refine lv_iload_n hx hb dX7_stand_11 rfl (lv_at hl 3 rfl) ?_
  refine r_put (ws' := [(h_this, ob 7 [.ref h_this_bodies, .int x_this_traceCount, .int x_this_parted, .int p0, .int p1, .int p2])]) C h fw_X7_29 0 rfl rfl rfl (Nat.le_of_ble_eq_true rfl) dX7_stand_12 rfl (fun H locs h => ?_)
  cases hf
  exact r_vret C h hr hlk dX7_stand_15
set_option maxRecDepth 100000 in
set_option maxHeartbeats 4000000 in
theorem c_X7_begin {l : Launch} {G : Gt} {h_this h_this_bodies : Nat} {p0 : Int32} {x_this_traceCount : Int32} {x_this_parted : Int32} {x_this_kind : Int32} {x_this_n : Int32} {x_this_a : Int32} {f_this_bodies : Nat → Int32} {m_this_traceCount : Int32} {m_this_bodies : Nat → Int32} (hf : f_X7_begin p0 x_this_traceCount x_this_parted f_this_bodies = some (m_this_traceCount, m_this_bodies)) : mFv l G yX7_begin cX7_begin 2 0 [.ref h_this, .int p0] [(h_this, ob 7 [.ref h_this_bodies, .int x_this_traceCount, .int x_this_parted, .int x_this_kind, .int x_this_n, .int x_this_a]), (h_this_bodies, ia G 30 f_this_bodies)] [(h_this, ob 7 [.ref h_this_bodies, .int m_this_traceCount, .int x_this_parted, .int x_this_kind, .int x_this_n, .int x_this_a]), (h_this_bodies, ia G 30 m_this_bodies)] := by
  refine mFv.of (by decide +kernel) (Nat.le_of_ble_eq_true rfl) ?_
  intro p e s m below meth c A C hr hlk h ls hl
  obtain ⟨hx, hb, hml, hown, hts⟩ := id C
  replace hl : lv_has ls 2 [(0, .ref h_this), (1, .int p0)] := hl
  unfold f_X7_begin at hf
  refine lv_aload_n hx hb dX7_begin_0 rfl (lv_at hl 0 rfl) ?_
  refine r_get C h fk_X7_19 0 rfl rfl dX7_begin_1 ?_
  refine lv_if_ne (tgt := 36) hx hb dX7_begin_4 rfl (fun c1 => ?_) (fun c1 => ?_)
  · replace hf := ifn c1 hf
    cases hf
    exact r_vret C h hr hlk dX7_begin_36
  · replace hf := ifp c1 hf
    refine lv_aload_n hx hb dX7_begin_7 rfl (lv_at hl 0 rfl) ?_
    refine r_get C h fk_X7_15 0 rfl rfl dX7_begin_8 ?_
    refine lv_bipush (v := (30 : Int32)) hx hb dX7_begin_11 rfl ?_
    refine lv_icmp_ge (tgt := 36) hx hb dX7_begin_13 rfl (fun c2 => ?_) (fun c2 => ?_)
    · replace hf := ifp c2 hf
      cases hf
      exact r_vret C h hr hlk dX7_begin_36
    · replace hf := ifn c2 hf
      refine lv_aload_n hx hb dX7_begin_16 rfl (lv_at hl 0 rfl) ?_
      refine r_get C h fk_X7_11 0 rfl rfl dX7_begin_17 ?_
      refine lv_aload_n hx hb dX7_begin_20 rfl (lv_at hl 0 rfl) ?_
      refine r_get C h fk_X7_15 0 rfl rfl dX7_begin_21 ?_
      refine lv_iload_n hx hb dX7_begin_24 rfl (lv_at hl 1 rfl) ?_
      replace hf := chkI_inv hf
      obtain ⟨hi3, hf⟩ := hf
      refine r_iast (ws' := [(h_this, ob 7 [.ref h_this_bodies, .int x_this_traceCount, .int x_this_parted, .int x_this_kind, .int x_this_n, .int x_this_a]), (h_this_bodies, ia G 30 (upd f_this_bodies x_this_traceCount.toNatClampNeg p0))]) C h 1 rfl hi3 dX7_begin_25 rfl (fun H locs h => ?_)
      refine lv_aload_n hx hb dX7_begin_26 rfl (lv_at hl 0 rfl) ?_
      refine lv_dup hx hb dX7_begin_27 rfl ?_
      refine r_get C h fk_X7_15 0 rfl rfl dX7_begin_28 ?_
      refine lv_iconst (v := (1 : Int32)) hx hb dX7_begin_31 rfl ?_
      refine lv_iadd hx hb dX7_begin_32 ?_
      refine lv_topi (fun t4 et4 => ?_)
      replace hf := lt1_inv et4 hf
      refine r_put (ws' := [(h_this, ob 7 [.ref h_this_bodies, .int t4, .int x_this_parted, .int x_this_kind, .int x_this_n, .int x_this_a]), (h_this_bodies, ia G 30 (upd f_this_bodies x_this_traceCount.toNatClampNeg p0))]) C h fw_X7_15 0 rfl rfl rfl (Nat.le_of_ble_eq_true rfl) dX7_begin_33 rfl (fun H locs h => ?_)
      cases hf
      exact r_vret C h hr hlk dX7_begin_36
