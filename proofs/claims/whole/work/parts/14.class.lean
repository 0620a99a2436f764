def f_X0_holdNothing (p0 : Int32) (f_this_holds : Nat → Int32) : Option (Int32 × (Nat → Int32)) := chkI p0 4 (some ((1 : Int32), upd f_this_holds p0.toNatClampNeg (0 : Int32)))
set_option maxRecDepth 100000 in
set_option maxHeartbeats 4000000 in
theorem c_X0_holdNothing {l : Launch} {G : Gt} {h_this h_this_sorts h_this_sizes h_this_items h_this_holds h_this_shelfShips h_this_shelfSorts h_this_shelfSizes : Nat} {p0 : Int32} {f_this_holds : Nat → Int32} {r : Int32} {m_this_holds : Nat → Int32} (hf : f_X0_holdNothing p0 f_this_holds = some (r, m_this_holds)) : mFi l G yX0_holdNothing cX0_holdNothing 2 .int 0 [.ref h_this, .int p0] [(h_this, ob 0 [.ref h_this_sorts, .ref h_this_sizes, .ref h_this_items, .ref h_this_holds, .ref h_this_shelfShips, .ref h_this_shelfSorts, .ref h_this_shelfSizes]), (h_this_holds, ia G 4 f_this_holds)] r [(h_this, ob 0 [.ref h_this_sorts, .ref h_this_sizes, .ref h_this_items, .ref h_this_holds, .ref h_this_shelfShips, .ref h_this_shelfSorts, .ref h_this_shelfSizes]), (h_this_holds, ia G 4 m_this_holds)] := by
  refine mFi.of (by decide +kernel) (Nat.le_of_ble_eq_true rfl) ?_
  intro p e s m below meth c A C hr hlk h ls hl
  obtain ⟨hx, hb, hml, hown, hts⟩ := id C
  replace hl : lv_has ls 2 [(0, .ref h_this), (1, .int p0)] := hl
  unfold f_X0_holdNothing at hf
  refine lv_aload_n hx hb dX0_holdNothing_0 rfl (lv_at hl 0 rfl) ?_
  refine r_get C h fk_X0_21 0 rfl rfl dX0_holdNothing_1 ?_
  refine lv_iload_n hx hb dX0_holdNothing_4 rfl (lv_at hl 1 rfl) ?_
  refine lv_iconst (v := (0 : Int32)) hx hb dX0_holdNothing_5 rfl ?_
  replace hf := chkI_inv hf
  obtain ⟨hi1, hf⟩ := hf
  refine r_iast (ws' := [(h_this, ob 0 [.ref h_this_sorts, .ref h_this_sizes, .ref h_this_items, .ref h_this_holds, .ref h_this_shelfShips, .ref h_this_shelfSorts, .ref h_this_shelfSizes]), (h_this_holds, ia G 4 (upd f_this_holds p0.toNatClampNeg (0 : Int32)))]) C h 1 rfl hi1 dX0_holdNothing_6 rfl (fun H locs h => ?_)
  refine lv_iconst (v := (1 : Int32)) hx hb dX0_holdNothing_7 rfl ?_
  cases hf
  exact r_iret C h hr hlk rfl dX0_holdNothing_8
def f_X8_shelf (p0 : Int32) (p1 : Int32) (p2 : Int32) (f_this_host_holds : Nat → Int32) (f_this_host_shelfShips : Nat → Int32) (f_this_host_shelfSizes : Nat → Int32) (f_this_host_shelfSorts : Nat → Int32) (f_this_host_sizes : Nat → Int32) (f_this_host_sorts : Nat → Int32) (x_this_rock_count : Int32) : Option (Int32 × (Nat → Int32) × (Nat → Int32) × (Nat → Int32) × (Nat → Int32)) := bd1 (f_X0_hasShelf p0) (fun r1 => (if r1 = 0 then some ((-1 : Int32), f_this_host_holds, f_this_host_shelfShips, f_this_host_shelfSizes, f_this_host_shelfSorts) else (if p1 = (0 : Int32) then bd1 (f_X3_has p2 x_this_rock_count) (fun r7 => (if r7 = 0 then some ((-1 : Int32), f_this_host_holds, f_this_host_shelfShips, f_this_host_shelfSizes, f_this_host_shelfSorts) else bd3 (f_X0_holdShip p0 p2 f_this_host_holds f_this_host_shelfShips) (fun r10 g11 g12 => some (r10, g11, g12, f_this_host_shelfSizes, f_this_host_shelfSorts)))) else (if p1 = (1 : Int32) then bd1 (f_X0_hasSheet p2) (fun r14 => (if r14 = 0 then some ((-1 : Int32), f_this_host_holds, f_this_host_shelfShips, f_this_host_shelfSizes, f_this_host_shelfSorts) else bd4 (f_X0_holdRow p0 p2 f_this_host_holds f_this_host_shelfSizes f_this_host_shelfSorts f_this_host_sizes f_this_host_sorts) (fun r17 g18 g19 g20 => some (r17, g18, f_this_host_shelfShips, g19, g20)))) else (if p1 = (2 : Int32) then bd2 (f_X0_holdNothing p0 f_this_host_holds) (fun r22 g23 => some (r22, g23, f_this_host_shelfShips, f_this_host_shelfSizes, f_this_host_shelfSorts)) else some ((-1 : Int32), f_this_host_holds, f_this_host_shelfShips, f_this_host_shelfSizes, f_this_host_shelfSorts))))))
set_option maxRecDepth 100000 in
set_option maxHeartbeats 4000000 in
theorem c_X8_shelf {l : Launch} {G : Gt} {h_this h_this_rock h_this_kept h_this_trial h_this_planner h_this_reader h_this_draft h_this_host h_this_thing h_this_tape h_this_rows h_this_host_sorts h_this_host_sizes h_this_host_items h_this_host_holds h_this_host_shelfShips h_this_host_shelfSorts h_this_host_shelfSizes h_this_rock_kinds h_this_rock_trims h_this_rock_lanes h_this_rock_lights h_this_rock_currents h_this_rock_buoys h_this_rock_now h_this_rock_rules h_this_rock_reports : Nat} {p0 : Int32} {p1 : Int32} {p2 : Int32} {x_this_tapeCount : Int32} {x_this_rowCount : Int32} {x_this_isKept : Int32} {f_this_host_holds : Nat → Int32} {f_this_host_shelfShips : Nat → Int32} {f_this_host_shelfSizes : Nat → Int32} {f_this_host_shelfSorts : Nat → Int32} {f_this_host_sizes : Nat → Int32} {f_this_host_sorts : Nat → Int32} {x_this_rock_count : Int32} {x_this_rock_end : Int32} {x_this_rock_z : Int32} {r : Int32} {m_this_host_holds : Nat → Int32} {m_this_host_shelfShips : Nat → Int32} {m_this_host_shelfSizes : Nat → Int32} {m_this_host_shelfSorts : Nat → Int32} (hf : f_X8_shelf p0 p1 p2 f_this_host_holds f_this_host_shelfShips f_this_host_shelfSizes f_this_host_shelfSorts f_this_host_sizes f_this_host_sorts x_this_rock_count = some (r, m_this_host_holds, m_this_host_shelfShips, m_this_host_shelfSizes, m_this_host_shelfSorts)) : mFi l G yX8_shelf cX8_shelf 4 .int 2 [.ref h_this, .int p0, .int p1, .int p2] [(h_this, ob 8 [.ref h_this_rock, .ref h_this_kept, .ref h_this_trial, .ref h_this_planner, .ref h_this_reader, .ref h_this_draft, .ref h_this_host, .ref h_this_thing, .ref h_this_tape, .ref h_this_rows, .int x_this_tapeCount, .int x_this_rowCount, .int x_this_isKept]), (h_this_host, ob 0 [.ref h_this_host_sorts, .ref h_this_host_sizes, .ref h_this_host_items, .ref h_this_host_holds, .ref h_this_host_shelfShips, .ref h_this_host_shelfSorts, .ref h_this_host_shelfSizes]), (h_this_host_holds, ia G 4 f_this_host_holds), (h_this_host_shelfShips, ia G 4 f_this_host_shelfShips), (h_this_host_shelfSizes, ia G 4 f_this_host_shelfSizes), (h_this_host_shelfSorts, ia G 4 f_this_host_shelfSorts), (h_this_host_sizes, ia G 4 f_this_host_sizes), (h_this_host_sorts, ia G 4 f_this_host_sorts), (h_this_rock, ob 3 [.ref h_this_rock_kinds, .ref h_this_rock_trims, .ref h_this_rock_lanes, .ref h_this_rock_lights, .ref h_this_rock_currents, .ref h_this_rock_buoys, .ref h_this_rock_now, .ref h_this_rock_rules, .ref h_this_rock_reports, .int x_this_rock_count, .int x_this_rock_end, .int x_this_rock_z])] r [(h_this, ob 8 [.ref h_this_rock, .ref h_this_kept, .ref h_this_trial, .ref h_this_planner, .ref h_this_reader, .ref h_this_draft, .ref h_this_host, .ref h_this_thing, .ref h_this_tape, .ref h_this_rows, .int x_this_tapeCount, .int x_this_rowCount, .int x_this_isKept]), (h_this_host, ob 0 [.ref h_this_host_sorts, .ref h_this_host_sizes, .ref h_this_host_items, .ref h_this_host_holds, .ref h_this_host_shelfShips, .ref h_this_host_shelfSorts, .ref h_this_host_shelfSizes]), (h_this_host_holds, ia G 4 m_this_host_holds), (h_this_host_shelfShips, ia G 4 m_this_host_shelfShips), (h_this_host_shelfSizes, ia G 4 m_this_host_shelfSizes), (h_this_host_shelfSorts, ia G 4 m_this_host_shelfSorts), (h_this_host_sizes, ia G 4 f_this_host_sizes), (h_this_host_sorts, ia G 4 f_this_host_sorts), (h_this_rock, ob 3 [.ref h_this_rock_kinds, .ref h_this_rock_trims, .ref h_this_rock_lanes, .ref h_this_rock_lights, .ref h_this_rock_currents, .ref h_this_rock_buoys, .ref h_this_rock_now, .ref h_this_rock_rules, .ref h_this_rock_reports, .int x_this_rock_count, .int x_this_rock_end, .int x_this_rock_z])] := by
  refine mFi.of (by decide +kernel) (Nat.le_of_ble_eq_true rfl) ?_
  intro p e s m below meth c A C hr hlk h ls hl
  obtain ⟨hx, hb, hml, hown, hts⟩ := id C
  replace hl : lv_has ls 4 [(0, .ref h_this), (1, .int p0), (2, .int p1), (3, .int p2)] := hl
  unfold f_X8_shelf at hf
  refine lv_iload_n hx hb dX8_shelf_0 rfl (lv_at hl 1 rfl) ?_
  replace hf := bd1_inv hf
  obtain ⟨r1, hc2, hf⟩ := hf
  refine r_ciS0 C h (c_X0_hasShelf hc2) ms_X8_318 rfl [] rfl rfl hl.1 rfl (Nat.le_of_ble_eq_true rfl) (rok (by decide)) dX8_shelf_1 (fun H locs h => ?_)
  refine lv_if_ne (tgt := 9) hx hb dX8_shelf_4 rfl (fun c3 => ?_) (fun c3 => ?_)
  · replace hf := ifn c3 hf
    refine lv_iload_n hx hb dX8_shelf_9 rfl (lv_at hl 2 rfl) ?_
    by_cases c4 : p1 = (0 : Int32)
    · replace hf := ifp c4 hf
      refine r_tab (tgt := 36) C dX8_shelf_10 (0 : Int32) c4 (by decide) rfl rfl ?_
      refine lv_aload_n hx hb dX8_shelf_36 rfl (lv_at hl 0 rfl) ?_
      refine r_get C h fk_X8_10 0 rfl rfl dX8_shelf_37 ?_
      refine lv_iload_n hx hb dX8_shelf_40 rfl (lv_at hl 3 rfl) ?_
      replace hf := bd1_inv hf
      obtain ⟨r7, hc8, hf⟩ := hf
      refine r_ciV0 C h (c_X3_has hc8) mv_X8_90 rfl 8 rfl [8] rfl rfl hl.1 rfl (Nat.le_of_ble_eq_true rfl) (rok (by decide)) dX8_shelf_41 (fun H locs h => ?_)
      refine lv_if_eq (tgt := 59) hx hb dX8_shelf_44 rfl (fun c9 => ?_) (fun c9 => ?_)
      · replace hf := ifp c9 hf
        refine lv_iconst (v := (-1 : Int32)) hx hb dX8_shelf_59 rfl ?_
        cases hf
        exact r_iret C h hr hlk rfl dX8_shelf_60
      · replace hf := ifn c9 hf
        refine lv_aload_n hx hb dX8_shelf_47 rfl (lv_at hl 0 rfl) ?_
        refine r_get C h fk_X8_50 0 rfl rfl dX8_shelf_48 ?_
        refine lv_iload_n hx hb dX8_shelf_51 rfl (lv_at hl 1 rfl) ?_
        refine lv_iload_n hx hb dX8_shelf_52 rfl (lv_at hl 3 rfl) ?_
        replace hf := bd3_inv hf
        obtain ⟨r10, g11, g12, hc13, hf⟩ := hf
        refine r_ciV (ws' := [(h_this, ob 8 [.ref h_this_rock, .ref h_this_kept, .ref h_this_trial, .ref h_this_planner, .ref h_this_reader, .ref h_this_draft, .ref h_this_host, .ref h_this_thing, .ref h_this_tape, .ref h_this_rows, .int x_this_tapeCount, .int x_this_rowCount, .int x_this_isKept]), (h_this_host, ob 0 [.ref h_this_host_sorts, .ref h_this_host_sizes, .ref h_this_host_items, .ref h_this_host_holds, .ref h_this_host_shelfShips, .ref h_this_host_shelfSorts, .ref h_this_host_shelfSizes]), (h_this_host_holds, ia G 4 g11), (h_this_host_shelfShips, ia G 4 g12), (h_this_host_shelfSizes, ia G 4 f_this_host_shelfSizes), (h_this_host_shelfSorts, ia G 4 f_this_host_shelfSorts), (h_this_host_sizes, ia G 4 f_this_host_sizes), (h_this_host_sorts, ia G 4 f_this_host_sorts), (h_this_rock, ob 3 [.ref h_this_rock_kinds, .ref h_this_rock_trims, .ref h_this_rock_lanes, .ref h_this_rock_lights, .ref h_this_rock_currents, .ref h_this_rock_buoys, .ref h_this_rock_now, .ref h_this_rock_rules, .ref h_this_rock_reports, .int x_this_rock_count, .int x_this_rock_end, .int x_this_rock_z])]) C h (c_X0_holdShip hc13) mv_X8_321 rfl 1 rfl [1, 2, 3] rfl rfl rfl rfl rfl hl.1 rfl (Nat.le_of_ble_eq_true rfl) (rok (by decide)) dX8_shelf_53 (fun H locs h => ?_)
        refine lv_goto (tgt := 60) hx hb dX8_shelf_56 rfl ?_
        cases hf
        exact r_iret C h hr hlk rfl dX8_shelf_60
    · replace hf := ifn c4 hf
      by_cases c5 : p1 = (1 : Int32)
      · replace hf := ifp c5 hf
        refine r_tab (tgt := 61) C dX8_shelf_10 (1 : Int32) c5 (by decide) rfl rfl ?_
        refine lv_iload_n hx hb dX8_shelf_61 rfl (lv_at hl 3 rfl) ?_
        replace hf := bd1_inv hf
        obtain ⟨r14, hc15, hf⟩ := hf
        refine r_ciS0 C h (c_X0_hasSheet hc15) ms_X8_297 rfl [] rfl rfl hl.1 rfl (Nat.le_of_ble_eq_true rfl) (rok (by decide)) dX8_shelf_62 (fun H locs h => ?_)
        refine lv_if_eq (tgt := 80) hx hb dX8_shelf_65 rfl (fun c16 => ?_) (fun c16 => ?_)
        · replace hf := ifp c16 hf
          refine lv_iconst (v := (-1 : Int32)) hx hb dX8_shelf_80 rfl ?_
          cases hf
          exact r_iret C h hr hlk rfl dX8_shelf_81
        · replace hf := ifn c16 hf
          refine lv_aload_n hx hb dX8_shelf_68 rfl (lv_at hl 0 rfl) ?_
          refine r_get C h fk_X8_50 0 rfl rfl dX8_shelf_69 ?_
          refine lv_iload_n hx hb dX8_shelf_72 rfl (lv_at hl 1 rfl) ?_
          refine lv_iload_n hx hb dX8_shelf_73 rfl (lv_at hl 3 rfl) ?_
          replace hf := bd4_inv hf
          obtain ⟨r17, g18, g19, g20, hc21, hf⟩ := hf
          refine r_ciV (ws' := [(h_this, ob 8 [.ref h_this_rock, .ref h_this_kept, .ref h_this_trial, .ref h_this_planner, .ref h_this_reader, .ref h_this_draft, .ref h_this_host, .ref h_this_thing, .ref h_this_tape, .ref h_this_rows, .int x_this_tapeCount, .int x_this_rowCount, .int x_this_isKept]), (h_this_host, ob 0 [.ref h_this_host_sorts, .ref h_this_host_sizes, .ref h_this_host_items, .ref h_this_host_holds, .ref h_this_host_shelfShips, .ref h_this_host_shelfSorts, .ref h_this_host_shelfSizes]), (h_this_host_holds, ia G 4 g18), (h_this_host_shelfShips, ia G 4 f_this_host_shelfShips), (h_this_host_shelfSizes, ia G 4 g19), (h_this_host_shelfSorts, ia G 4 g20), (h_this_host_sizes, ia G 4 f_this_host_sizes), (h_this_host_sorts, ia G 4 f_this_host_sorts), (h_this_rock, ob 3 [.ref h_this_rock_kinds, .ref h_this_rock_trims, .ref h_this_rock_lanes, .ref h_this_rock_lights, .ref h_this_rock_currents, .ref h_this_rock_buoys, .ref h_this_rock_now, .ref h_this_rock_rules, .ref h_this_rock_reports, .int x_this_rock_count, .int x_this_rock_end, .int x_this_rock_z])]) C h (c_X0_holdRow hc21) mv_X8_324 rfl 1 rfl [1, 2, 4, 5, 6, 7] rfl rfl rfl rfl rfl hl.1 rfl (Nat.le_of_ble_eq_true rfl) (rok (by decide)) dX8_shelf_74 (fun H locs h => ?_)
          refine lv_goto (tgt := 81) hx hb dX8_shelf_77 rfl ?_
          cases hf
          exact r_iret C h hr hlk rfl dX8_shelf_81
      · replace hf := ifn c5 hf
        by_cases c6 : p1 = (2 : Int32)
        · replace hf := ifp c6 hf
          refine r_tab (tgt := 82) C dX8_shelf_10 (2 : Int32) c6 (by decide) rfl rfl ?_
          refine lv_aload_n hx hb dX8_shelf_82 rfl (lv_at hl 0 rfl) ?_
          refine r_get C h fk_X8_50 0 rfl rfl dX8_shelf_83 ?_
          refine lv_iload_n hx hb dX8_shelf_86 rfl (lv_at hl 1 rfl) ?_
          replace hf := bd2_inv hf
          obtain ⟨r22, g23, hc24, hf⟩ := hf
          refine r_ciV (ws' := [(h_this, ob 8 [.ref h_this_rock, .ref h_this_kept, .ref h_this_trial, .ref h_this_planner, .ref h_this_reader, .ref h_this_draft, .ref h_this_host, .ref h_this_thing, .ref h_this_tape, .ref h_this_rows, .int x_this_tapeCount, .int x_this_rowCount, .int x_this_isKept]), (h_this_host, ob 0 [.ref h_this_host_sorts, .ref h_this_host_sizes, .ref h_this_host_items, .ref h_this_host_holds, .ref h_this_host_shelfShips, .ref h_this_host_shelfSorts, .ref h_this_host_shelfSizes]), (h_this_host_holds, ia G 4 g23), (h_this_host_shelfShips, ia G 4 f_this_host_shelfShips), (h_this_host_shelfSizes, ia G 4 f_this_host_shelfSizes), (h_this_host_shelfSorts, ia G 4 f_this_host_shelfSorts), (h_this_host_sizes, ia G 4 f_this_host_sizes), (h_this_host_sorts, ia G 4 f_this_host_sorts), (h_this_rock, ob 3 [.ref h_this_rock_kinds, .ref h_this_rock_trims, .ref h_this_rock_lanes, .ref h_this_rock_lights, .ref h_this_rock_currents, .ref h_this_rock_buoys, .ref h_this_rock_now, .ref h_this_rock_rules, .ref h_this_rock_reports, .int x_this_rock_count, .int x_this_rock_end, .int x_this_rock_z])]) C h (c_X0_holdNothing hc24) mv_X8_327 rfl 1 rfl [1, 2] rfl rfl rfl rfl rfl hl.1 rfl (Nat.le_of_ble_eq_true rfl) (rok (by decide)) dX8_shelf_87 (fun H locs h => ?_)
          cases hf
          exact r_iret C h hr hlk rfl dX8_shelf_90
        · replace hf := ifn c6 hf
          refine r_tabD (tgt := 91) C dX8_shelf_10 [(0 : Int32), (1 : Int32), (2 : Int32)] (by decide) (nel_c c4 (nel_c c5 (nel_c c6 nel_0))) rfl ?_
          refine lv_iconst (v := (-1 : Int32)) hx hb dX8_shelf_91 rfl ?_
          cases hf
          exact r_iret C h hr hlk rfl dX8_shelf_92
  · replace hf := ifp c3 hf
    refine lv_iconst (v := (-1 : Int32)) hx hb dX8_shelf_7 rfl ?_
    cases hf
    exact r_iret C h hr hlk rfl dX8_shelf_8
def f_X0_holdsRow (p0 : Int32) (f_this_holds : Nat → Int32) : Option (Int32) := chkI p0 4 ((if (f_this_holds p0.toNatClampNeg) = (2 : Int32) then some (1 : Int32) else some (0 : Int32)))
set_option maxRecDepth 100000 in
set_option maxHeartbeats 4000000 in
theorem c_X0_holdsRow {l : Launch} {G : Gt} {h_this h_this_sorts h_this_sizes h_this_items h_this_holds h_this_shelfShips h_this_shelfSorts h_this_shelfSizes : Nat} {p0 : Int32} {f_this_holds : Nat → Int32} {r : Int32} (hf : f_X0_holdsRow p0 f_this_holds = some r) : mFi l G yX0_holdsRow cX0_holdsRow 2 .boolean 0 [.ref h_this, .int p0] [(h_this, ob 0 [.ref h_this_sorts, .ref h_this_sizes, .ref h_this_items, .ref h_this_holds, .ref h_this_shelfShips, .ref h_this_shelfSorts, .ref h_this_shelfSizes]), (h_this_holds, ia G 4 f_this_holds)] r [(h_this, ob 0 [.ref h_this_sorts, .ref h_this_sizes, .ref h_this_items, .ref h_this_holds, .ref h_this_shelfShips, .ref h_this_shelfSorts, .ref h_this_shelfSizes]), (h_this_holds, ia G 4 f_this_holds)] := by
  refine mFi.of (by decide +kernel) (Nat.le_of_ble_eq_true rfl) ?_
  intro p e s m below meth c A C hr hlk h ls hl
  obtain ⟨hx, hb, hml, hown, hts⟩ := id C
  replace hl : lv_has ls 2 [(0, .ref h_this), (1, .int p0)] := hl
  unfold f_X0_holdsRow at hf
  refine lv_aload_n hx hb dX0_holdsRow_0 rfl (lv_at hl 0 rfl) ?_
  refine r_get C h fk_X0_21 0 rfl rfl dX0_holdsRow_1 ?_
  refine lv_iload_n hx hb dX0_holdsRow_4 rfl (lv_at hl 1 rfl) ?_
  replace hf := chkI_inv hf
  obtain ⟨hi1, hf⟩ := hf
  refine r_iald C h 1 rfl hi1 dX0_holdsRow_5 ?_
  refine lv_iconst (v := (2 : Int32)) hx hb dX0_holdsRow_6 rfl ?_
  refine lv_icmp_ne (tgt := 14) hx hb dX0_holdsRow_7 rfl (fun c2 => ?_) (fun c2 => ?_)
  · replace hf := ifn c2 hf
    refine lv_iconst (v := (0 : Int32)) hx hb dX0_holdsRow_14 rfl ?_
    cases hf
    exact r_iret C h hr hlk rfl dX0_holdsRow_15
  · replace hf := ifp c2 hf
    refine lv_iconst (v := (1 : Int32)) hx hb dX0_holdsRow_10 rfl ?_
    refine lv_goto (tgt := 15) hx hb dX0_holdsRow_11 rfl ?_
    cases hf
    exact r_iret C h hr hlk rfl dX0_holdsRow_15
def f_X0_sortOn (p0 : Int32) (f_this_shelfSorts : Nat → Int32) : Option (Int32) := chkI p0 4 (some (f_this_shelfSorts p0.toNatClampNeg))
set_option maxRecDepth 100000 in
set_option maxHeartbeats 4000000 in
theorem c_X0_sortOn {l : Launch} {G : Gt} {h_this h_this_sorts h_this_sizes h_this_items h_this_holds h_this_shelfShips h_this_shelfSorts h_this_shelfSizes : Nat} {p0 : Int32} {f_this_shelfSorts : Nat → Int32} {r : Int32} (hf : f_X0_sortOn p0 f_this_shelfSorts = some r) : mFi l G yX0_sortOn cX0_sortOn 2 .int 0 [.ref h_this, .int p0] [(h_this, ob 0 [.ref h_this_sorts, .ref h_this_sizes, .ref h_this_items, .ref h_this_holds, .ref h_this_shelfShips, .ref h_this_shelfSorts, .ref h_this_shelfSizes]), (h_this_shelfSorts, ia G 4 f_this_shelfSorts)] r [(h_this, ob 0 [.ref h_this_sorts, .ref h_this_sizes, .ref h_this_items, .ref h_this_holds, .ref h_this_shelfShips, .ref h_this_shelfSorts, .ref h_this_shelfSizes]), (h_this_shelfSorts, ia G 4 f_this_shelfSorts)] := by
  refine mFi.of (by decide +kernel) (Nat.le_of_ble_eq_true rfl) ?_
  intro p e s m below meth c A C hr hlk h ls hl
  obtain ⟨hx, hb, hml, hown, hts⟩ := id C
  replace hl : lv_has ls 2 [(0, .ref h_this), (1, .int p0)] := hl
  unfold f_X0_sortOn at hf
  refine lv_aload_n hx hb dX0_sortOn_0 rfl (lv_at hl 0 rfl) ?_
  refine r_get C h fk_X0_27 0 rfl rfl dX0_sortOn_1 ?_
  refine lv_iload_n hx hb dX0_sortOn_4 rfl (lv_at hl 1 rfl) ?_
  replace hf := chkI_inv hf
  obtain ⟨hi1, hf⟩ := hf
  refine r_iald C h 1 rfl hi1 dX0_sortOn_5 ?_
  cases hf
  exact r_iret C h hr hlk rfl dX0_sortOn_6
def f_X0_sizeOn (p0 : Int32) (f_this_shelfSizes : Nat → Int32) : Option (Int32) := chkI p0 4 (some (f_this_shelfSizes p0.toNatClampNeg))
set_option maxRecDepth 100000 in
set_option maxHeartbeats 4000000 in
theorem c_X0_sizeOn {l : Launch} {G : Gt} {h_this h_this_sorts h_this_sizes h_this_items h_this_holds h_this_shelfShips h_this_shelfSorts h_this_shelfSizes : Nat} {p0 : Int32} {f_this_shelfSizes : Nat → Int32} {r : Int32} (hf : f_X0_sizeOn p0 f_this_shelfSizes = some r) : mFi l G yX0_sizeOn cX0_sizeOn 2 .int 0 [.ref h_this, .int p0] [(h_this, ob 0 [.ref h_this_sorts, .ref h_this_sizes, .ref h_this_items, .ref h_this_holds, .ref h_this_shelfShips, .ref h_this_shelfSorts, .ref h_this_shelfSizes]), (h_this_shelfSizes, ia G 4 f_this_shelfSizes)] r [(h_this, ob 0 [.ref h_this_sorts, .ref h_this_sizes, .ref h_this_items, .ref h_this_holds, .ref h_this_shelfShips, .ref h_this_shelfSorts, .ref h_this_shelfSizes]), (h_this_shelfSizes, ia G 4 f_this_shelfSizes)] := by
  refine mFi.of (by decide +kernel) (Nat.le_of_ble_eq_true rfl) ?_
  intro p e s m below meth c A C hr hlk h ls hl
  obtain ⟨hx, hb, hml, hown, hts⟩ := id C
  replace hl : lv_has ls 2 [(0, .ref h_this), (1, .int p0)] := hl
  unfold f_X0_sizeOn at hf
  refine lv_aload_n hx hb dX0_sizeOn_0 rfl (lv_at hl 0 rfl) ?_
  refine r_get C h fk_X0_30 0 rfl rfl dX0_sizeOn_1 ?_
  refine lv_iload_n hx hb dX0_sizeOn_4 rfl (lv_at hl 1 rfl) ?_
  replace hf := chkI_inv hf
  obtain ⟨hi1, hf⟩ := hf
  refine r_iald C h 1 rfl hi1 dX0_sizeOn_5 ?_
  cases hf
  exact r_iret C h hr hlk rfl dX0_sizeOn_6
def f_X0_shipOn (p0 : Int32) (f_this_holds : Nat → Int32) (f_this_shelfShips : Nat → Int32) : Option (Int32) := chkI p0 4 ((if (f_this_holds p0.toNatClampNeg) = (1 : Int32) then chkI p0 4 (some (f_this_shelfShips p0.toNatClampNeg)) else some (-3 : Int32)))
set_option maxRecDepth 100000 in
set_option maxHeartbeats 4000000 in
theorem c_X0_shipOn {l : Launch} {G : Gt} {h_this h_this_sorts h_this_sizes h_this_items h_this_holds h_this_shelfShips h_this_shelfSorts h_this_shelfSizes : Nat} {p0 : Int32} {f_this_holds : Nat → Int32} {f_this_shelfShips : Nat → Int32} {r : Int32} (hf : f_X0_shipOn p0 f_this_holds f_this_shelfShips = some r) : mFi l G yX0_shipOn cX0_shipOn 2 .int 0 [.ref h_this, .int p0] [(h_this, ob 0 [.ref h_this_sorts, .ref h_this_sizes, .ref h_this_items, .ref h_this_holds, .ref h_this_shelfShips, .ref h_this_shelfSorts, .ref h_this_shelfSizes]), (h_this_holds, ia G 4 f_this_holds), (h_this_shelfShips, ia G 4 f_this_shelfShips)] r [(h_this, ob 0 [.ref h_this_sorts, .ref h_this_sizes, .ref h_this_items, .ref h_this_holds, .ref h_this_shelfShips, .ref h_this_shelfSorts, .ref h_this_shelfSizes]), (h_this_holds, ia G 4 f_this_holds), (h_this_shelfShips, ia G 4 f_this_shelfShips)] := by
  refine mFi.of (by decide +kernel) (Nat.le_of_ble_eq_true rfl) ?_
  intro p e s m below meth c A C hr hlk h ls hl
  obtain ⟨hx, hb, hml, hown, hts⟩ := id C
  replace hl : lv_has ls 2 [(0, .ref h_this), (1, .int p0)] := hl
  unfold f_X0_shipOn at hf
  refine lv_aload_n hx hb dX0_shipOn_0 rfl (lv_at hl 0 rfl) ?_
  refine r_get C h fk_X0_21 0 rfl rfl dX0_shipOn_1 ?_
  refine lv_iload_n hx hb dX0_shipOn_4 rfl (lv_at hl 1 rfl) ?_
  replace hf := chkI_inv hf
  obtain ⟨hi1, hf⟩ := hf
  refine r_iald C h 1 rfl hi1 dX0_shipOn_5 ?_
  refine lv_iconst (v := (1 : Int32)) hx hb dX0_shipOn_6 rfl ?_
  refine lv_icmp_ne (tgt := 19) hx hb dX0_shipOn_7 rfl (fun c2 => ?_) (fun c2 => ?_)
  · replace hf := ifn c2 hf
    refine lv_bipush (v := (-3 : Int32)) hx hb dX0_shipOn_19 rfl ?_
    cases hf
    exact r_iret C h hr hlk rfl dX0_shipOn_21
  · replace hf := ifp c2 hf
    refine lv_aload_n hx hb dX0_shipOn_10 rfl (lv_at hl 0 rfl) ?_
    refine r_get C h fk_X0_24 0 rfl rfl dX0_shipOn_11 ?_
    refine lv_iload_n hx hb dX0_shipOn_14 rfl (lv_at hl 1 rfl) ?_
    replace hf := chkI_inv hf
    obtain ⟨hi3, hf⟩ := hf
    refine r_iald C h 2 rfl hi3 dX0_shipOn_15 ?_
    refine lv_goto (tgt := 21) hx hb dX0_shipOn_16 rfl ?_
    cases hf
    exact r_iret C h hr hlk rfl dX0_shipOn_21
def f_X8_taken_b29 (p0 : Int32) (p1 : Int32) (f_this_host_holds : Nat → Int32) (f_this_host_shelfShips : Nat → Int32) (f_this_host_shelfSizes : Nat → Int32) (f_this_host_shelfSorts : Nat → Int32) (x_this_rock_count : Int32) (f_this_rock_kinds : Nat → Int32) : Option (Int32) := bd1 (f_X0_holdsRow p0 f_this_host_holds) (fun r7 => (if r7 = 0 then bd1 (f_X0_shipOn p0 f_this_host_holds f_this_host_shelfShips) (fun r10 => bd1 (f_X3_has r10 x_this_rock_count) (fun r12 => (if r12 = 0 then some (-11 : Int32) else (if (10 : Int32) ≤ p1 then some (-13 : Int32) else chkI r10 6 (bd1 (f_X8_isOrUnder (f_this_rock_kinds r10.toNatClampNeg) p1) (fun r17 => (if r17 = 0 then some (-13 : Int32) else some r10))))))) else bd1 (f_X0_sortOn p0 f_this_host_shelfSorts) (fun r20 => (if r20 = (p1 - (10 : Int32)) then bd1 (f_X0_sizeOn p0 f_this_host_shelfSizes) (fun r23 => some r23) else some (-13 : Int32)))))
def f_X8_taken (p0 : Int32) (p1 : Int32) (f_this_host_holds : Nat → Int32) (f_this_host_shelfShips : Nat → Int32) (f_this_host_shelfSizes : Nat → Int32) (f_this_host_shelfSorts : Nat → Int32) (x_this_rock_count : Int32) (f_this_rock_kinds : Nat → Int32) : Option (Int32) := bd1 (f_X0_hasShelf p0) (fun r1 => (if r1 = 0 then some (-1 : Int32) else bd1 (f_X8_within p1 (0 : Int32) (5 : Int32)) (fun r4 => (if r4 = 0 then bd1 (f_X8_within p1 (10 : Int32) (14 : Int32)) (fun r25 => (if r25 = 0 then some (-1 : Int32) else f_X8_taken_b29 p0 p1 f_this_host_holds f_this_host_shelfShips f_this_host_shelfSizes f_this_host_shelfSorts x_this_rock_count f_this_rock_kinds)) else f_X8_taken_b29 p0 p1 f_this_host_holds f_this_host_shelfShips f_this_host_shelfSizes f_this_host_shelfSorts x_this_rock_count f_this_rock_kinds))))
set_option maxRecDepth 100000 in
set_option maxHeartbeats 4000000 in
theorem c_X8_taken {l : Launch} {G : Gt} {h_this h_this_rock h_this_kept h_this_trial h_this_planner h_this_reader h_this_draft h_this_host h_this_thing h_this_tape h_this_rows h_this_host_sorts h_this_host_sizes h_this_host_items h_this_host_holds h_this_host_shelfShips h_this_host_shelfSorts h_this_host_shelfSizes h_this_rock_kinds h_this_rock_trims h_this_rock_lanes h_this_rock_lights h_this_rock_currents h_this_rock_buoys h_this_rock_now h_this_rock_rules h_this_rock_reports : Nat} {p0 : Int32} {p1 : Int32} {x_this_tapeCount : Int32} {x_this_rowCount : Int32} {x_this_isKept : Int32} {f_this_host_holds : Nat → Int32} {f_this_host_shelfShips : Nat → Int32} {f_this_host_shelfSizes : Nat → Int32} {f_this_host_shelfSorts : Nat → Int32} {x_this_rock_count : Int32} {x_this_rock_end : Int32} {x_this_rock_z : Int32} {f_this_rock_kinds : Nat → Int32} {r : Int32} (hf : f_X8_taken p0 p1 f_this_host_holds f_this_host_shelfShips f_this_host_shelfSizes f_this_host_shelfSorts x_this_rock_count f_this_rock_kinds = some r) : mFi l G yX8_taken cX8_taken 4 .int 1 [.ref h_this, .int p0, .int p1] [(h_this, ob 8 [.ref h_this_rock, .ref h_this_kept, .ref h_this_trial, .ref h_this_planner, .ref h_this_reader, .ref h_this_draft, .ref h_this_host, .ref h_this_thing, .ref h_this_tape, .ref h_this_rows, .int x_this_tapeCount, .int x_this_rowCount, .int x_this_isKept]), (h_this_host, ob 0 [.ref h_this_host_sorts, .ref h_this_host_sizes, .ref h_this_host_items, .ref h_this_host_holds, .ref h_this_host_shelfShips, .ref h_this_host_shelfSorts, .ref h_this_host_shelfSizes]), (h_this_host_holds, ia G 4 f_this_host_holds), (h_this_host_shelfShips, ia G 4 f_this_host_shelfShips), (h_this_host_shelfSizes, ia G 4 f_this_host_shelfSizes), (h_this_host_shelfSorts, ia G 4 f_this_host_shelfSorts), (h_this_rock, ob 3 [.ref h_this_rock_kinds, .ref h_this_rock_trims, .ref h_this_rock_lanes, .ref h_this_rock_lights, .ref h_this_rock_currents, .ref h_this_rock_buoys, .ref h_this_rock_now, .ref h_this_rock_rules, .ref h_this_rock_reports, .int x_this_rock_count, .int x_this_rock_end, .int x_this_rock_z]), (h_this_rock_kinds, ia G 6 f_this_rock_kinds)] r [(h_this, ob 8 [.ref h_this_rock, .ref h_this_kept, .ref h_this_trial, .ref h_this_planner, .ref h_this_reader, .ref h_this_draft, .ref h_this_host, .ref h_this_thing, .ref h_this_tape, .ref h_this_rows, .int x_this_tapeCount, .int x_this_rowCount, .int x_this_isKept]), (h_this_host, ob 0 [.ref h_this_host_sorts, .ref h_this_host_sizes, .ref h_this_host_items, .ref h_this_host_holds, .ref h_this_host_shelfShips, .ref h_this_host_shelfSorts, .ref h_this_host_shelfSizes]), (h_this_host_holds, ia G 4 f_this_host_holds), (h_this_host_shelfShips, ia G 4 f_this_host_shelfShips), (h_this_host_shelfSizes, ia G 4 f_this_host_shelfSizes), (h_this_host_shelfSorts, ia G 4 f_this_host_shelfSorts), (h_this_rock, ob 3 [.ref h_this_rock_kinds, .ref h_this_rock_trims, .ref h_this_rock_lanes, .ref h_this_rock_lights, .ref h_this_rock_currents, .ref h_this_rock_buoys, .ref h_this_rock_now, .ref h_this_rock_rules, .ref h_this_rock_reports, .int x_this_rock_count, .int x_this_rock_end, .int x_this_rock_z]), (h_this_rock_kinds, ia G 6 f_this_rock_kinds)] := by
  refine mFi.of (by decide +kernel) (Nat.le_of_ble_eq_true rfl) ?_
  intro p e s m below meth c A C hr hlk h ls hl
  obtain ⟨hx, hb, hml, hown, hts⟩ := id C
  replace hl : lv_has ls 4 [(0, .ref h_this), (1, .int p0), (2, .int p1)] := hl
  unfold f_X8_taken at hf
  refine with_K G A 4 (fun K hK1 hK2 => ?_)
  have B29 : f_X8_taken_b29 p0 p1 f_this_host_holds f_this_host_shelfShips f_this_host_shelfSizes f_this_host_shelfSorts x_this_rock_count f_this_rock_kinds = some r → K 29 ([] : List Value) [(h_this, ob 8 [.ref h_this_rock, .ref h_this_kept, .ref h_this_trial, .ref h_this_planner, .ref h_this_reader, .ref h_this_draft, .ref h_this_host, .ref h_this_thing, .ref h_this_tape, .ref h_this_rows, .int x_this_tapeCount, .int x_this_rowCount, .int x_this_isKept]), (h_this_host, ob 0 [.ref h_this_host_sorts, .ref h_this_host_sizes, .ref h_this_host_items, .ref h_this_host_holds, .ref h_this_host_shelfShips, .ref h_this_host_shelfSorts, .ref h_this_host_shelfSizes]), (h_this_host_holds, ia G 4 f_this_host_holds), (h_this_host_shelfShips, ia G 4 f_this_host_shelfShips), (h_this_host_shelfSizes, ia G 4 f_this_host_shelfSizes), (h_this_host_shelfSorts, ia G 4 f_this_host_shelfSorts), (h_this_rock, ob 3 [.ref h_this_rock_kinds, .ref h_this_rock_trims, .ref h_this_rock_lanes, .ref h_this_rock_lights, .ref h_this_rock_currents, .ref h_this_rock_buoys, .ref h_this_rock_now, .ref h_this_rock_rules, .ref h_this_rock_reports, .int x_this_rock_count, .int x_this_rock_end, .int x_this_rock_z]), (h_this_rock_kinds, ia G 6 f_this_rock_kinds)] [(0, .ref h_this), (1, .int p0), (2, .int p1)] := by
    intro hf
    unfold f_X8_taken_b29 at hf
    refine hK1 _ _ _ _ (fun H locs ls h hl => ?_)
    refine lv_aload_n hx hb dX8_taken_29 rfl (lv_at hl 0 rfl) ?_
    refine r_get C h fk_X8_50 0 rfl rfl dX8_taken_30 ?_
    refine lv_iload_n hx hb dX8_taken_33 rfl (lv_at hl 1 rfl) ?_
    replace hf := bd1_inv hf
    obtain ⟨r7, hc8, hf⟩ := hf
    refine r_ciV0 C h (c_X0_holdsRow hc8) mv_X8_330 rfl 1 rfl [1, 2] rfl rfl hl.1 rfl (Nat.le_of_ble_eq_true rfl) (rok (by decide)) dX8_taken_34 (fun H locs h => ?_)
    refine lv_if_eq (tgt := 69) hx hb dX8_taken_37 rfl (fun c9 => ?_) (fun c9 => ?_)
    · replace hf := ifp c9 hf
      refine lv_aload_n hx hb dX8_taken_69 rfl (lv_at hl 0 rfl) ?_
      refine r_get C h fk_X8_50 0 rfl rfl dX8_taken_70 ?_
      refine lv_iload_n hx hb dX8_taken_73 rfl (lv_at hl 1 rfl) ?_
      replace hf := bd1_inv hf
      obtain ⟨r10, hc11, hf⟩ := hf
      refine r_ciV0 C h (c_X0_shipOn hc11) mv_X8_339 rfl 1 rfl [1, 2, 3] rfl rfl hl.1 rfl (Nat.le_of_ble_eq_true rfl) (rok (by decide)) dX8_taken_74 (fun H locs h => ?_)
      refine lv_istore_n (lv' := [(3, .int r10), (0, .ref h_this), (1, .int p0), (2, .int p1)]) hx hb dX8_taken_77 rfl hl (by decide) rfl (fun ls hl => ?_)
      refine lv_aload_n hx hb dX8_taken_78 rfl (lv_at hl 1 rfl) ?_
      refine r_get C h fk_X8_10 0 rfl rfl dX8_taken_79 ?_
      refine lv_iload_n hx hb dX8_taken_82 rfl (lv_at hl 0 rfl) ?_
      replace hf := bd1_inv hf
      obtain ⟨r12, hc13, hf⟩ := hf
      refine r_ciV0 C h (c_X3_has hc13) mv_X8_90 rfl 6 rfl [6] rfl rfl hl.1 rfl (Nat.le_of_ble_eq_true rfl) (rok (by decide)) dX8_taken_83 (fun H locs h => ?_)
      refine lv_if_ne (tgt := 92) hx hb dX8_taken_86 rfl (fun c14 => ?_) (fun c14 => ?_)
      · replace hf := ifn c14 hf
        refine lv_iload_n hx hb dX8_taken_92 rfl (lv_at hl 3 rfl) ?_
        refine lv_bipush (v := (10 : Int32)) hx hb dX8_taken_93 rfl ?_
        refine lv_icmp_ge (tgt := 118) hx hb dX8_taken_95 rfl (fun c15 => ?_) (fun c15 => ?_)
        · replace hf := ifp c15 hf
          refine lv_bipush (v := (-13 : Int32)) hx hb dX8_taken_118 rfl ?_
          cases hf
          exact r_iret C h hr hlk rfl dX8_taken_120
        · replace hf := ifn c15 hf
          refine lv_aload_n hx hb dX8_taken_98 rfl (lv_at hl 1 rfl) ?_
          refine r_get C h fk_X8_10 0 rfl rfl dX8_taken_99 ?_
          refine r_get C h fk_X8_97 6 rfl rfl dX8_taken_102 ?_
          refine lv_iload_n hx hb dX8_taken_105 rfl (lv_at hl 0 rfl) ?_
          replace hf := chkI_inv hf
          obtain ⟨hi16, hf⟩ := hf
          refine r_iald C h 7 rfl hi16 dX8_taken_106 ?_
          refine lv_iload_n hx hb dX8_taken_107 rfl (lv_at hl 3 rfl) ?_
          replace hf := bd1_inv hf
          obtain ⟨r17, hc18, hf⟩ := hf
          refine r_ciS0 C h (c_X8_isOrUnder hc18) ms_X8_342 rfl [] rfl rfl hl.1 rfl (Nat.le_of_ble_eq_true rfl) (rok (by decide)) dX8_taken_108 (fun H locs h => ?_)
          refine lv_if_eq (tgt := 118) hx hb dX8_taken_111 rfl (fun c19 => ?_) (fun c19 => ?_)
          · replace hf := ifp c19 hf
            refine lv_bipush (v := (-13 : Int32)) hx hb dX8_taken_118 rfl ?_
            cases hf
            exact r_iret C h hr hlk rfl dX8_taken_120
          · replace hf := ifn c19 hf
            refine lv_iload_n hx hb dX8_taken_114 rfl (lv_at hl 0 rfl) ?_
            refine lv_goto (tgt := 120) hx hb dX8_taken_115 rfl ?_
            cases hf
            exact r_iret C h hr hlk rfl dX8_taken_120
      · replace hf := ifp c14 hf
        refine lv_bipush (v := (-11 : Int32)) hx hb dX8_taken_89 rfl ?_
        cases hf
        exact r_iret C h hr hlk rfl dX8_taken_91
    · replace hf := ifn c9 hf
      refine lv_aload_n hx hb dX8_taken_40 rfl (lv_at hl 0 rfl) ?_
      refine r_get C h fk_X8_50 0 rfl rfl dX8_taken_41 ?_
      refine lv_iload_n hx hb dX8_taken_44 rfl (lv_at hl 1 rfl) ?_
      replace hf := bd1_inv hf
      obtain ⟨r20, hc21, hf⟩ := hf
      refine r_ciV0 C h (c_X0_sortOn hc21) mv_X8_333 rfl 1 rfl [1, 5] rfl rfl hl.1 rfl (Nat.le_of_ble_eq_true rfl) (rok (by decide)) dX8_taken_45 (fun H locs h => ?_)
      refine lv_iload_n hx hb dX8_taken_48 rfl (lv_at hl 2 rfl) ?_
      refine lv_bipush (v := (10 : Int32)) hx hb dX8_taken_49 rfl ?_
      refine lv_isub hx hb dX8_taken_51 ?_
      refine lv_icmp_ne (tgt := 66) hx hb dX8_taken_52 rfl (fun c22 => ?_) (fun c22 => ?_)
      · replace hf := ifn c22 hf
        refine lv_bipush (v := (-13 : Int32)) hx hb dX8_taken_66 rfl ?_
        cases hf
        exact r_iret C h hr hlk rfl dX8_taken_68
      · replace hf := ifp c22 hf
        refine lv_aload_n hx hb dX8_taken_55 rfl (lv_at hl 0 rfl) ?_
        refine r_get C h fk_X8_50 0 rfl rfl dX8_taken_56 ?_
        refine lv_iload_n hx hb dX8_taken_59 rfl (lv_at hl 1 rfl) ?_
        replace hf := bd1_inv hf
        obtain ⟨r23, hc24, hf⟩ := hf
        refine r_ciV0 C h (c_X0_sizeOn hc24) mv_X8_336 rfl 1 rfl [1, 4] rfl rfl hl.1 rfl (Nat.le_of_ble_eq_true rfl) (rok (by decide)) dX8_taken_60 (fun H locs h => ?_)
        refine lv_goto (tgt := 68) hx hb dX8_taken_63 rfl ?_
        cases hf
        exact r_iret C h hr hlk rfl dX8_taken_68
  refine lv_iload_n hx hb dX8_taken_0 rfl (lv_at hl 1 rfl) ?_
  replace hf := bd1_inv hf
  obtain ⟨r1, hc2, hf⟩ := hf
  refine r_ciS0 C h (c_X0_hasShelf hc2) ms_X8_318 rfl [] rfl rfl hl.1 rfl (Nat.le_of_ble_eq_true rfl) (rok (by decide)) dX8_taken_1 (fun H locs h => ?_)
  refine lv_if_eq (tgt := 27) hx hb dX8_taken_4 rfl (fun c3 => ?_) (fun c3 => ?_)
  · replace hf := ifp c3 hf
    refine lv_iconst (v := (-1 : Int32)) hx hb dX8_taken_27 rfl ?_
    cases hf
    exact r_iret C h hr hlk rfl dX8_taken_28
  · replace hf := ifn c3 hf
    refine lv_iload_n hx hb dX8_taken_7 rfl (lv_at hl 2 rfl) ?_
    refine lv_iconst (v := (0 : Int32)) hx hb dX8_taken_8 rfl ?_
    refine lv_iconst (v := (5 : Int32)) hx hb dX8_taken_9 rfl ?_
    replace hf := bd1_inv hf
    obtain ⟨r4, hc5, hf⟩ := hf
    refine r_ciS0 C h (c_X8_within hc5) ms_X8_79 rfl [] rfl rfl hl.1 rfl (Nat.le_of_ble_eq_true rfl) (rok (by decide)) dX8_taken_10 (fun H locs h => ?_)
    refine lv_if_ne (tgt := 29) hx hb dX8_taken_13 rfl (fun c6 => ?_) (fun c6 => ?_)
    · replace hf := ifn c6 hf
      exact hK2 _ _ _ _ (B29 hf) _ _ _ h (lv_sub hl [0, 1, 2] rfl)
    · replace hf := ifp c6 hf
      refine lv_iload_n hx hb dX8_taken_16 rfl (lv_at hl 2 rfl) ?_
      refine lv_bipush (v := (10 : Int32)) hx hb dX8_taken_17 rfl ?_
      refine lv_bipush (v := (14 : Int32)) hx hb dX8_taken_19 rfl ?_
      replace hf := bd1_inv hf
      obtain ⟨r25, hc26, hf⟩ := hf
      refine r_ciS0 C h (c_X8_within hc26) ms_X8_79 rfl [] rfl rfl hl.1 rfl (Nat.le_of_ble_eq_true rfl) (rok (by decide)) dX8_taken_21 (fun H locs h => ?_)
      refine lv_if_ne (tgt := 29) hx hb dX8_taken_24 rfl (fun c27 => ?_) (fun c27 => ?_)
      · replace hf := ifn c27 hf
        exact hK2 _ _ _ _ (B29 hf) _ _ _ h (lv_sub hl [0, 1, 2] rfl)
      · replace hf := ifp c27 hf
        refine lv_iconst (v := (-1 : Int32)) hx hb dX8_taken_27 rfl ?_
        cases hf
        exact r_iret C h hr hlk rfl dX8_taken_28
def f_X7_forgetTrace : Option (Int32 × Int32) := some ((0 : Int32), (0 : Int32))
set_option maxRecDepth 100000 in
set_option maxHeartbeats 4000000 in
theorem c_X7_forgetTrace {l : Launch} {G : Gt} {h_this h_this_bodies : Nat} {x_this_traceCount : Int32} {x_this_parted : Int32} {x_this_kind : Int32} {x_this_n : Int32} {x_this_a : Int32} {m_this_traceCount : Int32} {m_this_parted : Int32} (hf : f_X7_forgetTrace = some (m_this_traceCount, m_this_parted)) : mFv l G yX7_forgetTrace cX7_forgetTrace 1 0 [.ref h_this] [(h_this, ob 7 [.ref h_this_bodies, .int x_this_traceCount, .int x_this_parted, .int x_this_kind, .int x_this_n, .int x_this_a])] [(h_this, ob 7 [.ref h_this_bodies, .int m_this_traceCount, .int m_this_parted, .int x_this_kind, .int x_this_n, .int x_this_a])] := by
  refine mFv.of (by decide +kernel) (Nat.le_of_ble_eq_true rfl) ?_
  intro p e s m below meth c A C hr hlk h ls hl
  obtain ⟨hx, hb, hml, hown, hts⟩ := id C
  replace hl : lv_has ls 1 [(0, .ref h_this)] := hl
  unfold f_X7_forgetTrace at hf
  refine lv_aload_n hx hb dX7_forgetTrace_0 rfl (lv_at hl 0 rfl) ?_
  refine lv_iconst (v := (0 : Int32)) hx hb dX7_forgetTrace_1 rfl ?_
  refine r_put (ws' := [(h_this, ob 7 [.ref h_this_bodies, .int (0 : Int32), .int x_this_parted, .int x_this_kind, .int x_this_n, .int x_this_a])]) C h fw_X7_15 0 rfl rfl rfl (Nat.le_of_ble_eq_true rfl) dX7_forgetTrace_2 rfl (fun H locs h => ?_)
  refine lv_aload_n hx hb dX7_forgetTrace_5 rfl (lv_at hl 0 rfl) ?_
  refine lv_iconst (v := (0 : Int32)) hx hb dX7_forgetTrace_6 rfl ?_
  refine r_put (ws' := [(h_this, ob 7 [.ref h_this_bodies, .int (0 : Int32), .int (0 : Int32), .int x_this_kind, .int x_this_n, .int x_this_a])]) C h fw_X7_19 0 rfl rfl rfl (Nat.le_of_ble_eq_true rfl) dX7_forgetTrace_7 rfl (fun H locs h => ?_)
  cases hf
  exact r_vret C h hr hlk dX7_forgetTrace_10
def f_X7_stand (p0 : Int32) (p1 : Int32) (p2 : Int32) : Option (Int32 × Int32 × Int32) := some (p0, p1, p2)
set_option maxRecDepth 100000 in
set_option maxHeartbeats 4000000 in
theorem c_X7_stand {l : Launch} {G : Gt} {h_this h_this_bodies : Nat} {p0 : Int32} {p1 : Int32} {p2 : Int32} {x_this_traceCount : Int32} {x_this_parted : Int32} {x_this_kind : Int32} {x_this_n : Int32} {x_this_a : Int32} {m_this_kind : Int32} {m_this_n : Int32} {m_this_a : Int32} (hf : f_X7_stand p0 p1 p2 = some (m_this_kind, m_this_n, m_this_a)) : mFv l G yX7_stand cX7_stand 4 0 [.ref h_this, .int p0, .int p1, .int p2] [(h_this, ob 7 [.ref h_this_bodies, .int x_this_traceCount, .int x_this_parted, .int x_this_kind, .int x_this_n, .int x_this_a])] [(h_this, ob 7 [.ref h_this_bodies, .int x_this_traceCount, .int x_this_parted, .int m_this_kind, .int m_this_n, .int m_this_a])] := by
  refine mFv.of (by decide +kernel) (Nat.le_of_ble_eq_true rfl) ?_
  intro p e s m below meth c A C hr hlk h ls hl
  obtain ⟨hx, hb, hml, hown, hts⟩ := id C
  replace hl : lv_has ls 4 [(0, .ref h_this), (1, .int p0), (2, .int p1), (3, .int p2)] := hl
  unfold f_X7_stand at hf
  refine lv_aload_n hx hb dX7_stand_0 rfl (lv_at hl 0 rfl) ?_
  refine lv_iload_n hx hb dX7_stand_1 rfl (lv_at hl 1 rfl) ?_
  refine r_put (ws' := [(h_this, ob 7 [.ref h_this_bodies, .int x_this_traceCount, .int x_this_parted, .int p0, .int x_this_n, .int x_this_a])]) C h fw_X7_23 0 rfl rfl rfl (Nat.le_of_ble_eq_true rfl) dX7_stand_2 rfl (fun H locs h => ?_)
  refine lv_aload_n hx hb dX7_stand_5 rfl (lv_at hl 0 rfl) ?_
  refine lv_iload_n hx hb dX7_stand_6 rfl (lv_at hl 2 rfl) ?_
  refine r_put (ws' := [(h_this, ob 7 [.ref h_this_bodies, .int x_this_traceCount, .int x_this_parted, .int p0, .int p1, .int x_this_a])]) C h fw_X7_26 0 rfl rfl rfl (Nat.le_of_ble_eq_true rfl) dX7_stand_7 rfl (fun H locs h => ?_)
  refine lv_aload_n hx hb dX7_stand_10 rfl (lv_at hl 0 rfl) ?_
  refine lv_iload_n hx hb dX7_stand_11 rfl (lv_at hl 3 rfl) ?_
  refine r_put (ws' := [(h_this, ob 7 [.ref h_this_bodies, .int x_this_traceCount, .int x_this_parted, .int p0, .int p1, .int p2])]) C h fw_X7_29 0 rfl rfl rfl (Nat.le_of_ble_eq_true rfl) dX7_stand_12 rfl (fun H locs h => ?_)
  cases hf
  exact r_vret C h hr hlk dX7_stand_15
def f_X7_begin (p0 : Int32) (x_this_traceCount : Int32) (x_this_parted : Int32) (f_this_bodies : Nat → Int32) : Option (Int32 × (Nat → Int32)) := (if x_this_parted = 0 then (if (30 : Int32) ≤ x_this_traceCount then some (x_this_traceCount, f_this_bodies) else chkI x_this_traceCount 30 (lt1 (x_this_traceCount + (1 : Int32)) (fun (t4 : Int32) => some (t4, upd f_this_bodies x_this_traceCount.toNatClampNeg p0)))) else some (x_this_traceCount, f_this_bodies))
set_option maxRecDepth 100000 in
set_option maxHeartbeats 4000000 in
theorem c_X7_begin {l : Launch} {G : Gt} {h_this h_this_bodies : Nat} {p0 : Int32} {x_this_traceCount : Int32} {x_this_parted : Int32} {x_this_kind : Int32} {x_this_n : Int32} {x_this_a : Int32} {f_this_bodies : Nat → Int32} {m_this_traceCount : Int32} {m_this_bodies : Nat → Int32} (hf : f_X7_begin p0 x_this_traceCount x_this_parted f_this_bodies = some (m_this_traceCount, m_this_bodies)) : mFv l G yX7_begin cX7_begin 2 0 [.ref h_this, .int p0] [(h_this, ob 7 [.ref h_this_bodies, .int x_this_traceCount, .int x_this_parted, .int x_this_kind, .int x_this_n, .int x_this_a]), (h_this_bodies, ia G 30 f_this_bodies)] [(h_this, ob 7 [.ref h_this_bodies, .int m_this_traceCount, .int x_this_parted, .int x_this_kind, .int x_this_n, .int x_this_a]), (h_this_bodies, ia G 30 m_this_bodies)] := by
  refine mFv.of (by decide +kernel) (Nat.le_of_ble_eq_true rfl) ?_
  intro p e s m below meth c A C hr hlk h ls hl
  obtain ⟨hx, hb, hml, hown, hts⟩ := id C
  replace hl : lv_has ls 2 [(0, .ref h_this), (1, .int p0)] := hl
  unfold f_X7_begin at hf
  refine lv_aload_n hx hb dX7_begin_0 rfl (lv_at hl 0 rfl) ?_
  refine r_get C h fk_X7_19 0 rfl rfl dX7_begin_1 ?_
  refine lv_if_ne (tgt := 36) hx hb dX7_begin_4 rfl (fun c1 => ?_) (fun c1 => ?_)
  · replace hf := ifn c1 hf
    cases hf
    exact r_vret C h hr hlk dX7_begin_36
  · replace hf := ifp c1 hf
    refine lv_aload_n hx hb dX7_begin_7 rfl (lv_at hl 0 rfl) ?_
    refine r_get C h fk_X7_15 0 rfl rfl dX7_begin_8 ?_
    refine lv_bipush (v := (30 : Int32)) hx hb dX7_begin_11 rfl ?_
    refine lv_icmp_ge (tgt := 36) hx hb dX7_begin_13 rfl (fun c2 => ?_) (fun c2 => ?_)
    · replace hf := ifp c2 hf
      cases hf
      exact r_vret C h hr hlk dX7_begin_36
    · replace hf := ifn c2 hf
      refine lv_aload_n hx hb dX7_begin_16 rfl (lv_at hl 0 rfl) ?_
      refine r_get C h fk_X7_11 0 rfl rfl dX7_begin_17 ?_
      refine lv_aload_n hx hb dX7_begin_20 rfl (lv_at hl 0 rfl) ?_
      refine r_get C h fk_X7_15 0 rfl rfl dX7_begin_21 ?_
      refine lv_iload_n hx hb dX7_begin_24 rfl (lv_at hl 1 rfl) ?_
      replace hf := chkI_inv hf
      obtain ⟨hi3, hf⟩ := hf
      refine r_iast (ws' := [(h_this, ob 7 [.ref h_this_bodies, .int x_this_traceCount, .int x_this_parted, .int x_this_kind, .int x_this_n, .int x_this_a]), (h_this_bodies, ia G 30 (upd f_this_bodies x_this_traceCount.toNatClampNeg p0))]) C h 1 rfl hi3 dX7_begin_25 rfl (fun H locs h => ?_)
      refine lv_aload_n hx hb dX7_begin_26 rfl (lv_at hl 0 rfl) ?_
      refine lv_dup hx hb dX7_begin_27 rfl ?_
      refine r_get C h fk_X7_15 0 rfl rfl dX7_begin_28 ?_
      refine lv_iconst (v := (1 : Int32)) hx hb dX7_begin_31 rfl ?_
      refine lv_iadd hx hb dX7_begin_32 ?_
      refine lv_topi (fun t4 et4 => ?_)
      replace hf := lt1_inv et4 hf
      refine r_put (ws' := [(h_this, ob 7 [.ref h_this_bodies, .int t4, .int x_this_parted, .int x_this_kind, .int x_this_n, .int x_this_a]), (h_this_bodies, ia G 30 (upd f_this_bodies x_this_traceCount.toNatClampNeg p0))]) C h fw_X7_15 0 rfl rfl rfl (Nat.le_of_ble_eq_true rfl) dX7_begin_33 rfl (fun H locs h => ?_)
      cases hf
      exact r_vret C h hr hlk dX7_begin_36
def f_X7_shipSights (p0 : Int32) (x_this_traceCount : Int32) (x_this_parted : Int32) (x_this_n : Int32) (f_this_bodies : Nat → Int32) : Option (Int32 × Int32 × (Nat → Int32)) := bd2 (f_X7_begin (10 : Int32) x_this_traceCount x_this_parted f_this_bodies) (fun y1 g2 => some ((p0 * (9 : Int32)) - x_this_n, y1, g2))
set_option maxRecDepth 100000 in
set_option maxHeartbeats 4000000 in
theorem c_X7_shipSights {l : Launch} {G : Gt} {h_this h_this_bodies : Nat} {p0 : Int32} {x_this_traceCount : Int32} {x_this_parted : Int32} {x_this_kind : Int32} {x_this_n : Int32} {x_this_a : Int32} {f_this_bodies : Nat → Int32} {r : Int32} {m_this_traceCount : Int32} {m_this_bodies : Nat → Int32} (hf : f_X7_shipSights p0 x_this_traceCount x_this_parted x_this_n f_this_bodies = some (r, m_this_traceCount, m_this_bodies)) : mFi l G yX7_shipSights cX7_shipSights 2 .int 1 [.ref h_this, .int p0] [(h_this, ob 7 [.ref h_this_bodies, .int x_this_traceCount, .int x_this_parted, .int x_this_kind, .int x_this_n, .int x_this_a]), (h_this_bodies, ia G 30 f_this_bodies)] r [(h_this, ob 7 [.ref h_this_bodies, .int m_this_traceCount, .int x_this_parted, .int x_this_kind, .int x_this_n, .int x_this_a]), (h_this_bodies, ia G 30 m_this_bodies)] := by
  refine mFi.of (by decide +kernel) (Nat.le_of_ble_eq_true rfl) ?_
  intro p e s m below meth c A C hr hlk h ls hl
  obtain ⟨hx, hb, hml, hown, hts⟩ := id C
  replace hl : lv_has ls 2 [(0, .ref h_this), (1, .int p0)] := hl
  unfold f_X7_shipSights at hf
  refine lv_aload_n hx hb dX7_shipSights_0 rfl (lv_at hl 0 rfl) ?_
  refine lv_bipush (v := (10 : Int32)) hx hb dX7_shipSights_1 rfl ?_
  replace hf := bd2_inv hf
  obtain ⟨y1, g2, hc3, hf⟩ := hf
  refine r_cvV (ws' := [(h_this, ob 7 [.ref h_this_bodies, .int y1, .int x_this_parted, .int x_this_kind, .int x_this_n, .int x_this_a]), (h_this_bodies, ia G 30 g2)]) C h (c_X7_begin hc3) mv_X7_32 rfl 0 rfl [0, 1] rfl rfl rfl rfl rfl hl.1 rfl (Nat.le_of_ble_eq_true rfl) (rok (by decide)) dX7_shipSights_3 (fun H locs h => ?_)
  refine lv_iload_n hx hb dX7_shipSights_6 rfl (lv_at hl 1 rfl) ?_
  refine lv_bipush (v := (9 : Int32)) hx hb dX7_shipSights_7 rfl ?_
  refine lv_imul hx hb dX7_shipSights_9 ?_
  refine lv_aload_n hx hb dX7_shipSights_10 rfl (lv_at hl 0 rfl) ?_
  refine r_get C h fk_X7_26 0 rfl rfl dX7_shipSights_11 ?_
  refine lv_isub hx hb dX7_shipSights_14 ?_
  cases hf
  exact r_iret C h hr hlk rfl dX7_shipSights_15
def f_X7_sights (p0 : Int32) (x_this_traceCount : Int32) (x_this_parted : Int32) (x_this_kind : Int32) (x_this_n : Int32) (f_this_bodies : Nat → Int32) : Option (Int32 × Int32 × (Nat → Int32)) := (if x_this_kind = (1 : Int32) then bd2 (f_X7_begin (20 : Int32) x_this_traceCount x_this_parted f_this_bodies) (fun y3 g4 => bd3 (f_X7_shipSights p0 y3 x_this_parted x_this_n g4) (fun r6 y7 g8 => some (r6 ^^^ (21 : Int32), y7, g8))) else (if x_this_kind = (3 : Int32) then bd2 (f_X7_begin (50 : Int32) x_this_traceCount x_this_parted f_this_bodies) (fun y10 g11 => bd3 (f_X7_shipSights (p0 + (13 : Int32)) y10 x_this_parted x_this_n g11) (fun r13 y14 g15 => some (r13, y14, g15))) else bd3 (f_X7_shipSights p0 x_this_traceCount x_this_parted x_this_n f_this_bodies) (fun r17 y18 g19 => some (r17, y18, g19))))
set_option maxRecDepth 100000 in
set_option maxHeartbeats 4000000 in
theorem c_X7_sights {l : Launch} {G : Gt} {h_this h_this_bodies : Nat} {p0 : Int32} {x_this_traceCount : Int32} {x_this_parted : Int32} {x_this_kind : Int32} {x_this_n : Int32} {x_this_a : Int32} {f_this_bodies : Nat → Int32} {r : Int32} {m_this_traceCount : Int32} {m_this_bodies : Nat → Int32} (hf : f_X7_sights p0 x_this_traceCount x_this_parted x_this_kind x_this_n f_this_bodies = some (r, m_this_traceCount, m_this_bodies)) : mFi l G yX7_sights cX7_sights 2 .int 2 [.ref h_this, .int p0] [(h_this, ob 7 [.ref h_this_bodies, .int x_this_traceCount, .int x_this_parted, .int x_this_kind, .int x_this_n, .int x_this_a]), (h_this_bodies, ia G 30 f_this_bodies)] r [(h_this, ob 7 [.ref h_this_bodies, .int m_this_traceCount, .int x_this_parted, .int x_this_kind, .int x_this_n, .int x_this_a]), (h_this_bodies, ia G 30 m_this_bodies)] := by
  refine mFi.of (by decide +kernel) (Nat.le_of_ble_eq_true rfl) ?_
  intro p e s m below meth c A C hr hlk h ls hl
  obtain ⟨hx, hb, hml, hown, hts⟩ := id C
  replace hl : lv_has ls 2 [(0, .ref h_this), (1, .int p0)] := hl
  unfold f_X7_sights at hf
  refine lv_aload_n hx hb dX7_sights_0 rfl (lv_at hl 0 rfl) ?_
  refine r_get C h fk_X7_23 0 rfl rfl dX7_sights_1 ?_
  by_cases c1 : x_this_kind = (1 : Int32)
  · replace hf := ifp c1 hf
    refine r_lk (tgt := 32) C dX7_sights_4 (by decide) (1 : Int32) c1 rfl rfl ?_
    refine lv_aload_n hx hb dX7_sights_32 rfl (lv_at hl 0 rfl) ?_
    refine lv_bipush (v := (20 : Int32)) hx hb dX7_sights_33 rfl ?_
    replace hf := bd2_inv hf
    obtain ⟨y3, g4, hc5, hf⟩ := hf
    refine r_cvV (ws' := [(h_this, ob 7 [.ref h_this_bodies, .int y3, .int x_this_parted, .int x_this_kind, .int x_this_n, .int x_this_a]), (h_this_bodies, ia G 30 g4)]) C h (c_X7_begin hc5) mv_X7_32 rfl 0 rfl [0, 1] rfl rfl rfl rfl rfl hl.1 rfl (Nat.le_of_ble_eq_true rfl) (rok (by decide)) dX7_sights_35 (fun H locs h => ?_)
    refine lv_aload_n hx hb dX7_sights_38 rfl (lv_at hl 0 rfl) ?_
    refine lv_iload_n hx hb dX7_sights_39 rfl (lv_at hl 1 rfl) ?_
    replace hf := bd3_inv hf
    obtain ⟨r6, y7, g8, hc9, hf⟩ := hf
    refine r_ciV (ws' := [(h_this, ob 7 [.ref h_this_bodies, .int y7, .int x_this_parted, .int x_this_kind, .int x_this_n, .int x_this_a]), (h_this_bodies, ia G 30 g8)]) C h (c_X7_shipSights hc9) mv_X7_36 rfl 0 rfl [0, 1] rfl rfl rfl rfl rfl hl.1 rfl (Nat.le_of_ble_eq_true rfl) (rok (by decide)) dX7_sights_40 (fun H locs h => ?_)
    refine lv_bipush (v := (21 : Int32)) hx hb dX7_sights_43 rfl ?_
    refine lv_ixor hx hb dX7_sights_45 ?_
    cases hf
    exact r_iret C h hr hlk rfl dX7_sights_46
  · replace hf := ifn c1 hf
    by_cases c2 : x_this_kind = (3 : Int32)
    · replace hf := ifp c2 hf
      refine r_lk (tgt := 47) C dX7_sights_4 (by decide) (3 : Int32) c2 rfl rfl ?_
      refine lv_aload_n hx hb dX7_sights_47 rfl (lv_at hl 0 rfl) ?_
      refine lv_bipush (v := (50 : Int32)) hx hb dX7_sights_48 rfl ?_
      replace hf := bd2_inv hf
      obtain ⟨y10, g11, hc12, hf⟩ := hf
      refine r_cvV (ws' := [(h_this, ob 7 [.ref h_this_bodies, .int y10, .int x_this_parted, .int x_this_kind, .int x_this_n, .int x_this_a]), (h_this_bodies, ia G 30 g11)]) C h (c_X7_begin hc12) mv_X7_32 rfl 0 rfl [0, 1] rfl rfl rfl rfl rfl hl.1 rfl (Nat.le_of_ble_eq_true rfl) (rok (by decide)) dX7_sights_50 (fun H locs h => ?_)
      refine lv_aload_n hx hb dX7_sights_53 rfl (lv_at hl 0 rfl) ?_
      refine lv_iload_n hx hb dX7_sights_54 rfl (lv_at hl 1 rfl) ?_
      refine lv_bipush (v := (13 : Int32)) hx hb dX7_sights_55 rfl ?_
      refine lv_iadd hx hb dX7_sights_57 ?_
      replace hf := bd3_inv hf
      obtain ⟨r13, y14, g15, hc16, hf⟩ := hf
      refine r_ciV (ws' := [(h_this, ob 7 [.ref h_this_bodies, .int y14, .int x_this_parted, .int x_this_kind, .int x_this_n, .int x_this_a]), (h_this_bodies, ia G 30 g15)]) C h (c_X7_shipSights hc16) mv_X7_36 rfl 0 rfl [0, 1] rfl rfl rfl rfl rfl hl.1 rfl (Nat.le_of_ble_eq_true rfl) (rok (by decide)) dX7_sights_58 (fun H locs h => ?_)
      cases hf
      exact r_iret C h hr hlk rfl dX7_sights_61
    · replace hf := ifn c2 hf
      refine r_lkD (tgt := 62) C dX7_sights_4 (by decide) [(1 : Int32), (3 : Int32)] (by decide) (nel_c c1 (nel_c c2 nel_0)) rfl ?_
      refine lv_aload_n hx hb dX7_sights_62 rfl (lv_at hl 0 rfl) ?_
      refine lv_iload_n hx hb dX7_sights_63 rfl (lv_at hl 1 rfl) ?_
      replace hf := bd3_inv hf
      obtain ⟨r17, y18, g19, hc20, hf⟩ := hf
      refine r_ciV (ws' := [(h_this, ob 7 [.ref h_this_bodies, .int y18, .int x_this_parted, .int x_this_kind, .int x_this_n, .int x_this_a]), (h_this_bodies, ia G 30 g19)]) C h (c_X7_shipSights hc20) mv_X7_36 rfl 0 rfl [0, 1] rfl rfl rfl rfl rfl hl.1 rfl (Nat.le_of_ble_eq_true rfl) (rok (by decide)) dX7_sights_64 (fun H locs h => ?_)
      cases hf
      exact r_iret C h hr hlk rfl dX7_sights_67
def f_X7_shipTacks (p0 : Int32) (x_this_traceCount : Int32) (x_this_parted : Int32) (x_this_kind : Int32) (x_this_n : Int32) (x_this_a : Int32) (f_this_bodies : Nat → Int32) : Option (Int32 × Int32 × (Nat → Int32)) := bd2 (f_X7_begin (11 : Int32) x_this_traceCount x_this_parted f_this_bodies) (fun y1 g2 => bd3 (f_X7_sights p0 y1 x_this_parted x_this_kind x_this_n g2) (fun r4 y5 g6 => some (r4 - ((3 : Int32) * x_this_a), y5, g6)))
set_option maxRecDepth 100000 in
set_option maxHeartbeats 4000000 in
theorem c_X7_shipTacks {l : Launch} {G : Gt} {h_this h_this_bodies : Nat} {p0 : Int32} {x_this_traceCount : Int32} {x_this_parted : Int32} {x_this_kind : Int32} {x_this_n : Int32} {x_this_a : Int32} {f_this_bodies : Nat → Int32} {r : Int32} {m_this_traceCount : Int32} {m_this_bodies : Nat → Int32} (hf : f_X7_shipTacks p0 x_this_traceCount x_this_parted x_this_kind x_this_n x_this_a f_this_bodies = some (r, m_this_traceCount, m_this_bodies)) : mFi l G yX7_shipTacks cX7_shipTacks 2 .int 3 [.ref h_this, .int p0] [(h_this, ob 7 [.ref h_this_bodies, .int x_this_traceCount, .int x_this_parted, .int x_this_kind, .int x_this_n, .int x_this_a]), (h_this_bodies, ia G 30 f_this_bodies)] r [(h_this, ob 7 [.ref h_this_bodies, .int m_this_traceCount, .int x_this_parted, .int x_this_kind, .int x_this_n, .int x_this_a]), (h_this_bodies, ia G 30 m_this_bodies)] := by
  refine mFi.of (by decide +kernel) (Nat.le_of_ble_eq_true rfl) ?_
  intro p e s m below meth c A C hr hlk h ls hl
  obtain ⟨hx, hb, hml, hown, hts⟩ := id C
  replace hl : lv_has ls 2 [(0, .ref h_this), (1, .int p0)] := hl
  unfold f_X7_shipTacks at hf
  refine lv_aload_n hx hb dX7_shipTacks_0 rfl (lv_at hl 0 rfl) ?_
  refine lv_bipush (v := (11 : Int32)) hx hb dX7_shipTacks_1 rfl ?_
  replace hf := bd2_inv hf
  obtain ⟨y1, g2, hc3, hf⟩ := hf
  refine r_cvV (ws' := [(h_this, ob 7 [.ref h_this_bodies, .int y1, .int x_this_parted, .int x_this_kind, .int x_this_n, .int x_this_a]), (h_this_bodies, ia G 30 g2)]) C h (c_X7_begin hc3) mv_X7_32 rfl 0 rfl [0, 1] rfl rfl rfl rfl rfl hl.1 rfl (Nat.le_of_ble_eq_true rfl) (rok (by decide)) dX7_shipTacks_3 (fun H locs h => ?_)
  refine lv_aload_n hx hb dX7_shipTacks_6 rfl (lv_at hl 0 rfl) ?_
  refine lv_iload_n hx hb dX7_shipTacks_7 rfl (lv_at hl 1 rfl) ?_
  replace hf := bd3_inv hf
  obtain ⟨r4, y5, g6, hc7, hf⟩ := hf
  refine r_ciV (ws' := [(h_this, ob 7 [.ref h_this_bodies, .int y5, .int x_this_parted, .int x_this_kind, .int x_this_n, .int x_this_a]), (h_this_bodies, ia G 30 g6)]) C h (c_X7_sights hc7) mv_X7_43 rfl 0 rfl [0, 1] rfl rfl rfl rfl rfl hl.1 rfl (Nat.le_of_ble_eq_true rfl) (rok (by decide)) dX7_shipTacks_8 (fun H locs h => ?_)
  refine lv_iconst (v := (3 : Int32)) hx hb dX7_shipTacks_11 rfl ?_
  refine lv_aload_n hx hb dX7_shipTacks_12 rfl (lv_at hl 0 rfl) ?_
  refine r_get C h fk_X7_29 0 rfl rfl dX7_shipTacks_13 ?_
  refine lv_imul hx hb dX7_shipTacks_16 ?_
  refine lv_isub hx hb dX7_shipTacks_17 ?_
  cases hf
  exact r_iret C h hr hlk rfl dX7_shipTacks_18
def f_X7_tacks (p0 : Int32) (x_this_traceCount : Int32) (x_this_parted : Int32) (x_this_kind : Int32) (x_this_n : Int32) (x_this_a : Int32) (f_this_bodies : Nat → Int32) : Option (Int32 × Int32 × (Nat → Int32)) := (if x_this_kind = (2 : Int32) then bd2 (f_X7_begin (30 : Int32) x_this_traceCount x_this_parted f_this_bodies) (fun y5 g6 => bd3 (f_X7_shipTacks p0 y5 x_this_parted x_this_kind x_this_n x_this_a g6) (fun r8 y9 g10 => some (r8 * (2 : Int32), y9, g10))) else (if x_this_kind = (3 : Int32) then bd2 (f_X7_begin (30 : Int32) x_this_traceCount x_this_parted f_this_bodies) (fun y12 g13 => bd3 (f_X7_shipTacks p0 y12 x_this_parted x_this_kind x_this_n x_this_a g13) (fun r15 y16 g17 => some (r15 * (2 : Int32), y16, g17))) else (if x_this_kind = (4 : Int32) then bd3 (f_X7_shipTacks p0 x_this_traceCount x_this_parted x_this_kind x_this_n x_this_a f_this_bodies) (fun r19 y20 g21 => some (r19, y20, g21)) else (if x_this_kind = (5 : Int32) then bd2 (f_X7_begin (60 : Int32) x_this_traceCount x_this_parted f_this_bodies) (fun y23 g24 => bd3 (f_X7_shipTacks p0 y23 x_this_parted x_this_kind x_this_n x_this_a g24) (fun r26 y27 g28 => some ((0 : Int32) - r26, y27, g28))) else bd3 (f_X7_shipTacks p0 x_this_traceCount x_this_parted x_this_kind x_this_n x_this_a f_this_bodies) (fun r30 y31 g32 => some (r30, y31, g32))))))
set_option maxRecDepth 100000 in
set_option maxHeartbeats 4000000 in
theorem c_X7_tacks {l : Launch} {G : Gt} {h_this h_this_bodies : Nat} {p0 : Int32} {x_this_traceCount : Int32} {x_this_parted : Int32} {x_this_kind : Int32} {x_this_n : Int32} {x_this_a : Int32} {f_this_bodies : Nat → Int32} {r : Int32} {m_this_traceCount : Int32} {m_this_bodies : Nat → Int32} (hf : f_X7_tacks p0 x_this_traceCount x_this_parted x_this_kind x_this_n x_this_a f_this_bodies = some (r, m_this_traceCount, m_this_bodies)) : mFi l G yX7_tacks cX7_tacks 2 .int 4 [.ref h_this, .int p0] [(h_this, ob 7 [.ref h_this_bodies, .int x_this_traceCount, .int x_this_parted, .int x_this_kind, .int x_this_n, .int x_this_a]), (h_this_bodies, ia G 30 f_this_bodies)] r [(h_this, ob 7 [.ref h_this_bodies, .int m_this_traceCount, .int x_this_parted, .int x_this_kind, .int x_this_n, .int x_this_a]), (h_this_bodies, ia G 30 m_this_bodies)] := by
  refine mFi.of (by decide +kernel) (Nat.le_of_ble_eq_true rfl) ?_
  intro p e s m below meth c A C hr hlk h ls hl
  obtain ⟨hx, hb, hml, hown, hts⟩ := id C
  replace hl : lv_has ls 2 [(0, .ref h_this), (1, .int p0)] := hl
  unfold f_X7_tacks at hf
  refine lv_aload_n hx hb dX7_tacks_0 rfl (lv_at hl 0 rfl) ?_
  refine r_get C h fk_X7_23 0 rfl rfl dX7_tacks_1 ?_
  by_cases c1 : x_this_kind = (2 : Int32)
  · replace hf := ifp c1 hf
    refine r_tab (tgt := 36) C dX7_tacks_4 (2 : Int32) c1 (by decide) rfl rfl ?_
    refine lv_aload_n hx hb dX7_tacks_36 rfl (lv_at hl 0 rfl) ?_
    refine lv_bipush (v := (30 : Int32)) hx hb dX7_tacks_37 rfl ?_
    replace hf := bd2_inv hf
    obtain ⟨y5, g6, hc7, hf⟩ := hf
    refine r_cvV (ws' := [(h_this, ob 7 [.ref h_this_bodies, .int y5, .int x_this_parted, .int x_this_kind, .int x_this_n, .int x_this_a]), (h_this_bodies, ia G 30 g6)]) C h (c_X7_begin hc7) mv_X7_32 rfl 0 rfl [0, 1] rfl rfl rfl rfl rfl hl.1 rfl (Nat.le_of_ble_eq_true rfl) (rok (by decide)) dX7_tacks_39 (fun H locs h => ?_)
    refine lv_aload_n hx hb dX7_tacks_42 rfl (lv_at hl 0 rfl) ?_
    refine lv_iload_n hx hb dX7_tacks_43 rfl (lv_at hl 1 rfl) ?_
    replace hf := bd3_inv hf
    obtain ⟨r8, y9, g10, hc11, hf⟩ := hf
    refine r_ciV (ws' := [(h_this, ob 7 [.ref h_this_bodies, .int y9, .int x_this_parted, .int x_this_kind, .int x_this_n, .int x_this_a]), (h_this_bodies, ia G 30 g10)]) C h (c_X7_shipTacks hc11) mv_X7_40 rfl 0 rfl [0, 1] rfl rfl rfl rfl rfl hl.1 rfl (Nat.le_of_ble_eq_true rfl) (rok (by decide)) dX7_tacks_44 (fun H locs h => ?_)
    refine lv_iconst (v := (2 : Int32)) hx hb dX7_tacks_47 rfl ?_
    refine lv_imul hx hb dX7_tacks_48 ?_
    cases hf
    exact r_iret C h hr hlk rfl dX7_tacks_49
  · replace hf := ifn c1 hf
    by_cases c2 : x_this_kind = (3 : Int32)
    · replace hf := ifp c2 hf
      refine r_tab (tgt := 36) C dX7_tacks_4 (3 : Int32) c2 (by decide) rfl rfl ?_
      refine lv_aload_n hx hb dX7_tacks_36 rfl (lv_at hl 0 rfl) ?_
      refine lv_bipush (v := (30 : Int32)) hx hb dX7_tacks_37 rfl ?_
      replace hf := bd2_inv hf
      obtain ⟨y12, g13, hc14, hf⟩ := hf
      refine r_cvV (ws' := [(h_this, ob 7 [.ref h_this_bodies, .int y12, .int x_this_parted, .int x_this_kind, .int x_this_n, .int x_this_a]), (h_this_bodies, ia G 30 g13)]) C h (c_X7_begin hc14) mv_X7_32 rfl 0 rfl [0, 1] rfl rfl rfl rfl rfl hl.1 rfl (Nat.le_of_ble_eq_true rfl) (rok (by decide)) dX7_tacks_39 (fun H locs h => ?_)
      refine lv_aload_n hx hb dX7_tacks_42 rfl (lv_at hl 0 rfl) ?_
      refine lv_iload_n hx hb dX7_tacks_43 rfl (lv_at hl 1 rfl) ?_
      replace hf := bd3_inv hf
      obtain ⟨r15, y16, g17, hc18, hf⟩ := hf
      refine r_ciV (ws' := [(h_this, ob 7 [.ref h_this_bodies, .int y16, .int x_this_parted, .int x_this_kind, .int x_this_n, .int x_this_a]), (h_this_bodies, ia G 30 g17)]) C h (c_X7_shipTacks hc18) mv_X7_40 rfl 0 rfl [0, 1] rfl rfl rfl rfl rfl hl.1 rfl (Nat.le_of_ble_eq_true rfl) (rok (by decide)) dX7_tacks_44 (fun H locs h => ?_)
      refine lv_iconst (v := (2 : Int32)) hx hb dX7_tacks_47 rfl ?_
      refine lv_imul hx hb dX7_tacks_48 ?_
      cases hf
      exact r_iret C h hr hlk rfl dX7_tacks_49
    · replace hf := ifn c2 hf
      by_cases c3 : x_this_kind = (4 : Int32)
      · replace hf := ifp c3 hf
        refine r_tab (tgt := 64) C dX7_tacks_4 (4 : Int32) c3 (by decide) rfl rfl ?_
        refine lv_aload_n hx hb dX7_tacks_64 rfl (lv_at hl 0 rfl) ?_
        refine lv_iload_n hx hb dX7_tacks_65 rfl (lv_at hl 1 rfl) ?_
        replace hf := bd3_inv hf
        obtain ⟨r19, y20, g21, hc22, hf⟩ := hf
        refine r_ciV (ws' := [(h_this, ob 7 [.ref h_this_bodies, .int y20, .int x_this_parted, .int x_this_kind, .int x_this_n, .int x_this_a]), (h_this_bodies, ia G 30 g21)]) C h (c_X7_shipTacks hc22) mv_X7_40 rfl 0 rfl [0, 1] rfl rfl rfl rfl rfl hl.1 rfl (Nat.le_of_ble_eq_true rfl) (rok (by decide)) dX7_tacks_66 (fun H locs h => ?_)
        cases hf
        exact r_iret C h hr hlk rfl dX7_tacks_69
      · replace hf := ifn c3 hf
        by_cases c4 : x_this_kind = (5 : Int32)
        · replace hf := ifp c4 hf
          refine r_tab (tgt := 50) C dX7_tacks_4 (5 : Int32) c4 (by decide) rfl rfl ?_
          refine lv_aload_n hx hb dX7_tacks_50 rfl (lv_at hl 0 rfl) ?_
          refine lv_bipush (v := (60 : Int32)) hx hb dX7_tacks_51 rfl ?_
          replace hf := bd2_inv hf
          obtain ⟨y23, g24, hc25, hf⟩ := hf
          refine r_cvV (ws' := [(h_this, ob 7 [.ref h_this_bodies, .int y23, .int x_this_parted, .int x_this_kind, .int x_this_n, .int x_this_a]), (h_this_bodies, ia G 30 g24)]) C h (c_X7_begin hc25) mv_X7_32 rfl 0 rfl [0, 1] rfl rfl rfl rfl rfl hl.1 rfl (Nat.le_of_ble_eq_true rfl) (rok (by decide)) dX7_tacks_53 (fun H locs h => ?_)
          refine lv_iconst (v := (0 : Int32)) hx hb dX7_tacks_56 rfl ?_
          refine lv_aload_n hx hb dX7_tacks_57 rfl (lv_at hl 0 rfl) ?_
          refine lv_iload_n hx hb dX7_tacks_58 rfl (lv_at hl 1 rfl) ?_
          replace hf := bd3_inv hf
          obtain ⟨r26, y27, g28, hc29, hf⟩ := hf
          refine r_ciV (ws' := [(h_this, ob 7 [.ref h_this_bodies, .int y27, .int x_this_parted, .int x_this_kind, .int x_this_n, .int x_this_a]), (h_this_bodies, ia G 30 g28)]) C h (c_X7_shipTacks hc29) mv_X7_40 rfl 0 rfl [0, 1] rfl rfl rfl rfl rfl hl.1 rfl (Nat.le_of_ble_eq_true rfl) (rok (by decide)) dX7_tacks_59 (fun H locs h => ?_)
          refine lv_isub hx hb dX7_tacks_62 ?_
          cases hf
          exact r_iret C h hr hlk rfl dX7_tacks_63
        · replace hf := ifn c4 hf
          refine r_tabD (tgt := 64) C dX7_tacks_4 [(2 : Int32), (3 : Int32), (4 : Int32), (5 : Int32)] (by decide) (nel_c c1 (nel_c c2 (nel_c c3 (nel_c c4 nel_0)))) rfl ?_
          refine lv_aload_n hx hb dX7_tacks_64 rfl (lv_at hl 0 rfl) ?_
          refine lv_iload_n hx hb dX7_tacks_65 rfl (lv_at hl 1 rfl) ?_
          replace hf := bd3_inv hf
          obtain ⟨r30, y31, g32, hc33, hf⟩ := hf
          refine r_ciV (ws' := [(h_this, ob 7 [.ref h_this_bodies, .int y31, .int x_this_parted, .int x_this_kind, .int x_this_n, .int x_this_a]), (h_this_bodies, ia G 30 g32)]) C h (c_X7_shipTacks hc33) mv_X7_40 rfl 0 rfl [0, 1] rfl rfl rfl rfl rfl hl.1 rfl (Nat.le_of_ble_eq_true rfl) (rok (by decide)) dX7_tacks_66 (fun H locs h => ?_)
          cases hf
          exact r_iret C h hr hlk rfl dX7_tacks_69
def f_X7_shipSounds (p0 : Int32) (x_this_traceCount : Int32) (x_this_parted : Int32) (x_this_n : Int32) (x_this_a : Int32) (f_this_bodies : Nat → Int32) : Option (Int32 × Int32 × Int32 × (Nat → Int32)) := bd2 (f_X7_begin (12 : Int32) x_this_traceCount x_this_parted f_this_bodies) (fun y1 g2 => lt1 ((x_this_n + x_this_a) - (5 : Int32)) (fun (t4 : Int32) => (if t4 = 0 then some ((0 : Int32), y1, (1 : Int32), g2) else chkD t4 (some (p0 - p0 / t4 * t4, y1, x_this_parted, g2)))))
set_option maxRecDepth 100000 in
set_option maxHeartbeats 4000000 in
theorem c_X7_shipSounds {l : Launch} {G : Gt} {h_this h_this_bodies : Nat} {p0 : Int32} {x_this_traceCount : Int32} {x_this_parted : Int32} {x_this_kind : Int32} {x_this_n : Int32} {x_this_a : Int32} {f_this_bodies : Nat → Int32} {r : Int32} {m_this_traceCount : Int32} {m_this_parted : Int32} {m_this_bodies : Nat → Int32} (hf : f_X7_shipSounds p0 x_this_traceCount x_this_parted x_this_n x_this_a f_this_bodies = some (r, m_this_traceCount, m_this_parted, m_this_bodies)) : mFi l G yX7_shipSounds cX7_shipSounds 3 .int 1 [.ref h_this, .int p0] [(h_this, ob 7 [.ref h_this_bodies, .int x_this_traceCount, .int x_this_parted, .int x_this_kind, .int x_this_n, .int x_this_a]), (h_this_bodies, ia G 30 f_this_bodies)] r [(h_this, ob 7 [.ref h_this_bodies, .int m_this_traceCount, .int m_this_parted, .int x_this_kind, .int x_this_n, .int x_this_a]), (h_this_bodies, ia G 30 m_this_bodies)] := by
  refine mFi.of (by decide +kernel) (Nat.le_of_ble_eq_true rfl) ?_
  intro p e s m below meth c A C hr hlk h ls hl
  obtain ⟨hx, hb, hml, hown, hts⟩ := id C
  replace hl : lv_has ls 3 [(0, .ref h_this), (1, .int p0)] := hl
  unfold f_X7_shipSounds at hf
  refine lv_aload_n hx hb dX7_shipSounds_0 rfl (lv_at hl 0 rfl) ?_
  refine lv_bipush (v := (12 : Int32)) hx hb dX7_shipSounds_1 rfl ?_
  replace hf := bd2_inv hf
  obtain ⟨y1, g2, hc3, hf⟩ := hf
  refine r_cvV (ws' := [(h_this, ob 7 [.ref h_this_bodies, .int y1, .int x_this_parted, .int x_this_kind, .int x_this_n, .int x_this_a]), (h_this_bodies, ia G 30 g2)]) C h (c_X7_begin hc3) mv_X7_32 rfl 0 rfl [0, 1] rfl rfl rfl rfl rfl hl.1 rfl (Nat.le_of_ble_eq_true rfl) (rok (by decide)) dX7_shipSounds_3 (fun H locs h => ?_)
  refine lv_aload_n hx hb dX7_shipSounds_6 rfl (lv_at hl 0 rfl) ?_
  refine r_get C h fk_X7_26 0 rfl rfl dX7_shipSounds_7 ?_
  refine lv_aload_n hx hb dX7_shipSounds_10 rfl (lv_at hl 0 rfl) ?_
  refine r_get C h fk_X7_29 0 rfl rfl dX7_shipSounds_11 ?_
  refine lv_iadd hx hb dX7_shipSounds_14 ?_
  refine lv_iconst (v := (5 : Int32)) hx hb dX7_shipSounds_15 rfl ?_
  refine lv_isub hx hb dX7_shipSounds_16 ?_
  refine lv_topi (fun t4 et4 => ?_)
  replace hf := lt1_inv et4 hf
  refine lv_istore_n (lv' := [(2, .int t4), (0, .ref h_this), (1, .int p0)]) hx hb dX7_shipSounds_17 rfl hl (by decide) rfl (fun ls hl => ?_)
  refine lv_iload_n hx hb dX7_shipSounds_18 rfl (lv_at hl 0 rfl) ?_
  refine lv_if_ne (tgt := 29) hx hb dX7_shipSounds_19 rfl (fun c5 => ?_) (fun c5 => ?_)
  · replace hf := ifn c5 hf
    refine lv_iload_n hx hb dX7_shipSounds_29 rfl (lv_at hl 2 rfl) ?_
    refine lv_iload_n hx hb dX7_shipSounds_30 rfl (lv_at hl 0 rfl) ?_
    replace hf := chkD_inv hf
    obtain ⟨hd6, hf⟩ := hf
    refine lv_irem hx hb dX7_shipSounds_31 hd6 ?_
    cases hf
    exact r_iret C h hr hlk rfl dX7_shipSounds_32
  · replace hf := ifp c5 hf
    refine lv_aload_n hx hb dX7_shipSounds_22 rfl (lv_at hl 1 rfl) ?_
    refine lv_iconst (v := (1 : Int32)) hx hb dX7_shipSounds_23 rfl ?_
    refine r_put (ws' := [(h_this, ob 7 [.ref h_this_bodies, .int y1, .int (1 : Int32), .int x_this_kind, .int x_this_n, .int x_this_a]), (h_this_bodies, ia G 30 g2)]) C h fw_X7_19 0 rfl rfl rfl (Nat.le_of_ble_eq_true rfl) dX7_shipSounds_24 rfl (fun H locs h => ?_)
    refine lv_iconst (v := (0 : Int32)) hx hb dX7_shipSounds_27 rfl ?_
    cases hf
    exact r_iret C h hr hlk rfl dX7_shipSounds_28
def f_X7_brigSounds (p0 : Int32) (x_this_traceCount : Int32) (x_this_parted : Int32) (x_this_n : Int32) (x_this_a : Int32) (f_this_bodies : Nat → Int32) : Option (Int32 × Int32 × Int32 × (Nat → Int32)) := bd2 (f_X7_begin (40 : Int32) x_this_traceCount x_this_parted f_this_bodies) (fun y1 g2 => bd4 (f_X7_shipSounds p0 y1 x_this_parted x_this_n x_this_a g2) (fun r4 y5 y6 g7 => some (r4 + (7 : Int32), y5, y6, g7)))
set_option maxRecDepth 100000 in
set_option maxHeartbeats 4000000 in
theorem c_X7_brigSounds {l : Launch} {G : Gt} {h_this h_this_bodies : Nat} {p0 : Int32} {x_this_traceCount : Int32} {x_this_parted : Int32} {x_this_kind : Int32} {x_this_n : Int32} {x_this_a : Int32} {f_this_bodies : Nat → Int32} {r : Int32} {m_this_traceCount : Int32} {m_this_parted : Int32} {m_this_bodies : Nat → Int32} (hf : f_X7_brigSounds p0 x_this_traceCount x_this_parted x_this_n x_this_a f_this_bodies = some (r, m_this_traceCount, m_this_parted, m_this_bodies)) : mFi l G yX7_brigSounds cX7_brigSounds 2 .int 2 [.ref h_this, .int p0] [(h_this, ob 7 [.ref h_this_bodies, .int x_this_traceCount, .int x_this_parted, .int x_this_kind, .int x_this_n, .int x_this_a]), (h_this_bodies, ia G 30 f_this_bodies)] r [(h_this, ob 7 [.ref h_this_bodies, .int m_this_traceCount, .int m_this_parted, .int x_this_kind, .int x_this_n, .int x_this_a]), (h_this_bodies, ia G 30 m_this_bodies)] := by
  refine mFi.of (by decide +kernel) (Nat.le_of_ble_eq_true rfl) ?_
  intro p e s m below meth c A C hr hlk h ls hl
  obtain ⟨hx, hb, hml, hown, hts⟩ := id C
  replace hl : lv_has ls 2 [(0, .ref h_this), (1, .int p0)] := hl
  unfold f_X7_brigSounds at hf
  refine lv_aload_n hx hb dX7_brigSounds_0 rfl (lv_at hl 0 rfl) ?_
  refine lv_bipush (v := (40 : Int32)) hx hb dX7_brigSounds_1 rfl ?_
  replace hf := bd2_inv hf
  obtain ⟨y1, g2, hc3, hf⟩ := hf
  refine r_cvV (ws' := [(h_this, ob 7 [.ref h_this_bodies, .int y1, .int x_this_parted, .int x_this_kind, .int x_this_n, .int x_this_a]), (h_this_bodies, ia G 30 g2)]) C h (c_X7_begin hc3) mv_X7_32 rfl 0 rfl [0, 1] rfl rfl rfl rfl rfl hl.1 rfl (Nat.le_of_ble_eq_true rfl) (rok (by decide)) dX7_brigSounds_3 (fun H locs h => ?_)
  refine lv_aload_n hx hb dX7_brigSounds_6 rfl (lv_at hl 0 rfl) ?_
  refine lv_iload_n hx hb dX7_brigSounds_7 rfl (lv_at hl 1 rfl) ?_
  replace hf := bd4_inv hf
  obtain ⟨r4, y5, y6, g7, hc8, hf⟩ := hf
  refine r_ciV (ws' := [(h_this, ob 7 [.ref h_this_bodies, .int y5, .int y6, .int x_this_kind, .int x_this_n, .int x_this_a]), (h_this_bodies, ia G 30 g7)]) C h (c_X7_shipSounds hc8) mv_X7_49 rfl 0 rfl [0, 1] rfl rfl rfl rfl rfl hl.1 rfl (Nat.le_of_ble_eq_true rfl) (rok (by decide)) dX7_brigSounds_8 (fun H locs h => ?_)
  refine lv_bipush (v := (7 : Int32)) hx hb dX7_brigSounds_11 rfl ?_
  refine lv_iadd hx hb dX7_brigSounds_13 ?_
  cases hf
  exact r_iret C h hr hlk rfl dX7_brigSounds_14
def f_X7_sounds (p0 : Int32) (x_this_traceCount : Int32) (x_this_parted : Int32) (x_this_kind : Int32) (x_this_n : Int32) (x_this_a : Int32) (f_this_bodies : Nat → Int32) : Option (Int32 × Int32 × Int32 × (Nat → Int32)) := (if x_this_kind = (4 : Int32) then bd4 (f_X7_brigSounds p0 x_this_traceCount x_this_parted x_this_n x_this_a f_this_bodies) (fun r3 y4 y5 g6 => some (r3, y4, y5, g6)) else (if x_this_kind = (5 : Int32) then bd2 (f_X7_begin (61 : Int32) x_this_traceCount x_this_parted f_this_bodies) (fun y8 g9 => bd4 (f_X7_brigSounds p0 y8 x_this_parted x_this_n x_this_a g9) (fun r11 y12 y13 g14 => bd3 (f_X7_sights x_this_n y12 y13 x_this_kind x_this_n g14) (fun r16 y17 g18 => some (r11 ^^^ r16, y17, y13, g18)))) else bd4 (f_X7_shipSounds p0 x_this_traceCount x_this_parted x_this_n x_this_a f_this_bodies) (fun r20 y21 y22 g23 => some (r20, y21, y22, g23))))
set_option maxRecDepth 100000 in
set_option maxHeartbeats 4000000 in
theorem c_X7_sounds {l : Launch} {G : Gt} {h_this h_this_bodies : Nat} {p0 : Int32} {x_this_traceCount : Int32} {x_this_parted : Int32} {x_this_kind : Int32} {x_this_n : Int32} {x_this_a : Int32} {f_this_bodies : Nat → Int32} {r : Int32} {m_this_traceCount : Int32} {m_this_parted : Int32} {m_this_bodies : Nat → Int32} (hf : f_X7_sounds p0 x_this_traceCount x_this_parted x_this_kind x_this_n x_this_a f_this_bodies = some (r, m_this_traceCount, m_this_parted, m_this_bodies)) : mFi l G yX7_sounds cX7_sounds 2 .int 3 [.ref h_this, .int p0] [(h_this, ob 7 [.ref h_this_bodies, .int x_this_traceCount, .int x_this_parted, .int x_this_kind, .int x_this_n, .int x_this_a]), (h_this_bodies, ia G 30 f_this_bodies)] r [(h_this, ob 7 [.ref h_this_bodies, .int m_this_traceCount, .int m_this_parted, .int x_this_kind, .int x_this_n, .int x_this_a]), (h_this_bodies, ia G 30 m_this_bodies)] := by
  refine mFi.of (by decide +kernel) (Nat.le_of_ble_eq_true rfl) ?_
  intro p e s m below meth c A C hr hlk h ls hl
  obtain ⟨hx, hb, hml, hown, hts⟩ := id C
  replace hl : lv_has ls 2 [(0, .ref h_this), (1, .int p0)] := hl
  unfold f_X7_sounds at hf
  refine lv_aload_n hx hb dX7_sounds_0 rfl (lv_at hl 0 rfl) ?_
  refine r_get C h fk_X7_23 0 rfl rfl dX7_sounds_1 ?_
  by_cases c1 : x_this_kind = (4 : Int32)
  · replace hf := ifp c1 hf
    refine r_lk (tgt := 32) C dX7_sounds_4 (by decide) (4 : Int32) c1 rfl rfl ?_
    refine lv_aload_n hx hb dX7_sounds_32 rfl (lv_at hl 0 rfl) ?_
    refine lv_iload_n hx hb dX7_sounds_33 rfl (lv_at hl 1 rfl) ?_
    replace hf := bd4_inv hf
    obtain ⟨r3, y4, y5, g6, hc7, hf⟩ := hf
    refine r_ciV (ws' := [(h_this, ob 7 [.ref h_this_bodies, .int y4, .int y5, .int x_this_kind, .int x_this_n, .int x_this_a]), (h_this_bodies, ia G 30 g6)]) C h (c_X7_brigSounds hc7) mv_X7_46 rfl 0 rfl [0, 1] rfl rfl rfl rfl rfl hl.1 rfl (Nat.le_of_ble_eq_true rfl) (rok (by decide)) dX7_sounds_34 (fun H locs h => ?_)
    cases hf
    exact r_iret C h hr hlk rfl dX7_sounds_37
  · replace hf := ifn c1 hf
    by_cases c2 : x_this_kind = (5 : Int32)
    · replace hf := ifp c2 hf
      refine r_lk (tgt := 38) C dX7_sounds_4 (by decide) (5 : Int32) c2 rfl rfl ?_
      refine lv_aload_n hx hb dX7_sounds_38 rfl (lv_at hl 0 rfl) ?_
      refine lv_bipush (v := (61 : Int32)) hx hb dX7_sounds_39 rfl ?_
      replace hf := bd2_inv hf
      obtain ⟨y8, g9, hc10, hf⟩ := hf
      refine r_cvV (ws' := [(h_this, ob 7 [.ref h_this_bodies, .int y8, .int x_this_parted, .int x_this_kind, .int x_this_n, .int x_this_a]), (h_this_bodies, ia G 30 g9)]) C h (c_X7_begin hc10) mv_X7_32 rfl 0 rfl [0, 1] rfl rfl rfl rfl rfl hl.1 rfl (Nat.le_of_ble_eq_true rfl) (rok (by decide)) dX7_sounds_41 (fun H locs h => ?_)
      refine lv_aload_n hx hb dX7_sounds_44 rfl (lv_at hl 0 rfl) ?_
      refine lv_iload_n hx hb dX7_sounds_45 rfl (lv_at hl 1 rfl) ?_
      replace hf := bd4_inv hf
      obtain ⟨r11, y12, y13, g14, hc15, hf⟩ := hf
      refine r_ciV (ws' := [(h_this, ob 7 [.ref h_this_bodies, .int y12, .int y13, .int x_this_kind, .int x_this_n, .int x_this_a]), (h_this_bodies, ia G 30 g14)]) C h (c_X7_brigSounds hc15) mv_X7_46 rfl 0 rfl [0, 1] rfl rfl rfl rfl rfl hl.1 rfl (Nat.le_of_ble_eq_true rfl) (rok (by decide)) dX7_sounds_46 (fun H locs h => ?_)
      refine lv_aload_n hx hb dX7_sounds_49 rfl (lv_at hl 0 rfl) ?_
      refine lv_aload_n hx hb dX7_sounds_50 rfl (lv_at hl 0 rfl) ?_
      refine r_get C h fk_X7_26 0 rfl rfl dX7_sounds_51 ?_
      replace hf := bd3_inv hf
      obtain ⟨r16, y17, g18, hc19, hf⟩ := hf
      refine r_ciV (ws' := [(h_this, ob 7 [.ref h_this_bodies, .int y17, .int y13, .int x_this_kind, .int x_this_n, .int x_this_a]), (h_this_bodies, ia G 30 g18)]) C h (c_X7_sights hc19) mv_X7_43 rfl 0 rfl [0, 1] rfl rfl rfl rfl rfl hl.1 rfl (Nat.le_of_ble_eq_true rfl) (rok (by decide)) dX7_sounds_54 (fun H locs h => ?_)
      refine lv_ixor hx hb dX7_sounds_57 ?_
      cases hf
      exact r_iret C h hr hlk rfl dX7_sounds_58
    · replace hf := ifn c2 hf
      refine r_lkD (tgt := 59) C dX7_sounds_4 (by decide) [(4 : Int32), (5 : Int32)] (by decide) (nel_c c1 (nel_c c2 nel_0)) rfl ?_
      refine lv_aload_n hx hb dX7_sounds_59 rfl (lv_at hl 0 rfl) ?_
      refine lv_iload_n hx hb dX7_sounds_60 rfl (lv_at hl 1 rfl) ?_
      replace hf := bd4_inv hf
      obtain ⟨r20, y21, y22, g23, hc24, hf⟩ := hf
      refine r_ciV (ws' := [(h_this, ob 7 [.ref h_this_bodies, .int y21, .int y22, .int x_this_kind, .int x_this_n, .int x_this_a]), (h_this_bodies, ia G 30 g23)]) C h (c_X7_shipSounds hc24) mv_X7_49 rfl 0 rfl [0, 1] rfl rfl rfl rfl rfl hl.1 rfl (Nat.le_of_ble_eq_true rfl) (rok (by decide)) dX7_sounds_61 (fun H locs h => ?_)
      cases hf
      exact r_iret C h hr hlk rfl dX7_sounds_64
def f_X7_shipLands (p0 : Int32) (x_this_traceCount : Int32) (x_this_parted : Int32) (x_this_kind : Int32) (x_this_n : Int32) (x_this_a : Int32) (f_this_bodies : Nat → Int32) : Option (Int32 × Int32 × Int32 × (Nat → Int32)) := bd2 (f_X7_begin (13 : Int32) x_this_traceCount x_this_parted f_this_bodies) (fun y1 g2 => bd3 (f_X7_tacks p0 y1 x_this_parted x_this_kind x_this_n x_this_a g2) (fun r4 y5 g6 => bd4 (f_X7_sounds p0 y5 x_this_parted x_this_kind x_this_n x_this_a g6) (fun r8 y9 y10 g11 => some (r4 + r8, y9, y10, g11))))
set_option maxRecDepth 100000 in
set_option maxHeartbeats 4000000 in
theorem c_X7_shipLands {l : Launch} {G : Gt} {h_this h_this_bodies : Nat} {p0 : Int32} {x_this_traceCount : Int32} {x_this_parted : Int32} {x_this_kind : Int32} {x_this_n : Int32} {x_this_a : Int32} {f_this_bodies : Nat → Int32} {r : Int32} {m_this_traceCount : Int32} {m_this_parted : Int32} {m_this_bodies : Nat → Int32} (hf : f_X7_shipLands p0 x_this_traceCount x_this_parted x_this_kind x_this_n x_this_a f_this_bodies = some (r, m_this_traceCount, m_this_parted, m_this_bodies)) : mFi l G yX7_shipLands cX7_shipLands 2 .int 5 [.ref h_this, .int p0] [(h_this, ob 7 [.ref h_this_bodies, .int x_this_traceCount, .int x_this_parted, .int x_this_kind, .int x_this_n, .int x_this_a]), (h_this_bodies, ia G 30 f_this_bodies)] r [(h_this, ob 7 [.ref h_this_bodies, .int m_this_traceCount, .int m_this_parted, .int x_this_kind, .int x_this_n, .int x_this_a]), (h_this_bodies, ia G 30 m_this_bodies)] := by
  refine mFi.of (by decide +kernel) (Nat.le_of_ble_eq_true rfl) ?_
  intro p e s m below meth c A C hr hlk h ls hl
  obtain ⟨hx, hb, hml, hown, hts⟩ := id C
  replace hl : lv_has ls 2 [(0, .ref h_this), (1, .int p0)] := hl
  unfold f_X7_shipLands at hf
  refine lv_aload_n hx hb dX7_shipLands_0 rfl (lv_at hl 0 rfl) ?_
  refine lv_bipush (v := (13 : Int32)) hx hb dX7_shipLands_1 rfl ?_
  replace hf := bd2_inv hf
  obtain ⟨y1, g2, hc3, hf⟩ := hf
  refine r_cvV (ws' := [(h_this, ob 7 [.ref h_this_bodies, .int y1, .int x_this_parted, .int x_this_kind, .int x_this_n, .int x_this_a]), (h_this_bodies, ia G 30 g2)]) C h (c_X7_begin hc3) mv_X7_32 rfl 0 rfl [0, 1] rfl rfl rfl rfl rfl hl.1 rfl (Nat.le_of_ble_eq_true rfl) (rok (by decide)) dX7_shipLands_3 (fun H locs h => ?_)
  refine lv_aload_n hx hb dX7_shipLands_6 rfl (lv_at hl 0 rfl) ?_
  refine lv_iload_n hx hb dX7_shipLands_7 rfl (lv_at hl 1 rfl) ?_
  replace hf := bd3_inv hf
  obtain ⟨r4, y5, g6, hc7, hf⟩ := hf
  refine r_ciV (ws' := [(h_this, ob 7 [.ref h_this_bodies, .int y5, .int x_this_parted, .int x_this_kind, .int x_this_n, .int x_this_a]), (h_this_bodies, ia G 30 g6)]) C h (c_X7_tacks hc7) mv_X7_55 rfl 0 rfl [0, 1] rfl rfl rfl rfl rfl hl.1 rfl (Nat.le_of_ble_eq_true rfl) (rok (by decide)) dX7_shipLands_8 (fun H locs h => ?_)
  refine lv_aload_n hx hb dX7_shipLands_11 rfl (lv_at hl 0 rfl) ?_
  refine lv_iload_n hx hb dX7_shipLands_12 rfl (lv_at hl 1 rfl) ?_
  replace hf := bd4_inv hf
  obtain ⟨r8, y9, y10, g11, hc12, hf⟩ := hf
  refine r_ciV (ws' := [(h_this, ob 7 [.ref h_this_bodies, .int y9, .int y10, .int x_this_kind, .int x_this_n, .int x_this_a]), (h_this_bodies, ia G 30 g11)]) C h (c_X7_sounds hc12) mv_X7_58 rfl 0 rfl [0, 1] rfl rfl rfl rfl rfl hl.1 rfl (Nat.le_of_ble_eq_true rfl) (rok (by decide)) dX7_shipLands_13 (fun H locs h => ?_)
  refine lv_iadd hx hb dX7_shipLands_16 ?_
  cases hf
  exact r_iret C h hr hlk rfl dX7_shipLands_17
def f_X7_lands (p0 : Int32) (x_this_traceCount : Int32) (x_this_parted : Int32) (x_this_kind : Int32) (x_this_n : Int32) (x_this_a : Int32) (f_this_bodies : Nat → Int32) : Option (Int32 × Int32 × Int32 × (Nat → Int32)) := (if x_this_kind = (3 : Int32) then bd2 (f_X7_begin (51 : Int32) x_this_traceCount x_this_parted f_this_bodies) (fun y7 g8 => bd4 (f_X7_shipLands p0 y7 x_this_parted x_this_kind x_this_n x_this_a g8) (fun r10 y11 y12 g13 => bd3 (f_X7_tacks x_this_a y11 y12 x_this_kind x_this_n x_this_a g13) (fun r15 y16 g17 => some (r10 - r15, y16, y12, g17)))) else bd4 (f_X7_shipLands p0 x_this_traceCount x_this_parted x_this_kind x_this_n x_this_a f_this_bodies) (fun r2 y3 y4 g5 => some (r2, y3, y4, g5)))
set_option maxRecDepth 100000 in
set_option maxHeartbeats 4000000 in
theorem c_X7_lands {l : Launch} {G : Gt} {h_this h_this_bodies : Nat} {p0 : Int32} {x_this_traceCount : Int32} {x_this_parted : Int32} {x_this_kind : Int32} {x_this_n : Int32} {x_this_a : Int32} {f_this_bodies : Nat → Int32} {r : Int32} {m_this_traceCount : Int32} {m_this_parted : Int32} {m_this_bodies : Nat → Int32} (hf : f_X7_lands p0 x_this_traceCount x_this_parted x_this_kind x_this_n x_this_a f_this_bodies = some (r, m_this_traceCount, m_this_parted, m_this_bodies)) : mFi l G yX7_lands cX7_lands 2 .int 6 [.ref h_this, .int p0] [(h_this, ob 7 [.ref h_this_bodies, .int x_this_traceCount, .int x_this_parted, .int x_this_kind, .int x_this_n, .int x_this_a]), (h_this_bodies, ia G 30 f_this_bodies)] r [(h_this, ob 7 [.ref h_this_bodies, .int m_this_traceCount, .int m_this_parted, .int x_this_kind, .int x_this_n, .int x_this_a]), (h_this_bodies, ia G 30 m_this_bodies)] := by
  refine mFi.of (by decide +kernel) (Nat.le_of_ble_eq_true rfl) ?_
  intro p e s m below meth c A C hr hlk h ls hl
  obtain ⟨hx, hb, hml, hown, hts⟩ := id C
  replace hl : lv_has ls 2 [(0, .ref h_this), (1, .int p0)] := hl
  unfold f_X7_lands at hf
  refine lv_aload_n hx hb dX7_lands_0 rfl (lv_at hl 0 rfl) ?_
  refine r_get C h fk_X7_23 0 rfl rfl dX7_lands_1 ?_
  refine lv_iconst (v := (3 : Int32)) hx hb dX7_lands_4 rfl ?_
  refine lv_icmp_ne (tgt := 29) hx hb dX7_lands_5 rfl (fun c1 => ?_) (fun c1 => ?_)
  · replace hf := ifn c1 hf
    refine lv_aload_n hx hb dX7_lands_29 rfl (lv_at hl 0 rfl) ?_
    refine lv_iload_n hx hb dX7_lands_30 rfl (lv_at hl 1 rfl) ?_
    replace hf := bd4_inv hf
    obtain ⟨r2, y3, y4, g5, hc6, hf⟩ := hf
    refine r_ciV (ws' := [(h_this, ob 7 [.ref h_this_bodies, .int y3, .int y4, .int x_this_kind, .int x_this_n, .int x_this_a]), (h_this_bodies, ia G 30 g5)]) C h (c_X7_shipLands hc6) mv_X7_52 rfl 0 rfl [0, 1] rfl rfl rfl rfl rfl hl.1 rfl (Nat.le_of_ble_eq_true rfl) (rok (by decide)) dX7_lands_31 (fun H locs h => ?_)
    cases hf
    exact r_iret C h hr hlk rfl dX7_lands_34
  · replace hf := ifp c1 hf
    refine lv_aload_n hx hb dX7_lands_8 rfl (lv_at hl 0 rfl) ?_
    refine lv_bipush (v := (51 : Int32)) hx hb dX7_lands_9 rfl ?_
    replace hf := bd2_inv hf
    obtain ⟨y7, g8, hc9, hf⟩ := hf
    refine r_cvV (ws' := [(h_this, ob 7 [.ref h_this_bodies, .int y7, .int x_this_parted, .int x_this_kind, .int x_this_n, .int x_this_a]), (h_this_bodies, ia G 30 g8)]) C h (c_X7_begin hc9) mv_X7_32 rfl 0 rfl [0, 1] rfl rfl rfl rfl rfl hl.1 rfl (Nat.le_of_ble_eq_true rfl) (rok (by decide)) dX7_lands_11 (fun H locs h => ?_)
    refine lv_aload_n hx hb dX7_lands_14 rfl (lv_at hl 0 rfl) ?_
    refine lv_iload_n hx hb dX7_lands_15 rfl (lv_at hl 1 rfl) ?_
    replace hf := bd4_inv hf
    obtain ⟨r10, y11, y12, g13, hc14, hf⟩ := hf
    refine r_ciV (ws' := [(h_this, ob 7 [.ref h_this_bodies, .int y11, .int y12, .int x_this_kind, .int x_this_n, .int x_this_a]), (h_this_bodies, ia G 30 g13)]) C h (c_X7_shipLands hc14) mv_X7_52 rfl 0 rfl [0, 1] rfl rfl rfl rfl rfl hl.1 rfl (Nat.le_of_ble_eq_true rfl) (rok (by decide)) dX7_lands_16 (fun H locs h => ?_)
    refine lv_aload_n hx hb dX7_lands_19 rfl (lv_at hl 0 rfl) ?_
    refine lv_aload_n hx hb dX7_lands_20 rfl (lv_at hl 0 rfl) ?_
    refine r_get C h fk_X7_29 0 rfl rfl dX7_lands_21 ?_
    replace hf := bd3_inv hf
    obtain ⟨r15, y16, g17, hc18, hf⟩ := hf
    refine r_ciV (ws' := [(h_this, ob 7 [.ref h_this_bodies, .int y16, .int y12, .int x_this_kind, .int x_this_n, .int x_this_a]), (h_this_bodies, ia G 30 g17)]) C h (c_X7_tacks hc18) mv_X7_55 rfl 0 rfl [0, 1] rfl rfl rfl rfl rfl hl.1 rfl (Nat.le_of_ble_eq_true rfl) (rok (by decide)) dX7_lands_24 (fun H locs h => ?_)
    refine lv_isub hx hb dX7_lands_27 ?_
    cases hf
    exact r_iret C h hr hlk rfl dX7_lands_28
def f_X8_act_b162 (v5 : Int32) (y_this_thing_traceCount : Int32) (y_this_thing_parted : Int32) (y_this_thing_kind : Int32) (y_this_thing_n : Int32) (y_this_thing_a : Int32) (g_this_thing_bodies : Nat → Int32) : Option (Int32 × Int32 × Int32 × Int32 × Int32 × Int32 × (Nat → Int32)) := (if y_this_thing_parted = 0 then some (v5, y_this_thing_traceCount, y_this_thing_parted, y_this_thing_kind, y_this_thing_n, y_this_thing_a, g_this_thing_bodies) else some ((-15 : Int32), y_this_thing_traceCount, y_this_thing_parted, y_this_thing_kind, y_this_thing_n, y_this_thing_a, g_this_thing_bodies))
def f_X8_act_b27 (p1 : Int32) (p2 : Int32) (x_this_rock_count : Int32) (f_this_rock_kinds : Nat → Int32) (f_this_rock_lanes : Nat → Int32) (x_this_thing_kind : Int32) (x_this_thing_n : Int32) (x_this_thing_a : Int32) (f_this_thing_bodies : Nat → Int32) (s0 : Int32) (y_this_thing_traceCount : Int32) (y_this_thing_parted : Int32) : Option (Int32 × Int32 × Int32 × Int32 × Int32 × Int32 × (Nat → Int32)) := bd1 (f_X3_has s0 x_this_rock_count) (fun r7 => (if r7 = 0 then some ((0 : Int32), y_this_thing_traceCount, y_this_thing_parted, x_this_thing_kind, x_this_thing_n, x_this_thing_a, f_this_thing_bodies) else chkI s0 6 (chkI s0 6 (bd3 (f_X7_stand (f_this_rock_kinds s0.toNatClampNeg) s0 (f_this_rock_lanes s0.toNatClampNeg)) (fun y12 y13 y14 => (if p1 = (0 : Int32) then bd3 (f_X7_sights p2 y_this_thing_traceCount y_this_thing_parted y12 y13 f_this_thing_bodies) (fun r20 y21 g22 => f_X8_act_b162 r20 y21 y_this_thing_parted y12 y13 y14 g22) else (if p1 = (1 : Int32) then bd3 (f_X7_tacks p2 y_this_thing_traceCount y_this_thing_parted y12 y13 y14 f_this_thing_bodies) (fun r25 y26 g27 => f_X8_act_b162 r25 y26 y_this_thing_parted y12 y13 y14 g27) else (if p1 = (2 : Int32) then bd4 (f_X7_sounds p2 y_this_thing_traceCount y_this_thing_parted y12 y13 y14 f_this_thing_bodies) (fun r29 y30 y31 g32 => f_X8_act_b162 r29 y30 y31 y12 y13 y14 g32) else (if p1 = (3 : Int32) then bd4 (f_X7_lands p2 y_this_thing_traceCount y_this_thing_parted y12 y13 y14 f_this_thing_bodies) (fun r34 y35 y36 g37 => f_X8_act_b162 r34 y35 y36 y12 y13 y14 g37) else some ((0 : Int32), y_this_thing_traceCount, y_this_thing_parted, y12, y13, y14, f_this_thing_bodies))))))))))
def f_X8_act (p0 : Int32) (p1 : Int32) (p2 : Int32) (f_this_host_holds : Nat → Int32) (f_this_host_shelfShips : Nat → Int32) (x_this_rock_count : Int32) (f_this_rock_kinds : Nat → Int32) (f_this_rock_lanes : Nat → Int32) (x_this_thing_kind : Int32) (x_this_thing_n : Int32) (x_this_thing_a : Int32) (f_this_thing_bodies : Nat → Int32) : Option (Int32 × Int32 × Int32 × Int32 × Int32 × Int32 × (Nat → Int32)) := bd2 (f_X7_forgetTrace) (fun y1 y2 => bd1 (f_X0_hasShelf p0) (fun r4 => (if r4 = 0 then f_X8_act_b27 p1 p2 x_this_rock_count f_this_rock_kinds f_this_rock_lanes x_this_thing_kind x_this_thing_n x_this_thing_a f_this_thing_bodies (-3 : Int32) y1 y2 else bd1 (f_X0_shipOn p0 f_this_host_holds f_this_host_shelfShips) (fun r39 => f_X8_act_b27 p1 p2 x_this_rock_count f_this_rock_kinds f_this_rock_lanes x_this_thing_kind x_this_thing_n x_this_thing_a f_this_thing_bodies r39 y1 y2))))
set_option maxRecDepth 100000 in
set_option maxHeartbeats 4000000 in
theorem c_X8_act {l : Launch} {G : Gt} {h_this h_this_rock h_this_kept h_this_trial h_this_planner h_this_reader h_this_draft h_this_host h_this_thing h_this_tape h_this_rows h_this_host_sorts h_this_host_sizes h_this_host_items h_this_host_holds h_this_host_shelfShips h_this_host_shelfSorts h_this_host_shelfSizes h_this_rock_kinds h_this_rock_trims h_this_rock_lanes h_this_rock_lights h_this_rock_currents h_this_rock_buoys h_this_rock_now h_this_rock_rules h_this_rock_reports h_this_thing_bodies : Nat} {p0 : Int32} {p1 : Int32} {p2 : Int32} {x_this_tapeCount : Int32} {x_this_rowCount : Int32} {x_this_isKept : Int32} {f_this_host_holds : Nat → Int32} {f_this_host_shelfShips : Nat → Int32} {x_this_rock_count : Int32} {x_this_rock_end : Int32} {x_this_rock_z : Int32} {f_this_rock_kinds : Nat → Int32} {f_this_rock_lanes : Nat → Int32} {x_this_thing_traceCount : Int32} {x_this_thing_parted : Int32} {x_this_thing_kind : Int32} {x_this_thing_n : Int32} {x_this_thing_a : Int32} {f_this_thing_bodies : Nat → Int32} {r : Int32} {m_this_thing_traceCount : Int32} {m_this_thing_parted : Int32} {m_this_thing_kind : Int32} {m_this_thing_n : Int32} {m_this_thing_a : Int32} {m_this_thing_bodies : Nat → Int32} (hf : f_X8_act p0 p1 p2 f_this_host_holds f_this_host_shelfShips x_this_rock_count f_this_rock_kinds f_this_rock_lanes x_this_thing_kind x_this_thing_n x_this_thing_a f_this_thing_bodies = some (r, m_this_thing_traceCount, m_this_thing_parted, m_this_thing_kind, m_this_thing_n, m_this_thing_a, m_this_thing_bodies)) : mFi l G yX8_act cX8_act 6 .int 7 [.ref h_this, .int p0, .int p1, .int p2] [(h_this, ob 8 [.ref h_this_rock, .ref h_this_kept, .ref h_this_trial, .ref h_this_planner, .ref h_this_reader, .ref h_this_draft, .ref h_this_host, .ref h_this_thing, .ref h_this_tape, .ref h_this_rows, .int x_this_tapeCount, .int x_this_rowCount, .int x_this_isKept]), (h_this_host, ob 0 [.ref h_this_host_sorts, .ref h_this_host_sizes, .ref h_this_host_items, .ref h_this_host_holds, .ref h_this_host_shelfShips, .ref h_this_host_shelfSorts, .ref h_this_host_shelfSizes]), (h_this_host_holds, ia G 4 f_this_host_holds), (h_this_host_shelfShips, ia G 4 f_this_host_shelfShips), (h_this_rock, ob 3 [.ref h_this_rock_kinds, .ref h_this_rock_trims, .ref h_this_rock_lanes, .ref h_this_rock_lights, .ref h_this_rock_currents, .ref h_this_rock_buoys, .ref h_this_rock_now, .ref h_this_rock_rules, .ref h_this_rock_reports, .int x_this_rock_count, .int x_this_rock_end, .int x_this_rock_z]), (h_this_rock_kinds, ia G 6 f_this_rock_kinds), (h_this_rock_lanes, ia G 6 f_this_rock_lanes), (h_this_thing, ob 7 [.ref h_this_thing_bodies, .int x_this_thing_traceCount, .int x_this_thing_parted, .int x_this_thing_kind, .int x_this_thing_n, .int x_this_thing_a]), (h_this_thing_bodies, ia G 30 f_this_thing_bodies)] r [(h_this, ob 8 [.ref h_this_rock, .ref h_this_kept, .ref h_this_trial, .ref h_this_planner, .ref h_this_reader, .ref h_this_draft, .ref h_this_host, .ref h_this_thing, .ref h_this_tape, .ref h_this_rows, .int x_this_tapeCount, .int x_this_rowCount, .int x_this_isKept]), (h_this_host, ob 0 [.ref h_this_host_sorts, .ref h_this_host_sizes, .ref h_this_host_items, .ref h_this_host_holds, .ref h_this_host_shelfShips, .ref h_this_host_shelfSorts, .ref h_this_host_shelfSizes]), (h_this_host_holds, ia G 4 f_this_host_holds), (h_this_host_shelfShips, ia G 4 f_this_host_shelfShips), (h_this_rock, ob 3 [.ref h_this_rock_kinds, .ref h_this_rock_trims, .ref h_this_rock_lanes, .ref h_this_rock_lights, .ref h_this_rock_currents, .ref h_this_rock_buoys, .ref h_this_rock_now, .ref h_this_rock_rules, .ref h_this_rock_reports, .int x_this_rock_count, .int x_this_rock_end, .int x_this_rock_z]), (h_this_rock_kinds, ia G 6 f_this_rock_kinds), (h_this_rock_lanes, ia G 6 f_this_rock_lanes), (h_this_thing, ob 7 [.ref h_this_thing_bodies, .int m_this_thing_traceCount, .int m_this_thing_parted, .int m_this_thing_kind, .int m_this_thing_n, .int m_this_thing_a]), (h_this_thing_bodies, ia G 30 m_this_thing_bodies)] := by
  refine mFi.of (by decide +kernel) (Nat.le_of_ble_eq_true rfl) ?_
  intro p e s m below meth c A C hr hlk h ls hl
  obtain ⟨hx, hb, hml, hown, hts⟩ := id C
  replace hl : lv_has ls 6 [(0, .ref h_this), (1, .int p0), (2, .int p1), (3, .int p2)] := hl
  unfold f_X8_act at hf
  refine with_K G A 6 (fun K hK1 hK2 => ?_)
  have B162 : ∀ (v5 : Int32) (y_this_thing_traceCount : Int32) (y_this_thing_parted : Int32) (y_this_thing_kind : Int32) (y_this_thing_n : Int32) (y_this_thing_a : Int32) (g_this_thing_bodies : Nat → Int32), f_X8_act_b162 v5 y_this_thing_traceCount y_this_thing_parted y_this_thing_kind y_this_thing_n y_this_thing_a g_this_thing_bodies = some (r, m_this_thing_traceCount, m_this_thing_parted, m_this_thing_kind, m_this_thing_n, m_this_thing_a, m_this_thing_bodies) → K 162 ([] : List Value) [(h_this, ob 8 [.ref h_this_rock, .ref h_this_kept, .ref h_this_trial, .ref h_this_planner, .ref h_this_reader, .ref h_this_draft, .ref h_this_host, .ref h_this_thing, .ref h_this_tape, .ref h_this_rows, .int x_this_tapeCount, .int x_this_rowCount, .int x_this_isKept]), (h_this_host, ob 0 [.ref h_this_host_sorts, .ref h_this_host_sizes, .ref h_this_host_items, .ref h_this_host_holds, .ref h_this_host_shelfShips, .ref h_this_host_shelfSorts, .ref h_this_host_shelfSizes]), (h_this_host_holds, ia G 4 f_this_host_holds), (h_this_host_shelfShips, ia G 4 f_this_host_shelfShips), (h_this_rock, ob 3 [.ref h_this_rock_kinds, .ref h_this_rock_trims, .ref h_this_rock_lanes, .ref h_this_rock_lights, .ref h_this_rock_currents, .ref h_this_rock_buoys, .ref h_this_rock_now, .ref h_this_rock_rules, .ref h_this_rock_reports, .int x_this_rock_count, .int x_this_rock_end, .int x_this_rock_z]), (h_this_rock_kinds, ia G 6 f_this_rock_kinds), (h_this_rock_lanes, ia G 6 f_this_rock_lanes), (h_this_thing, ob 7 [.ref h_this_thing_bodies, .int y_this_thing_traceCount, .int y_this_thing_parted, .int y_this_thing_kind, .int y_this_thing_n, .int y_this_thing_a]), (h_this_thing_bodies, ia G 30 g_this_thing_bodies)] [(0, .ref h_this), (5, .int v5)] := by
    intro v5 y_this_thing_traceCount y_this_thing_parted y_this_thing_kind y_this_thing_n y_this_thing_a g_this_thing_bodies hf
    unfold f_X8_act_b162 at hf
    refine hK1 _ _ _ _ (fun H locs ls h hl => ?_)
    refine lv_aload_n hx hb dX8_act_162 rfl (lv_at hl 0 rfl) ?_
    refine r_get C h fk_X8_57 0 rfl rfl dX8_act_163 ?_
    refine r_get C h fk_X8_363 7 rfl rfl dX8_act_166 ?_
    refine lv_if_eq (tgt := 177) hx hb dX8_act_169 rfl (fun c24 => ?_) (fun c24 => ?_)
    · replace hf := ifp c24 hf
      refine lv_iload hx hb dX8_act_177 (lv_at hl 1 rfl) ?_
      cases hf
      exact r_iret C h hr hlk rfl dX8_act_179
    · replace hf := ifn c24 hf
      refine lv_bipush (v := (-15 : Int32)) hx hb dX8_act_172 rfl ?_
      refine lv_goto (tgt := 179) hx hb dX8_act_174 rfl ?_
      cases hf
      exact r_iret C h hr hlk rfl dX8_act_179
  have B27 : ∀ (s0 : Int32) (y_this_thing_traceCount : Int32) (y_this_thing_parted : Int32), f_X8_act_b27 p1 p2 x_this_rock_count f_this_rock_kinds f_this_rock_lanes x_this_thing_kind x_this_thing_n x_this_thing_a f_this_thing_bodies s0 y_this_thing_traceCount y_this_thing_parted = some (r, m_this_thing_traceCount, m_this_thing_parted, m_this_thing_kind, m_this_thing_n, m_this_thing_a, m_this_thing_bodies) → K 27 [.int s0] [(h_this, ob 8 [.ref h_this_rock, .ref h_this_kept, .ref h_this_trial, .ref h_this_planner, .ref h_this_reader, .ref h_this_draft, .ref h_this_host, .ref h_this_thing, .ref h_this_tape, .ref h_this_rows, .int x_this_tapeCount, .int x_this_rowCount, .int x_this_isKept]), (h_this_host, ob 0 [.ref h_this_host_sorts, .ref h_this_host_sizes, .ref h_this_host_items, .ref h_this_host_holds, .ref h_this_host_shelfShips, .ref h_this_host_shelfSorts, .ref h_this_host_shelfSizes]), (h_this_host_holds, ia G 4 f_this_host_holds), (h_this_host_shelfShips, ia G 4 f_this_host_shelfShips), (h_this_rock, ob 3 [.ref h_this_rock_kinds, .ref h_this_rock_trims, .ref h_this_rock_lanes, .ref h_this_rock_lights, .ref h_this_rock_currents, .ref h_this_rock_buoys, .ref h_this_rock_now, .ref h_this_rock_rules, .ref h_this_rock_reports, .int x_this_rock_count, .int x_this_rock_end, .int x_this_rock_z]), (h_this_rock_kinds, ia G 6 f_this_rock_kinds), (h_this_rock_lanes, ia G 6 f_this_rock_lanes), (h_this_thing, ob 7 [.ref h_this_thing_bodies, .int y_this_thing_traceCount, .int y_this_thing_parted, .int x_this_thing_kind, .int x_this_thing_n, .int x_this_thing_a]), (h_this_thing_bodies, ia G 30 f_this_thing_bodies)] [(0, .ref h_this), (2, .int p1), (3, .int p2)] := by
    intro s0 y_this_thing_traceCount y_this_thing_parted hf
    unfold f_X8_act_b27 at hf
    refine hK1 _ _ _ _ (fun H locs ls h hl => ?_)
    refine lv_istore (lv' := [(4, .int s0), (0, .ref h_this), (2, .int p1), (3, .int p2)]) hx hb dX8_act_27 hl (by decide) rfl (fun ls hl => ?_)
    refine lv_aload_n hx hb dX8_act_29 rfl (lv_at hl 1 rfl) ?_
    refine r_get C h fk_X8_10 0 rfl rfl dX8_act_30 ?_
    refine lv_iload hx hb dX8_act_33 (lv_at hl 0 rfl) ?_
    replace hf := bd1_inv hf
    obtain ⟨r7, hc8, hf⟩ := hf
    refine r_ciV0 C h (c_X3_has hc8) mv_X8_90 rfl 4 rfl [4] rfl rfl hl.1 rfl (Nat.le_of_ble_eq_true rfl) (rok (by decide)) dX8_act_35 (fun H locs h => ?_)
    refine lv_if_ne (tgt := 43) hx hb dX8_act_38 rfl (fun c9 => ?_) (fun c9 => ?_)
    · replace hf := ifn c9 hf
      refine lv_aload_n hx hb dX8_act_43 rfl (lv_at hl 1 rfl) ?_
      refine r_get C h fk_X8_57 0 rfl rfl dX8_act_44 ?_
      refine lv_aload_n hx hb dX8_act_47 rfl (lv_at hl 1 rfl) ?_
      refine r_get C h fk_X8_10 0 rfl rfl dX8_act_48 ?_
      refine r_get C h fk_X8_97 4 rfl rfl dX8_act_51 ?_
      refine lv_iload hx hb dX8_act_54 (lv_at hl 0 rfl) ?_
      replace hf := chkI_inv hf
      obtain ⟨hi10, hf⟩ := hf
      refine r_iald C h 5 rfl hi10 dX8_act_56 ?_
      refine lv_iload hx hb dX8_act_57 (lv_at hl 0 rfl) ?_
      refine lv_aload_n hx hb dX8_act_59 rfl (lv_at hl 1 rfl) ?_
      refine r_get C h fk_X8_10 0 rfl rfl dX8_act_60 ?_
      refine r_get C h fk_X8_106 4 rfl rfl dX8_act_63 ?_
      refine lv_iload hx hb dX8_act_66 (lv_at hl 0 rfl) ?_
      replace hf := chkI_inv hf
      obtain ⟨hi11, hf⟩ := hf
      refine r_iald C h 6 rfl hi11 dX8_act_68 ?_
      replace hf := bd3_inv hf
      obtain ⟨y12, y13, y14, hc15, hf⟩ := hf
      refine r_cvV (ws' := [(h_this, ob 8 [.ref h_this_rock, .ref h_this_kept, .ref h_this_trial, .ref h_this_planner, .ref h_this_reader, .ref h_this_draft, .ref h_this_host, .ref h_this_thing, .ref h_this_tape, .ref h_this_rows, .int x_this_tapeCount, .int x_this_rowCount, .int x_this_isKept]), (h_this_host, ob 0 [.ref h_this_host_sorts, .ref h_this_host_sizes, .ref h_this_host_items, .ref h_this_host_holds, .ref h_this_host_shelfShips, .ref h_this_host_shelfSorts, .ref h_this_host_shelfSizes]), (h_this_host_holds, ia G 4 f_this_host_holds), (h_this_host_shelfShips, ia G 4 f_this_host_shelfShips), (h_this_rock, ob 3 [.ref h_this_rock_kinds, .ref h_this_rock_trims, .ref h_this_rock_lanes, .ref h_this_rock_lights, .ref h_this_rock_currents, .ref h_this_rock_buoys, .ref h_this_rock_now, .ref h_this_rock_rules, .ref h_this_rock_reports, .int x_this_rock_count, .int x_this_rock_end, .int x_this_rock_z]), (h_this_rock_kinds, ia G 6 f_this_rock_kinds), (h_this_rock_lanes, ia G 6 f_this_rock_lanes), (h_this_thing, ob 7 [.ref h_this_thing_bodies, .int y_this_thing_traceCount, .int y_this_thing_parted, .int y12, .int y13, .int y14]), (h_this_thing_bodies, ia G 30 f_this_thing_bodies)]) C h (c_X7_stand hc15) mv_X8_348 rfl 7 rfl [7] rfl rfl rfl rfl rfl hl.1 rfl (Nat.le_of_ble_eq_true rfl) (rok (by decide)) dX8_act_69 (fun H locs h => ?_)
      refine lv_iconst (v := (0 : Int32)) hx hb dX8_act_72 rfl ?_
      refine lv_istore (lv' := [(5, .int (0 : Int32)), (4, .int s0), (0, .ref h_this), (2, .int p1), (3, .int p2)]) hx hb dX8_act_73 hl (by decide) rfl (fun ls hl => ?_)
      refine lv_iload_n hx hb dX8_act_75 rfl (lv_at hl 3 rfl) ?_
      by_cases c16 : p1 = (0 : Int32)
      · replace hf := ifp c16 hf
        refine r_tab (tgt := 108) C dX8_act_76 (0 : Int32) c16 (by decide) rfl rfl ?_
        refine lv_aload_n hx hb dX8_act_108 rfl (lv_at hl 2 rfl) ?_
        refine r_get C h fk_X8_57 0 rfl rfl dX8_act_109 ?_
        refine lv_iload_n hx hb dX8_act_112 rfl (lv_at hl 4 rfl) ?_
        replace hf := bd3_inv hf
        obtain ⟨r20, y21, g22, hc23, hf⟩ := hf
        refine r_ciV (ws' := [(h_this, ob 8 [.ref h_this_rock, .ref h_this_kept, .ref h_this_trial, .ref h_this_planner, .ref h_this_reader, .ref h_this_draft, .ref h_this_host, .ref h_this_thing, .ref h_this_tape, .ref h_this_rows, .int x_this_tapeCount, .int x_this_rowCount, .int x_this_isKept]), (h_this_host, ob 0 [.ref h_this_host_sorts, .ref h_this_host_sizes, .ref h_this_host_items, .ref h_this_host_holds, .ref h_this_host_shelfShips, .ref h_this_host_shelfSorts, .ref h_this_host_shelfSizes]), (h_this_host_holds, ia G 4 f_this_host_holds), (h_this_host_shelfShips, ia G 4 f_this_host_shelfShips), (h_this_rock, ob 3 [.ref h_this_rock_kinds, .ref h_this_rock_trims, .ref h_this_rock_lanes, .ref h_this_rock_lights, .ref h_this_rock_currents, .ref h_this_rock_buoys, .ref h_this_rock_now, .ref h_this_rock_rules, .ref h_this_rock_reports, .int x_this_rock_count, .int x_this_rock_end, .int x_this_rock_z]), (h_this_rock_kinds, ia G 6 f_this_rock_kinds), (h_this_rock_lanes, ia G 6 f_this_rock_lanes), (h_this_thing, ob 7 [.ref h_this_thing_bodies, .int y21, .int y_this_thing_parted, .int y12, .int y13, .int y14]), (h_this_thing_bodies, ia G 30 g22)]) C h (c_X7_sights hc23) mv_X8_351 rfl 7 rfl [7, 8] rfl rfl rfl rfl rfl hl.1 rfl (Nat.le_of_ble_eq_true rfl) (rok (by decide)) dX8_act_113 (fun H locs h => ?_)
        refine lv_istore (lv' := [(5, .int r20), (4, .int s0), (0, .ref h_this), (2, .int p1), (3, .int p2)]) hx hb dX8_act_116 hl (by decide) rfl (fun ls hl => ?_)
        refine lv_goto (tgt := 162) hx hb dX8_act_118 rfl ?_
        exact hK2 _ _ _ _ (B162 r20 y21 y_this_thing_parted y12 y13 y14 g22 hf) _ _ _ h (lv_sub hl [2, 0] rfl)
      · replace hf := ifn c16 hf
        by_cases c17 : p1 = (1 : Int32)
        · replace hf := ifp c17 hf
          refine r_tab (tgt := 121) C dX8_act_76 (1 : Int32) c17 (by decide) rfl rfl ?_
          refine lv_aload_n hx hb dX8_act_121 rfl (lv_at hl 2 rfl) ?_
          refine r_get C h fk_X8_57 0 rfl rfl dX8_act_122 ?_
          refine lv_iload_n hx hb dX8_act_125 rfl (lv_at hl 4 rfl) ?_
          replace hf := bd3_inv hf
          obtain ⟨r25, y26, g27, hc28, hf⟩ := hf
          refine r_ciV (ws' := [(h_this, ob 8 [.ref h_this_rock, .ref h_this_kept, .ref h_this_trial, .ref h_this_planner, .ref h_this_reader, .ref h_this_draft, .ref h_this_host, .ref h_this_thing, .ref h_this_tape, .ref h_this_rows, .int x_this_tapeCount, .int x_this_rowCount, .int x_this_isKept]), (h_this_host, ob 0 [.ref h_this_host_sorts, .ref h_this_host_sizes, .ref h_this_host_items, .ref h_this_host_holds, .ref h_this_host_shelfShips, .ref h_this_host_shelfSorts, .ref h_this_host_shelfSizes]), (h_this_host_holds, ia G 4 f_this_host_holds), (h_this_host_shelfShips, ia G 4 f_this_host_shelfShips), (h_this_rock, ob 3 [.ref h_this_rock_kinds, .ref h_this_rock_trims, .ref h_this_rock_lanes, .ref h_this_rock_lights, .ref h_this_rock_currents, .ref h_this_rock_buoys, .ref h_this_rock_now, .ref h_this_rock_rules, .ref h_this_rock_reports, .int x_this_rock_count, .int x_this_rock_end, .int x_this_rock_z]), (h_this_rock_kinds, ia G 6 f_this_rock_kinds), (h_this_rock_lanes, ia G 6 f_this_rock_lanes), (h_this_thing, ob 7 [.ref h_this_thing_bodies, .int y26, .int y_this_thing_parted, .int y12, .int y13, .int y14]), (h_this_thing_bodies, ia G 30 g27)]) C h (c_X7_tacks hc28) mv_X8_354 rfl 7 rfl [7, 8] rfl rfl rfl rfl rfl hl.1 rfl (Nat.le_of_ble_eq_true rfl) (rok (by decide)) dX8_act_126 (fun H locs h => ?_)
          refine lv_istore (lv' := [(5, .int r25), (4, .int s0), (0, .ref h_this), (2, .int p1), (3, .int p2)]) hx hb dX8_act_129 hl (by decide) rfl (fun ls hl => ?_)
          refine lv_goto (tgt := 162) hx hb dX8_act_131 rfl ?_
          exact hK2 _ _ _ _ (B162 r25 y26 y_this_thing_parted y12 y13 y14 g27 hf) _ _ _ h (lv_sub hl [2, 0] rfl)
        · replace hf := ifn c17 hf
          by_cases c18 : p1 = (2 : Int32)
          · replace hf := ifp c18 hf
            refine r_tab (tgt := 134) C dX8_act_76 (2 : Int32) c18 (by decide) rfl rfl ?_
            refine lv_aload_n hx hb dX8_act_134 rfl (lv_at hl 2 rfl) ?_
            refine r_get C h fk_X8_57 0 rfl rfl dX8_act_135 ?_
            refine lv_iload_n hx hb dX8_act_138 rfl (lv_at hl 4 rfl) ?_
            replace hf := bd4_inv hf
            obtain ⟨r29, y30, y31, g32, hc33, hf⟩ := hf
            refine r_ciV (ws' := [(h_this, ob 8 [.ref h_this_rock, .ref h_this_kept, .ref h_this_trial, .ref h_this_planner, .ref h_this_reader, .ref h_this_draft, .ref h_this_host, .ref h_this_thing, .ref h_this_tape, .ref h_this_rows, .int x_this_tapeCount, .int x_this_rowCount, .int x_this_isKept]), (h_this_host, ob 0 [.ref h_this_host_sorts, .ref h_this_host_sizes, .ref h_this_host_items, .ref h_this_host_holds, .ref h_this_host_shelfShips, .ref h_this_host_shelfSorts, .ref h_this_host_shelfSizes]), (h_this_host_holds, ia G 4 f_this_host_holds), (h_this_host_shelfShips, ia G 4 f_this_host_shelfShips), (h_this_rock, ob 3 [.ref h_this_rock_kinds, .ref h_this_rock_trims, .ref h_this_rock_lanes, .ref h_this_rock_lights, .ref h_this_rock_currents, .ref h_this_rock_buoys, .ref h_this_rock_now, .ref h_this_rock_rules, .ref h_this_rock_reports, .int x_this_rock_count, .int x_this_rock_end, .int x_this_rock_z]), (h_this_rock_kinds, ia G 6 f_this_rock_kinds), (h_this_rock_lanes, ia G 6 f_this_rock_lanes), (h_this_thing, ob 7 [.ref h_this_thing_bodies, .int y30, .int y31, .int y12, .int y13, .int y14]), (h_this_thing_bodies, ia G 30 g32)]) C h (c_X7_sounds hc33) mv_X8_357 rfl 7 rfl [7, 8] rfl rfl rfl rfl rfl hl.1 rfl (Nat.le_of_ble_eq_true rfl) (rok (by decide)) dX8_act_139 (fun H locs h => ?_)
            refine lv_istore (lv' := [(5, .int r29), (4, .int s0), (0, .ref h_this), (2, .int p1), (3, .int p2)]) hx hb dX8_act_142 hl (by decide) rfl (fun ls hl => ?_)
            refine lv_goto (tgt := 162) hx hb dX8_act_144 rfl ?_
            exact hK2 _ _ _ _ (B162 r29 y30 y31 y12 y13 y14 g32 hf) _ _ _ h (lv_sub hl [2, 0] rfl)
          · replace hf := ifn c18 hf
            by_cases c19 : p1 = (3 : Int32)
            · replace hf := ifp c19 hf
              refine r_tab (tgt := 147) C dX8_act_76 (3 : Int32) c19 (by decide) rfl rfl ?_
              refine lv_aload_n hx hb dX8_act_147 rfl (lv_at hl 2 rfl) ?_
              refine r_get C h fk_X8_57 0 rfl rfl dX8_act_148 ?_
              refine lv_iload_n hx hb dX8_act_151 rfl (lv_at hl 4 rfl) ?_
              replace hf := bd4_inv hf
              obtain ⟨r34, y35, y36, g37, hc38, hf⟩ := hf
              refine r_ciV (ws' := [(h_this, ob 8 [.ref h_this_rock, .ref h_this_kept, .ref h_this_trial, .ref h_this_planner, .ref h_this_reader, .ref h_this_draft, .ref h_this_host, .ref h_this_thing, .ref h_this_tape, .ref h_this_rows, .int x_this_tapeCount, .int x_this_rowCount, .int x_this_isKept]), (h_this_host, ob 0 [.ref h_this_host_sorts, .ref h_this_host_sizes, .ref h_this_host_items, .ref h_this_host_holds, .ref h_this_host_shelfShips, .ref h_this_host_shelfSorts, .ref h_this_host_shelfSizes]), (h_this_host_holds, ia G 4 f_this_host_holds), (h_this_host_shelfShips, ia G 4 f_this_host_shelfShips), (h_this_rock, ob 3 [.ref h_this_rock_kinds, .ref h_this_rock_trims, .ref h_this_rock_lanes, .ref h_this_rock_lights, .ref h_this_rock_currents, .ref h_this_rock_buoys, .ref h_this_rock_now, .ref h_this_rock_rules, .ref h_this_rock_reports, .int x_this_rock_count, .int x_this_rock_end, .int x_this_rock_z]), (h_this_rock_kinds, ia G 6 f_this_rock_kinds), (h_this_rock_lanes, ia G 6 f_this_rock_lanes), (h_this_thing, ob 7 [.ref h_this_thing_bodies, .int y35, .int y36, .int y12, .int y13, .int y14]), (h_this_thing_bodies, ia G 30 g37)]) C h (c_X7_lands hc38) mv_X8_360 rfl 7 rfl [7, 8] rfl rfl rfl rfl rfl hl.1 rfl (Nat.le_of_ble_eq_true rfl) (rok (by decide)) dX8_act_152 (fun H locs h => ?_)
              refine lv_istore (lv' := [(5, .int r34), (4, .int s0), (0, .ref h_this), (2, .int p1), (3, .int p2)]) hx hb dX8_act_155 hl (by decide) rfl (fun ls hl => ?_)
              refine lv_goto (tgt := 162) hx hb dX8_act_157 rfl ?_
              exact hK2 _ _ _ _ (B162 r34 y35 y36 y12 y13 y14 g37 hf) _ _ _ h (lv_sub hl [2, 0] rfl)
            · replace hf := ifn c19 hf
              refine r_tabD (tgt := 160) C dX8_act_76 [(0 : Int32), (1 : Int32), (2 : Int32), (3 : Int32)] (by decide) (nel_c c16 (nel_c c17 (nel_c c18 (nel_c c19 nel_0)))) rfl ?_
              refine lv_iconst (v := (0 : Int32)) hx hb dX8_act_160 rfl ?_
              cases hf
              exact r_iret C h hr hlk rfl dX8_act_161
    · replace hf := ifp c9 hf
      refine lv_iconst (v := (0 : Int32)) hx hb dX8_act_41 rfl ?_
      cases hf
      exact r_iret C h hr hlk rfl dX8_act_42
  refine lv_aload_n hx hb dX8_act_0 rfl (lv_at hl 0 rfl) ?_
  refine r_get C h fk_X8_57 0 rfl rfl dX8_act_1 ?_
  replace hf := bd2_inv hf
  obtain ⟨y1, y2, hc3, hf⟩ := hf
  refine r_cvV (ws' := [(h_this, ob 8 [.ref h_this_rock, .ref h_this_kept, .ref h_this_trial, .ref h_this_planner, .ref h_this_reader, .ref h_this_draft, .ref h_this_host, .ref h_this_thing, .ref h_this_tape, .ref h_this_rows, .int x_this_tapeCount, .int x_this_rowCount, .int x_this_isKept]), (h_this_host, ob 0 [.ref h_this_host_sorts, .ref h_this_host_sizes, .ref h_this_host_items, .ref h_this_host_holds, .ref h_this_host_shelfShips, .ref h_this_host_shelfSorts, .ref h_this_host_shelfSizes]), (h_this_host_holds, ia G 4 f_this_host_holds), (h_this_host_shelfShips, ia G 4 f_this_host_shelfShips), (h_this_rock, ob 3 [.ref h_this_rock_kinds, .ref h_this_rock_trims, .ref h_this_rock_lanes, .ref h_this_rock_lights, .ref h_this_rock_currents, .ref h_this_rock_buoys, .ref h_this_rock_now, .ref h_this_rock_rules, .ref h_this_rock_reports, .int x_this_rock_count, .int x_this_rock_end, .int x_this_rock_z]), (h_this_rock_kinds, ia G 6 f_this_rock_kinds), (h_this_rock_lanes, ia G 6 f_this_rock_lanes), (h_this_thing, ob 7 [.ref h_this_thing_bodies, .int y1, .int y2, .int x_this_thing_kind, .int x_this_thing_n, .int x_this_thing_a]), (h_this_thing_bodies, ia G 30 f_this_thing_bodies)]) C h (c_X7_forgetTrace hc3) mv_X8_345 rfl 7 rfl [7] rfl rfl rfl rfl rfl hl.1 rfl (Nat.le_of_ble_eq_true rfl) (rok (by decide)) dX8_act_4 (fun H locs h => ?_)
  refine lv_iload_n hx hb dX8_act_7 rfl (lv_at hl 1 rfl) ?_
  replace hf := bd1_inv hf
  obtain ⟨r4, hc5, hf⟩ := hf
  refine r_ciS0 C h (c_X0_hasShelf hc5) ms_X8_318 rfl [] rfl rfl hl.1 rfl (Nat.le_of_ble_eq_true rfl) (rok (by decide)) dX8_act_8 (fun H locs h => ?_)
  refine lv_if_eq (tgt := 25) hx hb dX8_act_11 rfl (fun c6 => ?_) (fun c6 => ?_)
  · replace hf := ifp c6 hf
    refine lv_bipush (v := (-3 : Int32)) hx hb dX8_act_25 rfl ?_
    exact hK2 _ _ _ _ (B27 (-3 : Int32) y1 y2 hf) _ _ _ h (lv_sub hl [0, 2, 3] rfl)
  · replace hf := ifn c6 hf
    refine lv_aload_n hx hb dX8_act_14 rfl (lv_at hl 0 rfl) ?_
    refine r_get C h fk_X8_50 0 rfl rfl dX8_act_15 ?_
    refine lv_iload_n hx hb dX8_act_18 rfl (lv_at hl 1 rfl) ?_
    replace hf := bd1_inv hf
    obtain ⟨r39, hc40, hf⟩ := hf
    refine r_ciV0 C h (c_X0_shipOn hc40) mv_X8_339 rfl 1 rfl [1, 2, 3] rfl rfl hl.1 rfl (Nat.le_of_ble_eq_true rfl) (rok (by decide)) dX8_act_19 (fun H locs h => ?_)
    refine lv_goto (tgt := 27) hx hb dX8_act_22 rfl ?_
    exact hK2 _ _ _ _ (B27 r39 y1 y2 hf) _ _ _ h (lv_sub hl [0, 2, 3] rfl)
def f_X8_trace (p0 : Int32) (x_this_thing_traceCount : Int32) (f_this_thing_bodies : Nat → Int32) : Option (Int32) := bd1 (f_X8_within p0 (0 : Int32) (x_this_thing_traceCount - (1 : Int32))) (fun r1 => (if r1 = 0 then some (-3 : Int32) else chkI p0 30 (some (f_this_thing_bodies p0.toNatClampNeg))))
set_option maxRecDepth 100000 in
set_option maxHeartbeats 4000000 in
theorem c_X8_trace {l : Launch} {G : Gt} {h_this h_this_rock h_this_kept h_this_trial h_this_planner h_this_reader h_this_draft h_this_host h_this_thing h_this_tape h_this_rows h_this_thing_bodies : Nat} {p0 : Int32} {x_this_tapeCount : Int32} {x_this_rowCount : Int32} {x_this_isKept : Int32} {x_this_thing_traceCount : Int32} {x_this_thing_parted : Int32} {x_this_thing_kind : Int32} {x_this_thing_n : Int32} {x_this_thing_a : Int32} {f_this_thing_bodies : Nat → Int32} {r : Int32} (hf : f_X8_trace p0 x_this_thing_traceCount f_this_thing_bodies = some r) : mFi l G yX8_trace cX8_trace 2 .int 1 [.ref h_this, .int p0] [(h_this, ob 8 [.ref h_this_rock, .ref h_this_kept, .ref h_this_trial, .ref h_this_planner, .ref h_this_reader, .ref h_this_draft, .ref h_this_host, .ref h_this_thing, .ref h_this_tape, .ref h_this_rows, .int x_this_tapeCount, .int x_this_rowCount, .int x_this_isKept]), (h_this_thing, ob 7 [.ref h_this_thing_bodies, .int x_this_thing_traceCount, .int x_this_thing_parted, .int x_this_thing_kind, .int x_this_thing_n, .int x_this_thing_a]), (h_this_thing_bodies, ia G 30 f_this_thing_bodies)] r [(h_this, ob 8 [.ref h_this_rock, .ref h_this_kept, .ref h_this_trial, .ref h_this_planner, .ref h_this_reader, .ref h_this_draft, .ref h_this_host, .ref h_this_thing, .ref h_this_tape, .ref h_this_rows, .int x_this_tapeCount, .int x_this_rowCount, .int x_this_isKept]), (h_this_thing, ob 7 [.ref h_this_thing_bodies, .int x_this_thing_traceCount, .int x_this_thing_parted, .int x_this_thing_kind, .int x_this_thing_n, .int x_this_thing_a]), (h_this_thing_bodies, ia G 30 f_this_thing_bodies)] := by
  refine mFi.of (by decide +kernel) (Nat.le_of_ble_eq_true rfl) ?_
  intro p e s m below meth c A C hr hlk h ls hl
  obtain ⟨hx, hb, hml, hown, hts⟩ := id C
  replace hl : lv_has ls 2 [(0, .ref h_this), (1, .int p0)] := hl
  unfold f_X8_trace at hf
  refine lv_iload_n hx hb dX8_trace_0 rfl (lv_at hl 1 rfl) ?_
  refine lv_iconst (v := (0 : Int32)) hx hb dX8_trace_1 rfl ?_
  refine lv_aload_n hx hb dX8_trace_2 rfl (lv_at hl 0 rfl) ?_
  refine r_get C h fk_X8_57 0 rfl rfl dX8_trace_3 ?_
  refine r_get C h fk_X8_366 1 rfl rfl dX8_trace_6 ?_
  refine lv_iconst (v := (1 : Int32)) hx hb dX8_trace_9 rfl ?_
  refine lv_isub hx hb dX8_trace_10 ?_
  replace hf := bd1_inv hf
  obtain ⟨r1, hc2, hf⟩ := hf
  refine r_ciS0 C h (c_X8_within hc2) ms_X8_79 rfl [] rfl rfl hl.1 rfl (Nat.le_of_ble_eq_true rfl) (rok (by decide)) dX8_trace_11 (fun H locs h => ?_)
  refine lv_if_eq (tgt := 29) hx hb dX8_trace_14 rfl (fun c3 => ?_) (fun c3 => ?_)
  · replace hf := ifp c3 hf
    refine lv_bipush (v := (-3 : Int32)) hx hb dX8_trace_29 rfl ?_
    cases hf
    exact r_iret C h hr hlk rfl dX8_trace_31
  · replace hf := ifn c3 hf
    refine lv_aload_n hx hb dX8_trace_17 rfl (lv_at hl 0 rfl) ?_
    refine r_get C h fk_X8_57 0 rfl rfl dX8_trace_18 ?_
    refine r_get C h fk_X8_369 1 rfl rfl dX8_trace_21 ?_
    refine lv_iload_n hx hb dX8_trace_24 rfl (lv_at hl 1 rfl) ?_
    replace hf := chkI_inv hf
    obtain ⟨hi4, hf⟩ := hf
    refine r_iald C h 2 rfl hi4 dX8_trace_25 ?_
    refine lv_goto (tgt := 31) hx hb dX8_trace_26 rfl ?_
    cases hf
    exact r_iret C h hr hlk rfl dX8_trace_31
def f_X8_many (p0 : Int32) (x_this_tapeCount : Int32) (x_this_rowCount : Int32) (x_this_rock_count : Int32) (x_this_rock_now_home : Int32) (x_this_rock_reports_count : Int32) (x_this_rock_rules_count : Int32) (x_this_thing_traceCount : Int32) : Option (Int32) := (if p0 = (0 : Int32) then some x_this_rock_count else (if p0 = (1 : Int32) then some x_this_rock_rules_count else (if p0 = (2 : Int32) then bd1 (f_J6_bitCount_0f7a4 x_this_rock_now_home) (fun r8 => some r8) else (if p0 = (3 : Int32) then some x_this_rock_reports_count else (if p0 = (4 : Int32) then some x_this_rowCount else (if p0 = (5 : Int32) then some x_this_tapeCount else (if p0 = (6 : Int32) then some x_this_thing_traceCount else some (-1 : Int32))))))))
set_option maxRecDepth 100000 in
set_option maxHeartbeats 4000000 in
theorem c_X8_many {l : Launch} {G : Gt} {h_this h_this_rock h_this_kept h_this_trial h_this_planner h_this_reader h_this_draft h_this_host h_this_thing h_this_tape h_this_rows h_this_rock_kinds h_this_rock_trims h_this_rock_lanes h_this_rock_lights h_this_rock_currents h_this_rock_buoys h_this_rock_now h_this_rock_rules h_this_rock_reports h_this_rock_now_off h_this_rock_reports_behinds h_this_rock_reports_askeds h_this_rock_reports_leasts h_this_rock_reports_mosts h_this_rock_rules_kinds h_this_rock_rules_deeds h_this_rock_rules_begins h_this_rock_rules_steps h_this_rock_rules_lefts h_this_rock_rules_rights h_this_rock_rules_facts h_this_thing_bodies : Nat} {p0 : Int32} {x_this_tapeCount : Int32} {x_this_rowCount : Int32} {x_this_isKept : Int32} {x_this_rock_count : Int32} {x_this_rock_end : Int32} {x_this_rock_z : Int32} {x_this_rock_now_watch : Int32} {x_this_rock_now_score : Int32} {x_this_rock_now_home : Int32} {x_this_rock_reports_count : Int32} {x_this_rock_rules_count : Int32} {x_this_rock_rules_size : Int32} {x_this_thing_traceCount : Int32} {x_this_thing_parted : Int32} {x_this_thing_kind : Int32} {x_this_thing_n : Int32} {x_this_thing_a : Int32} {r : Int32} (hf : f_X8_many p0 x_this_tapeCount x_this_rowCount x_this_rock_count x_this_rock_now_home x_this_rock_reports_count x_this_rock_rules_count x_this_thing_traceCount = some r) : mFi l G yX8_many cX8_many 2 .int 1 [.ref h_this, .int p0] [(h_this, ob 8 [.ref h_this_rock, .ref h_this_kept, .ref h_this_trial, .ref h_this_planner, .ref h_this_reader, .ref h_this_draft, .ref h_this_host, .ref h_this_thing, .ref h_this_tape, .ref h_this_rows, .int x_this_tapeCount, .int x_this_rowCount, .int x_this_isKept]), (h_this_rock, ob 3 [.ref h_this_rock_kinds, .ref h_this_rock_trims, .ref h_this_rock_lanes, .ref h_this_rock_lights, .ref h_this_rock_currents, .ref h_this_rock_buoys, .ref h_this_rock_now, .ref h_this_rock_rules, .ref h_this_rock_reports, .int x_this_rock_count, .int x_this_rock_end, .int x_this_rock_z]), (h_this_rock_now, ob 6 [.ref h_this_rock_now_off, .int x_this_rock_now_watch, .int x_this_rock_now_score, .int x_this_rock_now_home]), (h_this_rock_reports, ob 2 [.ref h_this_rock_reports_behinds, .ref h_this_rock_reports_askeds, .ref h_this_rock_reports_leasts, .ref h_this_rock_reports_mosts, .int x_this_rock_reports_count]), (h_this_rock_rules, ob 5 [.ref h_this_rock_rules_kinds, .ref h_this_rock_rules_deeds, .ref h_this_rock_rules_begins, .ref h_this_rock_rules_steps, .ref h_this_rock_rules_lefts, .ref h_this_rock_rules_rights, .ref h_this_rock_rules_facts, .int x_this_rock_rules_count, .int x_this_rock_rules_size]), (h_this_thing, ob 7 [.ref h_this_thing_bodies, .int x_this_thing_traceCount, .int x_this_thing_parted, .int x_this_thing_kind, .int x_this_thing_n, .int x_this_thing_a])] r [(h_this, ob 8 [.ref h_this_rock, .ref h_this_kept, .ref h_this_trial, .ref h_this_planner, .ref h_this_reader, .ref h_this_draft, .ref h_this_host, .ref h_this_thing, .ref h_this_tape, .ref h_this_rows, .int x_this_tapeCount, .int x_this_rowCount, .int x_this_isKept]), (h_this_rock, ob 3 [.ref h_this_rock_kinds, .ref h_this_rock_trims, .ref h_this_rock_lanes, .ref h_this_rock_lights, .ref h_this_rock_currents, .ref h_this_rock_buoys, .ref h_this_rock_now, .ref h_this_rock_rules, .ref h_this_rock_reports, .int x_this_rock_count, .int x_this_rock_end, .int x_this_rock_z]), (h_this_rock_now, ob 6 [.ref h_this_rock_now_off, .int x_this_rock_now_watch, .int x_this_rock_now_score, .int x_this_rock_now_home]), (h_this_rock_reports, ob 2 [.ref h_this_rock_reports_behinds, .ref h_this_rock_reports_askeds, .ref h_this_rock_reports_leasts, .ref h_this_rock_reports_mosts, .int x_this_rock_reports_count]), (h_this_rock_rules, ob 5 [.ref h_this_rock_rules_kinds, .ref h_this_rock_rules_deeds, .ref h_this_rock_rules_begins, .ref h_this_rock_rules_steps, .ref h_this_rock_rules_lefts, .ref h_this_rock_rules_rights, .ref h_this_rock_rules_facts, .int x_this_rock_rules_count, .int x_this_rock_rules_size]), (h_this_thing, ob 7 [.ref h_this_thing_bodies, .int x_this_thing_traceCount, .int x_this_thing_parted, .int x_this_thing_kind, .int x_this_thing_n, .int x_this_thing_a])] := by
  refine mFi.of (by decide +kernel) (Nat.le_of_ble_eq_true rfl) ?_
  intro p e s m below meth c A C hr hlk h ls hl
  obtain ⟨hx, hb, hml, hown, hts⟩ := id C
  replace hl : lv_has ls 2 [(0, .ref h_this), (1, .int p0)] := hl
  unfold f_X8_many at hf
  refine lv_iload_n hx hb dX8_many_0 rfl (lv_at hl 1 rfl) ?_
  by_cases c1 : p0 = (0 : Int32)
  · replace hf := ifp c1 hf
    refine r_tab (tgt := 44) C dX8_many_1 (0 : Int32) c1 (by decide) rfl rfl ?_
    refine lv_aload_n hx hb dX8_many_44 rfl (lv_at hl 0 rfl) ?_
    refine r_get C h fk_X8_10 0 rfl rfl dX8_many_45 ?_
    refine r_get C h fk_X8_83 1 rfl rfl dX8_many_48 ?_
    cases hf
    exact r_iret C h hr hlk rfl dX8_many_51
  · replace hf := ifn c1 hf
    by_cases c2 : p0 = (1 : Int32)
    · replace hf := ifp c2 hf
      refine r_tab (tgt := 52) C dX8_many_1 (1 : Int32) c2 (by decide) rfl rfl ?_
      refine lv_aload_n hx hb dX8_many_52 rfl (lv_at hl 0 rfl) ?_
      refine r_get C h fk_X8_10 0 rfl rfl dX8_many_53 ?_
      refine r_get C h fk_X8_175 1 rfl rfl dX8_many_56 ?_
      refine r_get C h fk_X8_182 4 rfl rfl dX8_many_59 ?_
      cases hf
      exact r_iret C h hr hlk rfl dX8_many_62
    · replace hf := ifn c2 hf
      by_cases c3 : p0 = (2 : Int32)
      · replace hf := ifp c3 hf
        refine r_tab (tgt := 63) C dX8_many_1 (2 : Int32) c3 (by decide) rfl rfl ?_
        refine lv_aload_n hx hb dX8_many_63 rfl (lv_at hl 0 rfl) ?_
        refine r_get C h fk_X8_10 0 rfl rfl dX8_many_64 ?_
        refine r_get C h fk_X8_94 1 rfl rfl dX8_many_67 ?_
        refine r_get C h fk_X8_156 2 rfl rfl dX8_many_70 ?_
        replace hf := bd1_inv hf
        obtain ⟨r8, hc9, hf⟩ := hf
        refine r_ciS0 C h (c_J6_bitCount_0f7a4 hc9) ms_X8_273 rfl [] rfl rfl hl.1 rfl (Nat.le_of_ble_eq_true rfl) (rok (by decide)) dX8_many_73 (fun H locs h => ?_)
        cases hf
        exact r_iret C h hr hlk rfl dX8_many_76
      · replace hf := ifn c3 hf
        by_cases c4 : p0 = (3 : Int32)
        · replace hf := ifp c4 hf
          refine r_tab (tgt := 77) C dX8_many_1 (3 : Int32) c4 (by decide) rfl rfl ?_
          refine lv_aload_n hx hb dX8_many_77 rfl (lv_at hl 0 rfl) ?_
          refine r_get C h fk_X8_10 0 rfl rfl dX8_many_78 ?_
          refine r_get C h fk_X8_244 1 rfl rfl dX8_many_81 ?_
          refine r_get C h fk_X8_248 3 rfl rfl dX8_many_84 ?_
          cases hf
          exact r_iret C h hr hlk rfl dX8_many_87
        · replace hf := ifn c4 hf
          by_cases c5 : p0 = (4 : Int32)
          · replace hf := ifp c5 hf
            refine r_tab (tgt := 88) C dX8_many_1 (4 : Int32) c5 (by decide) rfl rfl ?_
            refine lv_aload_n hx hb dX8_many_88 rfl (lv_at hl 0 rfl) ?_
            refine r_get C h fk_X8_72 0 rfl rfl dX8_many_89 ?_
            cases hf
            exact r_iret C h hr hlk rfl dX8_many_92
          · replace hf := ifn c5 hf
            by_cases c6 : p0 = (5 : Int32)
            · replace hf := ifp c6 hf
              refine r_tab (tgt := 93) C dX8_many_1 (5 : Int32) c6 (by decide) rfl rfl ?_
              refine lv_aload_n hx hb dX8_many_93 rfl (lv_at hl 0 rfl) ?_
              refine r_get C h fk_X8_68 0 rfl rfl dX8_many_94 ?_
              cases hf
              exact r_iret C h hr hlk rfl dX8_many_97
            · replace hf := ifn c6 hf
              by_cases c7 : p0 = (6 : Int32)
              · replace hf := ifp c7 hf
                refine r_tab (tgt := 98) C dX8_many_1 (6 : Int32) c7 (by decide) rfl rfl ?_
                refine lv_aload_n hx hb dX8_many_98 rfl (lv_at hl 0 rfl) ?_
                refine r_get C h fk_X8_57 0 rfl rfl dX8_many_99 ?_
                refine r_get C h fk_X8_366 5 rfl rfl dX8_many_102 ?_
                cases hf
                exact r_iret C h hr hlk rfl dX8_many_105
              · replace hf := ifn c7 hf
                refine r_tabD (tgt := 106) C dX8_many_1 [(0 : Int32), (1 : Int32), (2 : Int32), (3 : Int32), (4 : Int32), (5 : Int32), (6 : Int32)] (by decide) (nel_c c1 (nel_c c2 (nel_c c3 (nel_c c4 (nel_c c5 (nel_c c6 (nel_c c7 nel_0))))))) rfl ?_
                refine lv_iconst (v := (-1 : Int32)) hx hb dX8_many_106 rfl ?_
                cases hf
                exact r_iret C h hr hlk rfl dX8_many_107
def f_X2_become (x_a0_count : Int32) (f_a0_askeds : Nat → Int32) (f_a0_behinds : Nat → Int32) (f_a0_leasts : Nat → Int32) (f_a0_mosts : Nat → Int32) (f_this_askeds : Nat → Int32) (f_this_behinds : Nat → Int32) (f_this_leasts : Nat → Int32) (f_this_mosts : Nat → Int32) : Option (Int32 × (Nat → Int32) × (Nat → Int32) × (Nat → Int32) × (Nat → Int32)) := chkC (0 : Int32) (0 : Int32) (6 : Int32) 6 6 (chkC (0 : Int32) (0 : Int32) (6 : Int32) 6 6 (chkC (0 : Int32) (0 : Int32) (6 : Int32) 6 6 (chkC (0 : Int32) (0 : Int32) (6 : Int32) 6 6 (some (x_a0_count, va_cpy f_a0_askeds f_this_askeds (0 : Int32).toNatClampNeg (0 : Int32).toNatClampNeg (6 : Int32).toNatClampNeg, va_cpy f_a0_behinds f_this_behinds (0 : Int32).toNatClampNeg (0 : Int32).toNatClampNeg (6 : Int32).toNatClampNeg, va_cpy f_a0_leasts f_this_leasts (0 : Int32).toNatClampNeg (0 : Int32).toNatClampNeg (6 : Int32).toNatClampNeg, va_cpy f_a0_mosts f_this_mosts (0 : Int32).toNatClampNeg (0 : Int32).toNatClampNeg (6 : Int32).toNatClampNeg)))))
set_option maxRecDepth 100000 in
set_option maxHeartbeats 4000000 in
theorem c_X2_become {l : Launch} {G : Gt} {h_a0 h_a0_behinds h_a0_askeds h_a0_leasts h_a0_mosts h_this h_this_behinds h_this_askeds h_this_leasts h_this_mosts : Nat} {x_a0_count : Int32} {f_a0_askeds : Nat → Int32} {f_a0_behinds : Nat → Int32} {f_a0_leasts : Nat → Int32} {f_a0_mosts : Nat → Int32} {x_this_count : Int32} {f_this_askeds : Nat → Int32} {f_this_behinds : Nat → Int32} {f_this_leasts : Nat → Int32} {f_this_mosts : Nat → Int32} {m_this_count : Int32} {m_this_askeds : Nat → Int32} {m_this_behinds : Nat → Int32} {m_this_leasts : Nat → Int32} {m_this_mosts : Nat → Int32} (hf : f_X2_become x_a0_count f_a0_askeds f_a0_behinds f_a0_leasts f_a0_mosts f_this_askeds f_this_behinds f_this_leasts f_this_mosts = some (m_this_count, m_this_askeds, m_this_behinds, m_this_leasts, m_this_mosts)) : mFv l G yX2_become cX2_become 2 1 [.ref h_this, .ref h_a0] [(h_a0, ob 2 [.ref h_a0_behinds, .ref h_a0_askeds, .ref h_a0_leasts, .ref h_a0_mosts, .int x_a0_count]), (h_a0_askeds, ia G 6 f_a0_askeds), (h_a0_behinds, ia G 6 f_a0_behinds), (h_a0_leasts, ia G 6 f_a0_leasts), (h_a0_mosts, ia G 6 f_a0_mosts), (h_this, ob 2 [.ref h_this_behinds, .ref h_this_askeds, .ref h_this_leasts, .ref h_this_mosts, .int x_this_count]), (h_this_askeds, ia G 6 f_this_askeds), (h_this_behinds, ia G 6 f_this_behinds), (h_this_leasts, ia G 6 f_this_leasts), (h_this_mosts, ia G 6 f_this_mosts)] [(h_a0, ob 2 [.ref h_a0_behinds, .ref h_a0_askeds, .ref h_a0_leasts, .ref h_a0_mosts, .int x_a0_count]), (h_a0_askeds, ia G 6 f_a0_askeds), (h_a0_behinds, ia G 6 f_a0_behinds), (h_a0_leasts, ia G 6 f_a0_leasts), (h_a0_mosts, ia G 6 f_a0_mosts), (h_this, ob 2 [.ref h_this_behinds, .ref h_this_askeds, .ref h_this_leasts, .ref h_this_mosts, .int m_this_count]), (h_this_askeds, ia G 6 m_this_askeds), (h_this_behinds, ia G 6 m_this_behinds), (h_this_leasts, ia G 6 m_this_leasts), (h_this_mosts, ia G 6 m_this_mosts)] := by
  refine mFv.of (by decide +kernel) (Nat.le_of_ble_eq_true rfl) ?_
  intro p e s m below meth c A C hr hlk h ls hl
  obtain ⟨hx, hb, hml, hown, hts⟩ := id C
  replace hl : lv_has ls 2 [(0, .ref h_this), (1, .ref h_a0)] := hl
  unfold f_X2_become at hf
  refine lv_aload_n hx hb dX2_become_0 rfl (lv_at hl 1 rfl) ?_
  refine r_get C h fk_X2_9 0 rfl rfl dX2_become_1 ?_
  refine lv_iconst (v := (0 : Int32)) hx hb dX2_become_4 rfl ?_
  refine lv_aload_n hx hb dX2_become_5 rfl (lv_at hl 0 rfl) ?_
  refine r_get C h fk_X2_9 5 rfl rfl dX2_become_6 ?_
  refine lv_iconst (v := (0 : Int32)) hx hb dX2_become_9 rfl ?_
  refine lv_bipush (v := (6 : Int32)) hx hb dX2_become_10 rfl ?_
  replace hf := chkC_inv hf
  obtain ⟨ha1, hf⟩ := hf
  refine r_copy (ws' := [(h_a0, ob 2 [.ref h_a0_behinds, .ref h_a0_askeds, .ref h_a0_leasts, .ref h_a0_mosts, .int x_a0_count]), (h_a0_askeds, ia G 6 f_a0_askeds), (h_a0_behinds, ia G 6 f_a0_behinds), (h_a0_leasts, ia G 6 f_a0_leasts), (h_a0_mosts, ia G 6 f_a0_mosts), (h_this, ob 2 [.ref h_this_behinds, .ref h_this_askeds, .ref h_this_leasts, .ref h_this_mosts, .int x_this_count]), (h_this_askeds, ia G 6 f_this_askeds), (h_this_behinds, ia G 6 (va_cpy f_a0_behinds f_this_behinds (0 : Int32).toNatClampNeg (0 : Int32).toNatClampNeg (6 : Int32).toNatClampNeg)), (h_this_leasts, ia G 6 f_this_leasts), (h_this_mosts, ia G 6 f_this_mosts)]) C h ac_X2_28 2 7 rfl rfl ha1 hl.1 (Nat.le_of_ble_eq_true rfl) (Nat.le_of_ble_eq_true rfl) dX2_become_12 rfl (fun H locs h => ?_)
  refine lv_aload_n hx hb dX2_become_15 rfl (lv_at hl 1 rfl) ?_
  refine r_get C h fk_X2_15 0 rfl rfl dX2_become_16 ?_
  refine lv_iconst (v := (0 : Int32)) hx hb dX2_become_19 rfl ?_
  refine lv_aload_n hx hb dX2_become_20 rfl (lv_at hl 0 rfl) ?_
  refine r_get C h fk_X2_15 5 rfl rfl dX2_become_21 ?_
  refine lv_iconst (v := (0 : Int32)) hx hb dX2_become_24 rfl ?_
  refine lv_bipush (v := (6 : Int32)) hx hb dX2_become_25 rfl ?_
  replace hf := chkC_inv hf
  obtain ⟨ha2, hf⟩ := hf
  refine r_copy (ws' := [(h_a0, ob 2 [.ref h_a0_behinds, .ref h_a0_askeds, .ref h_a0_leasts, .ref h_a0_mosts, .int x_a0_count]), (h_a0_askeds, ia G 6 f_a0_askeds), (h_a0_behinds, ia G 6 f_a0_behinds), (h_a0_leasts, ia G 6 f_a0_leasts), (h_a0_mosts, ia G 6 f_a0_mosts), (h_this, ob 2 [.ref h_this_behinds, .ref h_this_askeds, .ref h_this_leasts, .ref h_this_mosts, .int x_this_count]), (h_this_askeds, ia G 6 (va_cpy f_a0_askeds f_this_askeds (0 : Int32).toNatClampNeg (0 : Int32).toNatClampNeg (6 : Int32).toNatClampNeg)), (h_this_behinds, ia G 6 (va_cpy f_a0_behinds f_this_behinds (0 : Int32).toNatClampNeg (0 : Int32).toNatClampNeg (6 : Int32).toNatClampNeg)), (h_this_leasts, ia G 6 f_this_leasts), (h_this_mosts, ia G 6 f_this_mosts)]) C h ac_X2_28 1 6 rfl rfl ha2 hl.1 (Nat.le_of_ble_eq_true rfl) (Nat.le_of_ble_eq_true rfl) dX2_become_27 rfl (fun H locs h => ?_)
  refine lv_aload_n hx hb dX2_become_30 rfl (lv_at hl 1 rfl) ?_
  refine r_get C h fk_X2_18 0 rfl rfl dX2_become_31 ?_
  refine lv_iconst (v := (0 : Int32)) hx hb dX2_become_34 rfl ?_
  refine lv_aload_n hx hb dX2_become_35 rfl (lv_at hl 0 rfl) ?_
  refine r_get C h fk_X2_18 5 rfl rfl dX2_become_36 ?_
  refine lv_iconst (v := (0 : Int32)) hx hb dX2_become_39 rfl ?_
  refine lv_bipush (v := (6 : Int32)) hx hb dX2_become_40 rfl ?_
  replace hf := chkC_inv hf
  obtain ⟨ha3, hf⟩ := hf
  refine r_copy (ws' := [(h_a0, ob 2 [.ref h_a0_behinds, .ref h_a0_askeds, .ref h_a0_leasts, .ref h_a0_mosts, .int x_a0_count]), (h_a0_askeds, ia G 6 f_a0_askeds), (h_a0_behinds, ia G 6 f_a0_behinds), (h_a0_leasts, ia G 6 f_a0_leasts), (h_a0_mosts, ia G 6 f_a0_mosts), (h_this, ob 2 [.ref h_this_behinds, .ref h_this_askeds, .ref h_this_leasts, .ref h_this_mosts, .int x_this_count]), (h_this_askeds, ia G 6 (va_cpy f_a0_askeds f_this_askeds (0 : Int32).toNatClampNeg (0 : Int32).toNatClampNeg (6 : Int32).toNatClampNeg)), (h_this_behinds, ia G 6 (va_cpy f_a0_behinds f_this_behinds (0 : Int32).toNatClampNeg (0 : Int32).toNatClampNeg (6 : Int32).toNatClampNeg)), (h_this_leasts, ia G 6 (va_cpy f_a0_leasts f_this_leasts (0 : Int32).toNatClampNeg (0 : Int32).toNatClampNeg (6 : Int32).toNatClampNeg)), (h_this_mosts, ia G 6 f_this_mosts)]) C h ac_X2_28 3 8 rfl rfl ha3 hl.1 (Nat.le_of_ble_eq_true rfl) (Nat.le_of_ble_eq_true rfl) dX2_become_42 rfl (fun H locs h => ?_)
  refine lv_aload_n hx hb dX2_become_45 rfl (lv_at hl 1 rfl) ?_
  refine r_get C h fk_X2_21 0 rfl rfl dX2_become_46 ?_
  refine lv_iconst (v := (0 : Int32)) hx hb dX2_become_49 rfl ?_
  refine lv_aload_n hx hb dX2_become_50 rfl (lv_at hl 0 rfl) ?_
  refine r_get C h fk_X2_21 5 rfl rfl dX2_become_51 ?_
  refine lv_iconst (v := (0 : Int32)) hx hb dX2_become_54 rfl ?_
  refine lv_bipush (v := (6 : Int32)) hx hb dX2_become_55 rfl ?_
  replace hf := chkC_inv hf
  obtain ⟨ha4, hf⟩ := hf
  refine r_copy (ws' := [(h_a0, ob 2 [.ref h_a0_behinds, .ref h_a0_askeds, .ref h_a0_leasts, .ref h_a0_mosts, .int x_a0_count]), (h_a0_askeds, ia G 6 f_a0_askeds), (h_a0_behinds, ia G 6 f_a0_behinds), (h_a0_leasts, ia G 6 f_a0_leasts), (h_a0_mosts, ia G 6 f_a0_mosts), (h_this, ob 2 [.ref h_this_behinds, .ref h_this_askeds, .ref h_this_leasts, .ref h_this_mosts, .int x_this_count]), (h_this_askeds, ia G 6 (va_cpy f_a0_askeds f_this_askeds (0 : Int32).toNatClampNeg (0 : Int32).toNatClampNeg (6 : Int32).toNatClampNeg)), (h_this_behinds, ia G 6 (va_cpy f_a0_behinds f_this_behinds (0 : Int32).toNatClampNeg (0 : Int32).toNatClampNeg (6 : Int32).toNatClampNeg)), (h_this_leasts, ia G 6 (va_cpy f_a0_leasts f_this_leasts (0 : Int32).toNatClampNeg (0 : Int32).toNatClampNeg (6 : Int32).toNatClampNeg)), (h_this_mosts, ia G 6 (va_cpy f_a0_mosts f_this_mosts (0 : Int32).toNatClampNeg (0 : Int32).toNatClampNeg (6 : Int32).toNatClampNeg))]) C h ac_X2_28 4 9 rfl rfl ha4 hl.1 (Nat.le_of_ble_eq_true rfl) (Nat.le_of_ble_eq_true rfl) dX2_become_57 rfl (fun H locs h => ?_)
  refine lv_aload_n hx hb dX2_become_60 rfl (lv_at hl 0 rfl) ?_
  refine lv_aload_n hx hb dX2_become_61 rfl (lv_at hl 1 rfl) ?_
  refine r_get C h fk_X2_24 0 rfl rfl dX2_become_62 ?_
  refine r_put (ws' := [(h_a0, ob 2 [.ref h_a0_behinds, .ref h_a0_askeds, .ref h_a0_leasts, .ref h_a0_mosts, .int x_a0_count]), (h_a0_askeds, ia G 6 f_a0_askeds), (h_a0_behinds, ia G 6 f_a0_behinds), (h_a0_leasts, ia G 6 f_a0_leasts), (h_a0_mosts, ia G 6 f_a0_mosts), (h_this, ob 2 [.ref h_this_behinds, .ref h_this_askeds, .ref h_this_leasts, .ref h_this_mosts, .int x_a0_count]), (h_this_askeds, ia G 6 (va_cpy f_a0_askeds f_this_askeds (0 : Int32).toNatClampNeg (0 : Int32).toNatClampNeg (6 : Int32).toNatClampNeg)), (h_this_behinds, ia G 6 (va_cpy f_a0_behinds f_this_behinds (0 : Int32).toNatClampNeg (0 : Int32).toNatClampNeg (6 : Int32).toNatClampNeg)), (h_this_leasts, ia G 6 (va_cpy f_a0_leasts f_this_leasts (0 : Int32).toNatClampNeg (0 : Int32).toNatClampNeg (6 : Int32).toNatClampNeg)), (h_this_mosts, ia G 6 (va_cpy f_a0_mosts f_this_mosts (0 : Int32).toNatClampNeg (0 : Int32).toNatClampNeg (6 : Int32).toNatClampNeg))]) C h fw_X2_24 5 rfl rfl rfl (Nat.le_of_ble_eq_true rfl) dX2_become_65 rfl (fun H locs h => ?_)
  cases hf
  exact r_vret C h hr hlk dX2_become_68
def f_X3_become (x_a0_count : Int32) (x_a0_end : Int32) (x_a0_z : Int32) (f_a0_buoys : Nat → Int32) (f_a0_currents : Nat → Int32) (f_a0_kinds : Nat → Int32) (f_a0_lanes : Nat → Int32) (f_a0_lights : Nat → Int32) (x_a0_now_watch : Int32) (x_a0_now_score : Int32) (x_a0_now_home : Int32) (f_a0_now_off : Nat → Int32) (x_a0_reports_count : Int32) (f_a0_reports_askeds : Nat → Int32) (f_a0_reports_behinds : Nat → Int32) (f_a0_reports_leasts : Nat → Int32) (f_a0_reports_mosts : Nat → Int32) (x_a0_rules_count : Int32) (x_a0_rules_size : Int32) (f_a0_rules_begins : Nat → Int32) (f_a0_rules_deeds : Nat → Int32) (f_a0_rules_kinds : Nat → Int32) (f_a0_rules_lefts : Nat → Int32) (f_a0_rules_rights : Nat → Int32) (f_a0_rules_steps : Nat → Int32) (f_a0_trims : Nat → Int32) (f_this_buoys : Nat → Int32) (f_this_currents : Nat → Int32) (f_this_kinds : Nat → Int32) (f_this_lanes : Nat → Int32) (f_this_lights : Nat → Int32) (f_this_now_off : Nat → Int32) (f_this_reports_askeds : Nat → Int32) (f_this_reports_behinds : Nat → Int32) (f_this_reports_leasts : Nat → Int32) (f_this_reports_mosts : Nat → Int32) (f_this_rules_begins : Nat → Int32) (f_this_rules_deeds : Nat → Int32) (f_this_rules_kinds : Nat → Int32) (f_this_rules_lefts : Nat → Int32) (f_this_rules_rights : Nat → Int32) (f_this_rules_steps : Nat → Int32) (f_this_trims : Nat → Int32) : Option (Int32 × Int32 × Int32 × (Nat → Int32) × (Nat → Int32) × (Nat → Int32) × (Nat → Int32) × (Nat → Int32) × Int32 × Int32 × Int32 × (Nat → Int32) × Int32 × (Nat → Int32) × (Nat → Int32) × (Nat → Int32) × (Nat → Int32) × Int32 × Int32 × (Nat → Int32) × (Nat → Int32) × (Nat → Int32) × (Nat → Int32) × (Nat → Int32) × (Nat → Int32) × (Nat → Int32)) := chkC (0 : Int32) (0 : Int32) (6 : Int32) 6 6 (chkC (0 : Int32) (0 : Int32) (6 : Int32) 6 6 (chkC (0 : Int32) (0 : Int32) (6 : Int32) 6 6 (chkC (0 : Int32) (0 : Int32) (16 : Int32) 16 16 (chkC (0 : Int32) (0 : Int32) (6 : Int32) 6 6 (chkC (0 : Int32) (0 : Int32) (6 : Int32) 6 6 (bd4 (f_X6_become x_a0_now_watch x_a0_now_score x_a0_now_home f_a0_now_off f_this_now_off) (fun y7 y8 y9 g10 => bd8 (f_X5_become x_a0_rules_count x_a0_rules_size f_a0_rules_begins f_a0_rules_deeds f_a0_rules_kinds f_a0_rules_lefts f_a0_rules_rights f_a0_rules_steps f_this_rules_begins f_this_rules_deeds f_this_rules_kinds f_this_rules_lefts f_this_rules_rights f_this_rules_steps) (fun y12 y13 g14 g15 g16 g17 g18 g19 => bd5 (f_X2_become x_a0_reports_count f_a0_reports_askeds f_a0_reports_behinds f_a0_reports_leasts f_a0_reports_mosts f_this_reports_askeds f_this_reports_behinds f_this_reports_leasts f_this_reports_mosts) (fun y21 g22 g23 g24 g25 => some (x_a0_count, x_a0_end, x_a0_z, va_cpy f_a0_buoys f_this_buoys (0 : Int32).toNatClampNeg (0 : Int32).toNatClampNeg (6 : Int32).toNatClampNeg, va_cpy f_a0_currents f_this_currents (0 : Int32).toNatClampNeg (0 : Int32).toNatClampNeg (6 : Int32).toNatClampNeg, va_cpy f_a0_kinds f_this_kinds (0 : Int32).toNatClampNeg (0 : Int32).toNatClampNeg (6 : Int32).toNatClampNeg, va_cpy f_a0_lanes f_this_lanes (0 : Int32).toNatClampNeg (0 : Int32).toNatClampNeg (6 : Int32).toNatClampNeg, va_cpy f_a0_lights f_this_lights (0 : Int32).toNatClampNeg (0 : Int32).toNatClampNeg (16 : Int32).toNatClampNeg, y7, y8, y9, g10, y21, g22, g23, g24, g25, y12, y13, g14, g15, g16, g17, g18, g19, va_cpy f_a0_trims f_this_trims (0 : Int32).toNatClampNeg (0 : Int32).toNatClampNeg (6 : Int32).toNatClampNeg))))))))))
set_option maxRecDepth 100000 in
set_option maxHeartbeats 4000000 in
theorem c_X3_become {l : Launch} {G : Gt} {h_a0 h_a0_kinds h_a0_trims h_a0_lanes h_a0_lights h_a0_currents h_a0_buoys h_a0_now h_a0_rules h_a0_reports h_a0_now_off h_a0_reports_behinds h_a0_reports_askeds h_a0_reports_leasts h_a0_reports_mosts h_a0_rules_kinds h_a0_rules_deeds h_a0_rules_begins h_a0_rules_steps h_a0_rules_lefts h_a0_rules_rights h_a0_rules_facts h_this h_this_kinds h_this_trims h_this_lanes h_this_lights h_this_currents h_this_buoys h_this_now h_this_rules h_this_reports h_this_now_off h_this_reports_behinds h_this_reports_askeds h_this_reports_leasts h_this_reports_mosts h_this_rules_kinds h_this_rules_deeds h_this_rules_begins h_this_rules_steps h_this_rules_lefts h_this_rules_rights h_this_rules_facts : Nat} {x_a0_count : Int32} {x_a0_end : Int32} {x_a0_z : Int32} {f_a0_buoys : Nat → Int32} {f_a0_currents : Nat → Int32} {f_a0_kinds : Nat → Int32} {f_a0_lanes : Nat → Int32} {f_a0_lights : Nat → Int32} {x_a0_now_watch : Int32} {x_a0_now_score : Int32} {x_a0_now_home : Int32} {f_a0_now_off : Nat → Int32} {x_a0_reports_count : Int32} {f_a0_reports_askeds : Nat → Int32} {f_a0_reports_behinds : Nat → Int32} {f_a0_reports_leasts : Nat → Int32} {f_a0_reports_mosts : Nat → Int32} {x_a0_rules_count : Int32} {x_a0_rules_size : Int32} {f_a0_rules_begins : Nat → Int32} {f_a0_rules_deeds : Nat → Int32} {f_a0_rules_kinds : Nat → Int32} {f_a0_rules_lefts : Nat → Int32} {f_a0_rules_rights : Nat → Int32} {f_a0_rules_steps : Nat → Int32} {f_a0_trims : Nat → Int32} {x_this_count : Int32} {x_this_end : Int32} {x_this_z : Int32} {f_this_buoys : Nat → Int32} {f_this_currents : Nat → Int32} {f_this_kinds : Nat → Int32} {f_this_lanes : Nat → Int32} {f_this_lights : Nat → Int32} {x_this_now_watch : Int32} {x_this_now_score : Int32} {x_this_now_home : Int32} {f_this_now_off : Nat → Int32} {x_this_reports_count : Int32} {f_this_reports_askeds : Nat → Int32} {f_this_reports_behinds : Nat → Int32} {f_this_reports_leasts : Nat → Int32} {f_this_reports_mosts : Nat → Int32} {x_this_rules_count : Int32} {x_this_rules_size : Int32} {f_this_rules_begins : Nat → Int32} {f_this_rules_deeds : Nat → Int32} {f_this_rules_kinds : Nat → Int32} {f_this_rules_lefts : Nat → Int32} {f_this_rules_rights : Nat → Int32} {f_this_rules_steps : Nat → Int32} {f_this_trims : Nat → Int32} {m_this_count : Int32} {m_this_end : Int32} {m_this_z : Int32} {m_this_buoys : Nat → Int32} {m_this_currents : Nat → Int32} {m_this_kinds : Nat → Int32} {m_this_lanes : Nat → Int32} {m_this_lights : Nat → Int32} {m_this_now_watch : Int32} {m_this_now_score : Int32} {m_this_now_home : Int32} {m_this_now_off : Nat → Int32} {m_this_reports_count : Int32} {m_this_reports_askeds : Nat → Int32} {m_this_reports_behinds : Nat → Int32} {m_this_reports_leasts : Nat → Int32} {m_this_reports_mosts : Nat → Int32} {m_this_rules_count : Int32} {m_this_rules_size : Int32} {m_this_rules_begins : Nat → Int32} {m_this_rules_deeds : Nat → Int32} {m_this_rules_kinds : Nat → Int32} {m_this_rules_lefts : Nat → Int32} {m_this_rules_rights : Nat → Int32} {m_this_rules_steps : Nat → Int32} {m_this_trims : Nat → Int32} (hf : f_X3_become x_a0_count x_a0_end x_a0_z f_a0_buoys f_a0_currents f_a0_kinds f_a0_lanes f_a0_lights x_a0_now_watch x_a0_now_score x_a0_now_home f_a0_now_off x_a0_reports_count f_a0_reports_askeds f_a0_reports_behinds f_a0_reports_leasts f_a0_reports_mosts x_a0_rules_count x_a0_rules_size f_a0_rules_begins f_a0_rules_deeds f_a0_rules_kinds f_a0_rules_lefts f_a0_rules_rights f_a0_rules_steps f_a0_trims f_this_buoys f_this_currents f_this_kinds f_this_lanes f_this_lights f_this_now_off f_this_reports_askeds f_this_reports_behinds f_this_reports_leasts f_this_reports_mosts f_this_rules_begins f_this_rules_deeds f_this_rules_kinds f_this_rules_lefts f_this_rules_rights f_this_rules_steps f_this_trims = some (m_this_count, m_this_end, m_this_z, m_this_buoys, m_this_currents, m_this_kinds, m_this_lanes, m_this_lights, m_this_now_watch, m_this_now_score, m_this_now_home, m_this_now_off, m_this_reports_count, m_this_reports_askeds, m_this_reports_behinds, m_this_reports_leasts, m_this_reports_mosts, m_this_rules_count, m_this_rules_size, m_this_rules_begins, m_this_rules_deeds, m_this_rules_kinds, m_this_rules_lefts, m_this_rules_rights, m_this_rules_steps, m_this_trims)) : mFv l G yX3_become cX3_become 2 2 [.ref h_this, .ref h_a0] [(h_a0, ob 3 [.ref h_a0_kinds, .ref h_a0_trims, .ref h_a0_lanes, .ref h_a0_lights, .ref h_a0_currents, .ref h_a0_buoys, .ref h_a0_now, .ref h_a0_rules, .ref h_a0_reports, .int x_a0_count, .int x_a0_end, .int x_a0_z]), (h_a0_buoys, ia G 6 f_a0_buoys), (h_a0_currents, ia G 6 f_a0_currents), (h_a0_kinds, ia G 6 f_a0_kinds), (h_a0_lanes, ia G 6 f_a0_lanes), (h_a0_lights, ia G 16 f_a0_lights), (h_a0_now, ob 6 [.ref h_a0_now_off, .int x_a0_now_watch, .int x_a0_now_score, .int x_a0_now_home]), (h_a0_now_off, ia G 6 f_a0_now_off), (h_a0_reports, ob 2 [.ref h_a0_reports_behinds, .ref h_a0_reports_askeds, .ref h_a0_reports_leasts, .ref h_a0_reports_mosts, .int x_a0_reports_count]), (h_a0_reports_askeds, ia G 6 f_a0_reports_askeds), (h_a0_reports_behinds, ia G 6 f_a0_reports_behinds), (h_a0_reports_leasts, ia G 6 f_a0_reports_leasts), (h_a0_reports_mosts, ia G 6 f_a0_reports_mosts), (h_a0_rules, ob 5 [.ref h_a0_rules_kinds, .ref h_a0_rules_deeds, .ref h_a0_rules_begins, .ref h_a0_rules_steps, .ref h_a0_rules_lefts, .ref h_a0_rules_rights, .ref h_a0_rules_facts, .int x_a0_rules_count, .int x_a0_rules_size]), (h_a0_rules_begins, ia G 9 f_a0_rules_begins), (h_a0_rules_deeds, ia G 8 f_a0_rules_deeds), (h_a0_rules_kinds, ia G 8 f_a0_rules_kinds), (h_a0_rules_lefts, ia G 200 f_a0_rules_lefts), (h_a0_rules_rights, ia G 200 f_a0_rules_rights), (h_a0_rules_steps, ia G 200 f_a0_rules_steps), (h_a0_trims, ia G 6 f_a0_trims), (h_this, ob 3 [.ref h_this_kinds, .ref h_this_trims, .ref h_this_lanes, .ref h_this_lights, .ref h_this_currents, .ref h_this_buoys, .ref h_this_now, .ref h_this_rules, .ref h_this_reports, .int x_this_count, .int x_this_end, .int x_this_z]), (h_this_buoys, ia G 6 f_this_buoys), (h_this_currents, ia G 6 f_this_currents), (h_this_kinds, ia G 6 f_this_kinds), (h_this_lanes, ia G 6 f_this_lanes), (h_this_lights, ia G 16 f_this_lights), (h_this_now, ob 6 [.ref h_this_now_off, .int x_this_now_watch, .int x_this_now_score, .int x_this_now_home]), (h_this_now_off, ia G 6 f_this_now_off), (h_this_reports, ob 2 [.ref h_this_reports_behinds, .ref h_this_reports_askeds, .ref h_this_reports_leasts, .ref h_this_reports_mosts, .int x_this_reports_count]), (h_this_reports_askeds, ia G 6 f_this_reports_askeds), (h_this_reports_behinds, ia G 6 f_this_reports_behinds), (h_this_reports_leasts, ia G 6 f_this_reports_leasts), (h_this_reports_mosts, ia G 6 f_this_reports_mosts), (h_this_rules, ob 5 [.ref h_this_rules_kinds, .ref h_this_rules_deeds, .ref h_this_rules_begins, .ref h_this_rules_steps, .ref h_this_rules_lefts, .ref h_this_rules_rights, .ref h_this_rules_facts, .int x_this_rules_count, .int x_this_rules_size]), (h_this_rules_begins, ia G 9 f_this_rules_begins), (h_this_rules_deeds, ia G 8 f_this_rules_deeds), (h_this_rules_kinds, ia G 8 f_this_rules_kinds), (h_this_rules_lefts, ia G 200 f_this_rules_lefts), (h_this_rules_rights, ia G 200 f_this_rules_rights), (h_this_rules_steps, ia G 200 f_this_rules_steps), (h_this_trims, ia G 6 f_this_trims)] [(h_a0, ob 3 [.ref h_a0_kinds, .ref h_a0_trims, .ref h_a0_lanes, .ref h_a0_lights, .ref h_a0_currents, .ref h_a0_buoys, .ref h_a0_now, .ref h_a0_rules, .ref h_a0_reports, .int x_a0_count, .int x_a0_end, .int x_a0_z]), (h_a0_buoys, ia G 6 f_a0_buoys), (h_a0_currents, ia G 6 f_a0_currents), (h_a0_kinds, ia G 6 f_a0_kinds), (h_a0_lanes, ia G 6 f_a0_lanes), (h_a0_lights, ia G 16 f_a0_lights), (h_a0_now, ob 6 [.ref h_a0_now_off, .int x_a0_now_watch, .int x_a0_now_score, .int x_a0_now_home]), (h_a0_now_off, ia G 6 f_a0_now_off), (h_a0_reports, ob 2 [.ref h_a0_reports_behinds, .ref h_a0_reports_askeds, .ref h_a0_reports_leasts, .ref h_a0_reports_mosts, .int x_a0_reports_count]), (h_a0_reports_askeds, ia G 6 f_a0_reports_askeds), (h_a0_reports_behinds, ia G 6 f_a0_reports_behinds), (h_a0_reports_leasts, ia G 6 f_a0_reports_leasts), (h_a0_reports_mosts, ia G 6 f_a0_reports_mosts), (h_a0_rules, ob 5 [.ref h_a0_rules_kinds, .ref h_a0_rules_deeds, .ref h_a0_rules_begins, .ref h_a0_rules_steps, .ref h_a0_rules_lefts, .ref h_a0_rules_rights, .ref h_a0_rules_facts, .int x_a0_rules_count, .int x_a0_rules_size]), (h_a0_rules_begins, ia G 9 f_a0_rules_begins), (h_a0_rules_deeds, ia G 8 f_a0_rules_deeds), (h_a0_rules_kinds, ia G 8 f_a0_rules_kinds), (h_a0_rules_lefts, ia G 200 f_a0_rules_lefts), (h_a0_rules_rights, ia G 200 f_a0_rules_rights), (h_a0_rules_steps, ia G 200 f_a0_rules_steps), (h_a0_trims, ia G 6 f_a0_trims), (h_this, ob 3 [.ref h_this_kinds, .ref h_this_trims, .ref h_this_lanes, .ref h_this_lights, .ref h_this_currents, .ref h_this_buoys, .ref h_this_now, .ref h_this_rules, .ref h_this_reports, .int m_this_count, .int m_this_end, .int m_this_z]), (h_this_buoys, ia G 6 m_this_buoys), (h_this_currents, ia G 6 m_this_currents), (h_this_kinds, ia G 6 m_this_kinds), (h_this_lanes, ia G 6 m_this_lanes), (h_this_lights, ia G 16 m_this_lights), (h_this_now, ob 6 [.ref h_this_now_off, .int m_this_now_watch, .int m_this_now_score, .int m_this_now_home]), (h_this_now_off, ia G 6 m_this_now_off), (h_this_reports, ob 2 [.ref h_this_reports_behinds, .ref h_this_reports_askeds, .ref h_this_reports_leasts, .ref h_this_reports_mosts, .int m_this_reports_count]), (h_this_reports_askeds, ia G 6 m_this_reports_askeds), (h_this_reports_behinds, ia G 6 m_this_reports_behinds), (h_this_reports_leasts, ia G 6 m_this_reports_leasts), (h_this_reports_mosts, ia G 6 m_this_reports_mosts), (h_this_rules, ob 5 [.ref h_this_rules_kinds, .ref h_this_rules_deeds, .ref h_this_rules_begins, .ref h_this_rules_steps, .ref h_this_rules_lefts, .ref h_this_rules_rights, .ref h_this_rules_facts, .int m_this_rules_count, .int m_this_rules_size]), (h_this_rules_begins, ia G 9 m_this_rules_begins), (h_this_rules_deeds, ia G 8 m_this_rules_deeds), (h_this_rules_kinds, ia G 8 m_this_rules_kinds), (h_this_rules_lefts, ia G 200 m_this_rules_lefts), (h_this_rules_rights, ia G 200 m_this_rules_rights), (h_this_rules_steps, ia G 200 m_this_rules_steps), (h_this_trims, ia G 6 m_this_trims)] := by
  refine mFv.of (by decide +kernel) (Nat.le_of_ble_eq_true rfl) ?_
  intro p e s m below meth c A C hr hlk h ls hl
  obtain ⟨hx, hb, hml, hown, hts⟩ := id C
  replace hl : lv_has ls 2 [(0, .ref h_this), (1, .ref h_a0)] := hl
  unfold f_X3_become at hf
  refine lv_aload_n hx hb dX3_become_0 rfl (lv_at hl 1 rfl) ?_
  refine r_get C h fk_X3_9 0 rfl rfl dX3_become_1 ?_
  refine lv_iconst (v := (0 : Int32)) hx hb dX3_become_4 rfl ?_
  refine lv_aload_n hx hb dX3_become_5 rfl (lv_at hl 0 rfl) ?_
  refine r_get C h fk_X3_9 21 rfl rfl dX3_become_6 ?_
  refine lv_iconst (v := (0 : Int32)) hx hb dX3_become_9 rfl ?_
  refine lv_bipush (v := (6 : Int32)) hx hb dX3_become_10 rfl ?_
  replace hf := chkC_inv hf
  obtain ⟨ha1, hf⟩ := hf
  refine r_copy (ws' := [(h_a0, ob 3 [.ref h_a0_kinds, .ref h_a0_trims, .ref h_a0_lanes, .ref h_a0_lights, .ref h_a0_currents, .ref h_a0_buoys, .ref h_a0_now, .ref h_a0_rules, .ref h_a0_reports, .int x_a0_count, .int x_a0_end, .int x_a0_z]), (h_a0_buoys, ia G 6 f_a0_buoys), (h_a0_currents, ia G 6 f_a0_currents), (h_a0_kinds, ia G 6 f_a0_kinds), (h_a0_lanes, ia G 6 f_a0_lanes), (h_a0_lights, ia G 16 f_a0_lights), (h_a0_now, ob 6 [.ref h_a0_now_off, .int x_a0_now_watch, .int x_a0_now_score, .int x_a0_now_home]), (h_a0_now_off, ia G 6 f_a0_now_off), (h_a0_reports, ob 2 [.ref h_a0_reports_behinds, .ref h_a0_reports_askeds, .ref h_a0_reports_leasts, .ref h_a0_reports_mosts, .int x_a0_reports_count]), (h_a0_reports_askeds, ia G 6 f_a0_reports_askeds), (h_a0_reports_behinds, ia G 6 f_a0_reports_behinds), (h_a0_reports_leasts, ia G 6 f_a0_reports_leasts), (h_a0_reports_mosts, ia G 6 f_a0_reports_mosts), (h_a0_rules, ob 5 [.ref h_a0_rules_kinds, .ref h_a0_rules_deeds, .ref h_a0_rules_begins, .ref h_a0_rules_steps, .ref h_a0_rules_lefts, .ref h_a0_rules_rights, .ref h_a0_rules_facts, .int x_a0_rules_count, .int x_a0_rules_size]), (h_a0_rules_begins, ia G 9 f_a0_rules_begins), (h_a0_rules_deeds, ia G 8 f_a0_rules_deeds), (h_a0_rules_kinds, ia G 8 f_a0_rules_kinds), (h_a0_rules_lefts, ia G 200 f_a0_rules_lefts), (h_a0_rules_rights, ia G 200 f_a0_rules_rights), (h_a0_rules_steps, ia G 200 f_a0_rules_steps), (h_a0_trims, ia G 6 f_a0_trims), (h_this, ob 3 [.ref h_this_kinds, .ref h_this_trims, .ref h_this_lanes, .ref h_this_lights, .ref h_this_currents, .ref h_this_buoys, .ref h_this_now, .ref h_this_rules, .ref h_this_reports, .int x_this_count, .int x_this_end, .int x_this_z]), (h_this_buoys, ia G 6 f_this_buoys), (h_this_currents, ia G 6 f_this_currents), (h_this_kinds, ia G 6 (va_cpy f_a0_kinds f_this_kinds (0 : Int32).toNatClampNeg (0 : Int32).toNatClampNeg (6 : Int32).toNatClampNeg)), (h_this_lanes, ia G 6 f_this_lanes), (h_this_lights, ia G 16 f_this_lights), (h_this_now, ob 6 [.ref h_this_now_off, .int x_this_now_watch, .int x_this_now_score, .int x_this_now_home]), (h_this_now_off, ia G 6 f_this_now_off), (h_this_reports, ob 2 [.ref h_this_reports_behinds, .ref h_this_reports_askeds, .ref h_this_reports_leasts, .ref h_this_reports_mosts, .int x_this_reports_count]), (h_this_reports_askeds, ia G 6 f_this_reports_askeds), (h_this_reports_behinds, ia G 6 f_this_reports_behinds), (h_this_reports_leasts, ia G 6 f_this_reports_leasts), (h_this_reports_mosts, ia G 6 f_this_reports_mosts), (h_this_rules, ob 5 [.ref h_this_rules_kinds, .ref h_this_rules_deeds, .ref h_this_rules_begins, .ref h_this_rules_steps, .ref h_this_rules_lefts, .ref h_this_rules_rights, .ref h_this_rules_facts, .int x_this_rules_count, .int x_this_rules_size]), (h_this_rules_begins, ia G 9 f_this_rules_begins), (h_this_rules_deeds, ia G 8 f_this_rules_deeds), (h_this_rules_kinds, ia G 8 f_this_rules_kinds), (h_this_rules_lefts, ia G 200 f_this_rules_lefts), (h_this_rules_rights, ia G 200 f_this_rules_rights), (h_this_rules_steps, ia G 200 f_this_rules_steps), (h_this_trims, ia G 6 f_this_trims)]) C h ac_X3_67 3 24 rfl rfl ha1 hl.1 (Nat.le_of_ble_eq_true rfl) (Nat.le_of_ble_eq_true rfl) dX3_become_12 rfl (fun H locs h => ?_)
  refine lv_aload_n hx hb dX3_become_15 rfl (lv_at hl 1 rfl) ?_
  refine r_get C h fk_X3_15 0 rfl rfl dX3_become_16 ?_
  refine lv_iconst (v := (0 : Int32)) hx hb dX3_become_19 rfl ?_
  refine lv_aload_n hx hb dX3_become_20 rfl (lv_at hl 0 rfl) ?_
  refine r_get C h fk_X3_15 21 rfl rfl dX3_become_21 ?_
  refine lv_iconst (v := (0 : Int32)) hx hb dX3_become_24 rfl ?_
  refine lv_bipush (v := (6 : Int32)) hx hb dX3_become_25 rfl ?_
  replace hf := chkC_inv hf
  obtain ⟨ha2, hf⟩ := hf
  refine r_copy (ws' := [(h_a0, ob 3 [.ref h_a0_kinds, .ref h_a0_trims, .ref h_a0_lanes, .ref h_a0_lights, .ref h_a0_currents, .ref h_a0_buoys, .ref h_a0_now, .ref h_a0_rules, .ref h_a0_reports, .int x_a0_count, .int x_a0_end, .int x_a0_z]), (h_a0_buoys, ia G 6 f_a0_buoys), (h_a0_currents, ia G 6 f_a0_currents), (h_a0_kinds, ia G 6 f_a0_kinds), (h_a0_lanes, ia G 6 f_a0_lanes), (h_a0_lights, ia G 16 f_a0_lights), (h_a0_now, ob 6 [.ref h_a0_now_off, .int x_a0_now_watch, .int x_a0_now_score, .int x_a0_now_home]), (h_a0_now_off, ia G 6 f_a0_now_off), (h_a0_reports, ob 2 [.ref h_a0_reports_behinds, .ref h_a0_reports_askeds, .ref h_a0_reports_leasts, .ref h_a0_reports_mosts, .int x_a0_reports_count]), (h_a0_reports_askeds, ia G 6 f_a0_reports_askeds), (h_a0_reports_behinds, ia G 6 f_a0_reports_behinds), (h_a0_reports_leasts, ia G 6 f_a0_reports_leasts), (h_a0_reports_mosts, ia G 6 f_a0_reports_mosts), (h_a0_rules, ob 5 [.ref h_a0_rules_kinds, .ref h_a0_rules_deeds, .ref h_a0_rules_begins, .ref h_a0_rules_steps, .ref h_a0_rules_lefts, .ref h_a0_rules_rights, .ref h_a0_rules_facts, .int x_a0_rules_count, .int x_a0_rules_size]), (h_a0_rules_begins, ia G 9 f_a0_rules_begins), (h_a0_rules_deeds, ia G 8 f_a0_rules_deeds), (h_a0_rules_kinds, ia G 8 f_a0_rules_kinds), (h_a0_rules_lefts, ia G 200 f_a0_rules_lefts), (h_a0_rules_rights, ia G 200 f_a0_rules_rights), (h_a0_rules_steps, ia G 200 f_a0_rules_steps), (h_a0_trims, ia G 6 f_a0_trims), (h_this, ob 3 [.ref h_this_kinds, .ref h_this_trims, .ref h_this_lanes, .ref h_this_lights, .ref h_this_currents, .ref h_this_buoys, .ref h_this_now, .ref h_this_rules, .ref h_this_reports, .int x_this_count, .int x_this_end, .int x_this_z]), (h_this_buoys, ia G 6 f_this_buoys), (h_this_currents, ia G 6 f_this_currents), (h_this_kinds, ia G 6 (va_cpy f_a0_kinds f_this_kinds (0 : Int32).toNatClampNeg (0 : Int32).toNatClampNeg (6 : Int32).toNatClampNeg)), (h_this_lanes, ia G 6 f_this_lanes), (h_this_lights, ia G 16 f_this_lights), (h_this_now, ob 6 [.ref h_this_now_off, .int x_this_now_watch, .int x_this_now_score, .int x_this_now_home]), (h_this_now_off, ia G 6 f_this_now_off), (h_this_reports, ob 2 [.ref h_this_reports_behinds, .ref h_this_reports_askeds, .ref h_this_reports_leasts, .ref h_this_reports_mosts, .int x_this_reports_count]), (h_this_reports_askeds, ia G 6 f_this_reports_askeds), (h_this_reports_behinds, ia G 6 f_this_reports_behinds), (h_this_reports_leasts, ia G 6 f_this_reports_leasts), (h_this_reports_mosts, ia G 6 f_this_reports_mosts), (h_this_rules, ob 5 [.ref h_this_rules_kinds, .ref h_this_rules_deeds, .ref h_this_rules_begins, .ref h_this_rules_steps, .ref h_this_rules_lefts, .ref h_this_rules_rights, .ref h_this_rules_facts, .int x_this_rules_count, .int x_this_rules_size]), (h_this_rules_begins, ia G 9 f_this_rules_begins), (h_this_rules_deeds, ia G 8 f_this_rules_deeds), (h_this_rules_kinds, ia G 8 f_this_rules_kinds), (h_this_rules_lefts, ia G 200 f_this_rules_lefts), (h_this_rules_rights, ia G 200 f_this_rules_rights), (h_this_rules_steps, ia G 200 f_this_rules_steps), (h_this_trims, ia G 6 (va_cpy f_a0_trims f_this_trims (0 : Int32).toNatClampNeg (0 : Int32).toNatClampNeg (6 : Int32).toNatClampNeg))]) C h ac_X3_67 20 41 rfl rfl ha2 hl.1 (Nat.le_of_ble_eq_true rfl) (Nat.le_of_ble_eq_true rfl) dX3_become_27 rfl (fun H locs h => ?_)
  refine lv_aload_n hx hb dX3_become_30 rfl (lv_at hl 1 rfl) ?_
  refine r_get C h fk_X3_18 0 rfl rfl dX3_become_31 ?_
  refine lv_iconst (v := (0 : Int32)) hx hb dX3_become_34 rfl ?_
  refine lv_aload_n hx hb dX3_become_35 rfl (lv_at hl 0 rfl) ?_
  refine r_get C h fk_X3_18 21 rfl rfl dX3_become_36 ?_
  refine lv_iconst (v := (0 : Int32)) hx hb dX3_become_39 rfl ?_
  refine lv_bipush (v := (6 : Int32)) hx hb dX3_become_40 rfl ?_
  replace hf := chkC_inv hf
  obtain ⟨ha3, hf⟩ := hf
  refine r_copy (ws' := [(h_a0, ob 3 [.ref h_a0_kinds, .ref h_a0_trims, .ref h_a0_lanes, .ref h_a0_lights, .ref h_a0_currents, .ref h_a0_buoys, .ref h_a0_now, .ref h_a0_rules, .ref h_a0_reports, .int x_a0_count, .int x_a0_end, .int x_a0_z]), (h_a0_buoys, ia G 6 f_a0_buoys), (h_a0_currents, ia G 6 f_a0_currents), (h_a0_kinds, ia G 6 f_a0_kinds), (h_a0_lanes, ia G 6 f_a0_lanes), (h_a0_lights, ia G 16 f_a0_lights), (h_a0_now, ob 6 [.ref h_a0_now_off, .int x_a0_now_watch, .int x_a0_now_score, .int x_a0_now_home]), (h_a0_now_off, ia G 6 f_a0_now_off), (h_a0_reports, ob 2 [.ref h_a0_reports_behinds, .ref h_a0_reports_askeds, .ref h_a0_reports_leasts, .ref h_a0_reports_mosts, .int x_a0_reports_count]), (h_a0_reports_askeds, ia G 6 f_a0_reports_askeds), (h_a0_reports_behinds, ia G 6 f_a0_reports_behinds), (h_a0_reports_leasts, ia G 6 f_a0_reports_leasts), (h_a0_reports_mosts, ia G 6 f_a0_reports_mosts), (h_a0_rules, ob 5 [.ref h_a0_rules_kinds, .ref h_a0_rules_deeds, .ref h_a0_rules_begins, .ref h_a0_rules_steps, .ref h_a0_rules_lefts, .ref h_a0_rules_rights, .ref h_a0_rules_facts, .int x_a0_rules_count, .int x_a0_rules_size]), (h_a0_rules_begins, ia G 9 f_a0_rules_begins), (h_a0_rules_deeds, ia G 8 f_a0_rules_deeds), (h_a0_rules_kinds, ia G 8 f_a0_rules_kinds), (h_a0_rules_lefts, ia G 200 f_a0_rules_lefts), (h_a0_rules_rights, ia G 200 f_a0_rules_rights), (h_a0_rules_steps, ia G 200 f_a0_rules_steps), (h_a0_trims, ia G 6 f_a0_trims), (h_this, ob 3 [.ref h_this_kinds, .ref h_this_trims, .ref h_this_lanes, .ref h_this_lights, .ref h_this_currents, .ref h_this_buoys, .ref h_this_now, .ref h_this_rules, .ref h_this_reports, .int x_this_count, .int x_this_end, .int x_this_z]), (h_this_buoys, ia G 6 f_this_buoys), (h_this_currents, ia G 6 f_this_currents), (h_this_kinds, ia G 6 (va_cpy f_a0_kinds f_this_kinds (0 : Int32).toNatClampNeg (0 : Int32).toNatClampNeg (6 : Int32).toNatClampNeg)), (h_this_lanes, ia G 6 (va_cpy f_a0_lanes f_this_lanes (0 : Int32).toNatClampNeg (0 : Int32).toNatClampNeg (6 : Int32).toNatClampNeg)), (h_this_lights, ia G 16 f_this_lights), (h_this_now, ob 6 [.ref h_this_now_off, .int x_this_now_watch, .int x_this_now_score, .int x_this_now_home]), (h_this_now_off, ia G 6 f_this_now_off), (h_this_reports, ob 2 [.ref h_this_reports_behinds, .ref h_this_reports_askeds, .ref h_this_reports_leasts, .ref h_this_reports_mosts, .int x_this_reports_count]), (h_this_reports_askeds, ia G 6 f_this_reports_askeds), (h_this_reports_behinds, ia G 6 f_this_reports_behinds), (h_this_reports_leasts, ia G 6 f_this_reports_leasts), (h_this_reports_mosts, ia G 6 f_this_reports_mosts), (h_this_rules, ob 5 [.ref h_this_rules_kinds, .ref h_this_rules_deeds, .ref h_this_rules_begins, .ref h_this_rules_steps, .ref h_this_rules_lefts, .ref h_this_rules_rights, .ref h_this_rules_facts, .int x_this_rules_count, .int x_this_rules_size]), (h_this_rules_begins, ia G 9 f_this_rules_begins), (h_this_rules_deeds, ia G 8 f_this_rules_deeds), (h_this_rules_kinds, ia G 8 f_this_rules_kinds), (h_this_rules_lefts, ia G 200 f_this_rules_lefts), (h_this_rules_rights, ia G 200 f_this_rules_rights), (h_this_rules_steps, ia G 200 f_this_rules_steps), (h_this_trims, ia G 6 (va_cpy f_a0_trims f_this_trims (0 : Int32).toNatClampNeg (0 : Int32).toNatClampNeg (6 : Int32).toNatClampNeg))]) C h ac_X3_67 4 25 rfl rfl ha3 hl.1 (Nat.le_of_ble_eq_true rfl) (Nat.le_of_ble_eq_true rfl) dX3_become_42 rfl (fun H locs h => ?_)
  refine lv_aload_n hx hb dX3_become_45 rfl (lv_at hl 1 rfl) ?_
  refine r_get C h fk_X3_21 0 rfl rfl dX3_become_46 ?_
  refine lv_iconst (v := (0 : Int32)) hx hb dX3_become_49 rfl ?_
  refine lv_aload_n hx hb dX3_become_50 rfl (lv_at hl 0 rfl) ?_
  refine r_get C h fk_X3_21 21 rfl rfl dX3_become_51 ?_
  refine lv_iconst (v := (0 : Int32)) hx hb dX3_become_54 rfl ?_
  refine lv_bipush (v := (16 : Int32)) hx hb dX3_become_55 rfl ?_
  replace hf := chkC_inv hf
  obtain ⟨ha4, hf⟩ := hf
  refine r_copy (ws' := [(h_a0, ob 3 [.ref h_a0_kinds, .ref h_a0_trims, .ref h_a0_lanes, .ref h_a0_lights, .ref h_a0_currents, .ref h_a0_buoys, .ref h_a0_now, .ref h_a0_rules, .ref h_a0_reports, .int x_a0_count, .int x_a0_end, .int x_a0_z]), (h_a0_buoys, ia G 6 f_a0_buoys), (h_a0_currents, ia G 6 f_a0_currents), (h_a0_kinds, ia G 6 f_a0_kinds), (h_a0_lanes, ia G 6 f_a0_lanes), (h_a0_lights, ia G 16 f_a0_lights), (h_a0_now, ob 6 [.ref h_a0_now_off, .int x_a0_now_watch, .int x_a0_now_score, .int x_a0_now_home]), (h_a0_now_off, ia G 6 f_a0_now_off), (h_a0_reports, ob 2 [.ref h_a0_reports_behinds, .ref h_a0_reports_askeds, .ref h_a0_reports_leasts, .ref h_a0_reports_mosts, .int x_a0_reports_count]), (h_a0_reports_askeds, ia G 6 f_a0_reports_askeds), (h_a0_reports_behinds, ia G 6 f_a0_reports_behinds), (h_a0_reports_leasts, ia G 6 f_a0_reports_leasts), (h_a0_reports_mosts, ia G 6 f_a0_reports_mosts), (h_a0_rules, ob 5 [.ref h_a0_rules_kinds, .ref h_a0_rules_deeds, .ref h_a0_rules_begins, .ref h_a0_rules_steps, .ref h_a0_rules_lefts, .ref h_a0_rules_rights, .ref h_a0_rules_facts, .int x_a0_rules_count, .int x_a0_rules_size]), (h_a0_rules_begins, ia G 9 f_a0_rules_begins), (h_a0_rules_deeds, ia G 8 f_a0_rules_deeds), (h_a0_rules_kinds, ia G 8 f_a0_rules_kinds), (h_a0_rules_lefts, ia G 200 f_a0_rules_lefts), (h_a0_rules_rights, ia G 200 f_a0_rules_rights), (h_a0_rules_steps, ia G 200 f_a0_rules_steps), (h_a0_trims, ia G 6 f_a0_trims), (h_this, ob 3 [.ref h_this_kinds, .ref h_this_trims, .ref h_this_lanes, .ref h_this_lights, .ref h_this_currents, .ref h_this_buoys, .ref h_this_now, .ref h_this_rules, .ref h_this_reports, .int x_this_count, .int x_this_end, .int x_this_z]), (h_this_buoys, ia G 6 f_this_buoys), (h_this_currents, ia G 6 f_this_currents), (h_this_kinds, ia G 6 (va_cpy f_a0_kinds f_this_kinds (0 : Int32).toNatClampNeg (0 : Int32).toNatClampNeg (6 : Int32).toNatClampNeg)), (h_this_lanes, ia G 6 (va_cpy f_a0_lanes f_this_lanes (0 : Int32).toNatClampNeg (0 : Int32).toNatClampNeg (6 : Int32).toNatClampNeg)), (h_this_lights, ia G 16 (va_cpy f_a0_lights f_this_lights (0 : Int32).toNatClampNeg (0 : Int32).toNatClampNeg (16 : Int32).toNatClampNeg)), (h_this_now, ob 6 [.ref h_this_now_off, .int x_this_now_watch, .int x_this_now_score, .int x_this_now_home]), (h_this_now_off, ia G 6 f_this_now_off), (h_this_reports, ob 2 [.ref h_this_reports_behinds, .ref h_this_reports_askeds, .ref h_this_reports_leasts, .ref h_this_reports_mosts, .int x_this_reports_count]), (h_this_reports_askeds, ia G 6 f_this_reports_askeds), (h_this_reports_behinds, ia G 6 f_this_reports_behinds), (h_this_reports_leasts, ia G 6 f_this_reports_leasts), (h_this_reports_mosts, ia G 6 f_this_reports_mosts), (h_this_rules, ob 5 [.ref h_this_rules_kinds, .ref h_this_rules_deeds, .ref h_this_rules_begins, .ref h_this_rules_steps, .ref h_this_rules_lefts, .ref h_this_rules_rights, .ref h_this_rules_facts, .int x_this_rules_count, .int x_this_rules_size]), (h_this_rules_begins, ia G 9 f_this_rules_begins), (h_this_rules_deeds, ia G 8 f_this_rules_deeds), (h_this_rules_kinds, ia G 8 f_this_rules_kinds), (h_this_rules_lefts, ia G 200 f_this_rules_lefts), (h_this_rules_rights, ia G 200 f_this_rules_rights), (h_this_rules_steps, ia G 200 f_this_rules_steps), (h_this_trims, ia G 6 (va_cpy f_a0_trims f_this_trims (0 : Int32).toNatClampNeg (0 : Int32).toNatClampNeg (6 : Int32).toNatClampNeg))]) C h ac_X3_67 5 26 rfl rfl ha4 hl.1 (Nat.le_of_ble_eq_true rfl) (Nat.le_of_ble_eq_true rfl) dX3_become_57 rfl (fun H locs h => ?_)
  refine lv_aload_n hx hb dX3_become_60 rfl (lv_at hl 1 rfl) ?_
  refine r_get C h fk_X3_24 0 rfl rfl dX3_become_61 ?_
  refine lv_iconst (v := (0 : Int32)) hx hb dX3_become_64 rfl ?_
  refine lv_aload_n hx hb dX3_become_65 rfl (lv_at hl 0 rfl) ?_
  refine r_get C h fk_X3_24 21 rfl rfl dX3_become_66 ?_
  refine lv_iconst (v := (0 : Int32)) hx hb dX3_become_69 rfl ?_
  refine lv_bipush (v := (6 : Int32)) hx hb dX3_become_70 rfl ?_
  replace hf := chkC_inv hf
  obtain ⟨ha5, hf⟩ := hf
  refine r_copy (ws' := [(h_a0, ob 3 [.ref h_a0_kinds, .ref h_a0_trims, .ref h_a0_lanes, .ref h_a0_lights, .ref h_a0_currents, .ref h_a0_buoys, .ref h_a0_now, .ref h_a0_rules, .ref h_a0_reports, .int x_a0_count, .int x_a0_end, .int x_a0_z]), (h_a0_buoys, ia G 6 f_a0_buoys), (h_a0_currents, ia G 6 f_a0_currents), (h_a0_kinds, ia G 6 f_a0_kinds), (h_a0_lanes, ia G 6 f_a0_lanes), (h_a0_lights, ia G 16 f_a0_lights), (h_a0_now, ob 6 [.ref h_a0_now_off, .int x_a0_now_watch, .int x_a0_now_score, .int x_a0_now_home]), (h_a0_now_off, ia G 6 f_a0_now_off), (h_a0_reports, ob 2 [.ref h_a0_reports_behinds, .ref h_a0_reports_askeds, .ref h_a0_reports_leasts, .ref h_a0_reports_mosts, .int x_a0_reports_count]), (h_a0_reports_askeds, ia G 6 f_a0_reports_askeds), (h_a0_reports_behinds, ia G 6 f_a0_reports_behinds), (h_a0_reports_leasts, ia G 6 f_a0_reports_leasts), (h_a0_reports_mosts, ia G 6 f_a0_reports_mosts), (h_a0_rules, ob 5 [.ref h_a0_rules_kinds, .ref h_a0_rules_deeds, .ref h_a0_rules_begins, .ref h_a0_rules_steps, .ref h_a0_rules_lefts, .ref h_a0_rules_rights, .ref h_a0_rules_facts, .int x_a0_rules_count, .int x_a0_rules_size]), (h_a0_rules_begins, ia G 9 f_a0_rules_begins), (h_a0_rules_deeds, ia G 8 f_a0_rules_deeds), (h_a0_rules_kinds, ia G 8 f_a0_rules_kinds), (h_a0_rules_lefts, ia G 200 f_a0_rules_lefts), (h_a0_rules_rights, ia G 200 f_a0_rules_rights), (h_a0_rules_steps, ia G 200 f_a0_rules_steps), (h_a0_trims, ia G 6 f_a0_trims), (h_this, ob 3 [.ref h_this_kinds, .ref h_this_trims, .ref h_this_lanes, .ref h_this_lights, .ref h_this_currents, .ref h_this_buoys, .ref h_this_now, .ref h_this_rules, .ref h_this_reports, .int x_this_count, .int x_this_end, .int x_this_z]), (h_this_buoys, ia G 6 f_this_buoys), (h_this_currents, ia G 6 (va_cpy f_a0_currents f_this_currents (0 : Int32).toNatClampNeg (0 : Int32).toNatClampNeg (6 : Int32).toNatClampNeg)), (h_this_kinds, ia G 6 (va_cpy f_a0_kinds f_this_kinds (0 : Int32).toNatClampNeg (0 : Int32).toNatClampNeg (6 : Int32).toNatClampNeg)), (h_this_lanes, ia G 6 (va_cpy f_a0_lanes f_this_lanes (0 : Int32).toNatClampNeg (0 : Int32).toNatClampNeg (6 : Int32).toNatClampNeg)), (h_this_lights, ia G 16 (va_cpy f_a0_lights f_this_lights (0 : Int32).toNatClampNeg (0 : Int32).toNatClampNeg (16 : Int32).toNatClampNeg)), (h_this_now, ob 6 [.ref h_this_now_off, .int x_this_now_watch, .int x_this_now_score, .int x_this_now_home]), (h_this_now_off, ia G 6 f_this_now_off), (h_this_reports, ob 2 [.ref h_this_reports_behinds, .ref h_this_reports_askeds, .ref h_this_reports_leasts, .ref h_this_reports_mosts, .int x_this_reports_count]), (h_this_reports_askeds, ia G 6 f_this_reports_askeds), (h_this_reports_behinds, ia G 6 f_this_reports_behinds), (h_this_reports_leasts, ia G 6 f_this_reports_leasts), (h_this_reports_mosts, ia G 6 f_this_reports_mosts), (h_this_rules, ob 5 [.ref h_this_rules_kinds, .ref h_this_rules_deeds, .ref h_this_rules_begins, .ref h_this_rules_steps, .ref h_this_rules_lefts, .ref h_this_rules_rights, .ref h_this_rules_facts, .int x_this_rules_count, .int x_this_rules_size]), (h_this_rules_begins, ia G 9 f_this_rules_begins), (h_this_rules_deeds, ia G 8 f_this_rules_deeds), (h_this_rules_kinds, ia G 8 f_this_rules_kinds), (h_this_rules_lefts, ia G 200 f_this_rules_lefts), (h_this_rules_rights, ia G 200 f_this_rules_rights), (h_this_rules_steps, ia G 200 f_this_rules_steps), (h_this_trims, ia G 6 (va_cpy f_a0_trims f_this_trims (0 : Int32).toNatClampNeg (0 : Int32).toNatClampNeg (6 : Int32).toNatClampNeg))]) C h ac_X3_67 2 23 rfl rfl ha5 hl.1 (Nat.le_of_ble_eq_true rfl) (Nat.le_of_ble_eq_true rfl) dX3_become_72 rfl (fun H locs h => ?_)
  refine lv_aload_n hx hb dX3_become_75 rfl (lv_at hl 1 rfl) ?_
  refine r_get C h fk_X3_27 0 rfl rfl dX3_become_76 ?_
  refine lv_iconst (v := (0 : Int32)) hx hb dX3_become_79 rfl ?_
  refine lv_aload_n hx hb dX3_become_80 rfl (lv_at hl 0 rfl) ?_
  refine r_get C h fk_X3_27 21 rfl rfl dX3_become_81 ?_
  refine lv_iconst (v := (0 : Int32)) hx hb dX3_become_84 rfl ?_
  refine lv_bipush (v := (6 : Int32)) hx hb dX3_become_85 rfl ?_
  replace hf := chkC_inv hf
  obtain ⟨ha6, hf⟩ := hf
  refine r_copy (ws' := [(h_a0, ob 3 [.ref h_a0_kinds, .ref h_a0_trims, .ref h_a0_lanes, .ref h_a0_lights, .ref h_a0_currents, .ref h_a0_buoys, .ref h_a0_now, .ref h_a0_rules, .ref h_a0_reports, .int x_a0_count, .int x_a0_end, .int x_a0_z]), (h_a0_buoys, ia G 6 f_a0_buoys), (h_a0_currents, ia G 6 f_a0_currents), (h_a0_kinds, ia G 6 f_a0_kinds), (h_a0_lanes, ia G 6 f_a0_lanes), (h_a0_lights, ia G 16 f_a0_lights), (h_a0_now, ob 6 [.ref h_a0_now_off, .int x_a0_now_watch, .int x_a0_now_score, .int x_a0_now_home]), (h_a0_now_off, ia G 6 f_a0_now_off), (h_a0_reports, ob 2 [.ref h_a0_reports_behinds, .ref h_a0_reports_askeds, .ref h_a0_reports_leasts, .ref h_a0_reports_mosts, .int x_a0_reports_count]), (h_a0_reports_askeds, ia G 6 f_a0_reports_askeds), (h_a0_reports_behinds, ia G 6 f_a0_reports_behinds), (h_a0_reports_leasts, ia G 6 f_a0_reports_leasts), (h_a0_reports_mosts, ia G 6 f_a0_reports_mosts), (h_a0_rules, ob 5 [.ref h_a0_rules_kinds, .ref h_a0_rules_deeds, .ref h_a0_rules_begins, .ref h_a0_rules_steps, .ref h_a0_rules_lefts, .ref h_a0_rules_rights, .ref h_a0_rules_facts, .int x_a0_rules_count, .int x_a0_rules_size]), (h_a0_rules_begins, ia G 9 f_a0_rules_begins), (h_a0_rules_deeds, ia G 8 f_a0_rules_deeds), (h_a0_rules_kinds, ia G 8 f_a0_rules_kinds), (h_a0_rules_lefts, ia G 200 f_a0_rules_lefts), (h_a0_rules_rights, ia G 200 f_a0_rules_rights), (h_a0_rules_steps, ia G 200 f_a0_rules_steps), (h_a0_trims, ia G 6 f_a0_trims), (h_this, ob 3 [.ref h_this_kinds, .ref h_this_trims, .ref h_this_lanes, .ref h_this_lights, .ref h_this_currents, .ref h_this_buoys, .ref h_this_now, .ref h_this_rules, .ref h_this_reports, .int x_this_count, .int x_this_end, .int x_this_z]), (h_this_buoys, ia G 6 (va_cpy f_a0_buoys f_this_buoys (0 : Int32).toNatClampNeg (0 : Int32).toNatClampNeg (6 : Int32).toNatClampNeg)), (h_this_currents, ia G 6 (va_cpy f_a0_currents f_this_currents (0 : Int32).toNatClampNeg (0 : Int32).toNatClampNeg (6 : Int32).toNatClampNeg)), (h_this_kinds, ia G 6 (va_cpy f_a0_kinds f_this_kinds (0 : Int32).toNatClampNeg (0 : Int32).toNatClampNeg (6 : Int32).toNatClampNeg)), (h_this_lanes, ia G 6 (va_cpy f_a0_lanes f_this_lanes (0 : Int32).toNatClampNeg (0 : Int32).toNatClampNeg (6 : Int32).toNatClampNeg)), (h_this_lights, ia G 16 (va_cpy f_a0_lights f_this_lights (0 : Int32).toNatClampNeg (0 : Int32).toNatClampNeg (16 : Int32).toNatClampNeg)), (h_this_now, ob 6 [.ref h_this_now_off, .int x_this_now_watch, .int x_this_now_score, .int x_this_now_home]), (h_this_now_off, ia G 6 f_this_now_off), (h_this_reports, ob 2 [.ref h_this_reports_behinds, .ref h_this_reports_askeds, .ref h_this_reports_leasts, .ref h_this_reports_mosts, .int x_this_reports_count]), (h_this_reports_askeds, ia G 6 f_this_reports_askeds), (h_this_reports_behinds, ia G 6 f_this_reports_behinds), (h_this_reports_leasts, ia G 6 f_this_reports_leasts), (h_this_reports_mosts, ia G 6 f_this_reports_mosts), (h_this_rules, ob 5 [.ref h_this_rules_kinds, .ref h_this_rules_deeds, .ref h_this_rules_begins, .ref h_this_rules_steps, .ref h_this_rules_lefts, .ref h_this_rules_rights, .ref h_this_rules_facts, .int x_this_rules_count, .int x_this_rules_size]), (h_this_rules_begins, ia G 9 f_this_rules_begins), (h_this_rules_deeds, ia G 8 f_this_rules_deeds), (h_this_rules_kinds, ia G 8 f_this_rules_kinds), (h_this_rules_lefts, ia G 200 f_this_rules_lefts), (h_this_rules_rights, ia G 200 f_this_rules_rights), (h_this_rules_steps, ia G 200 f_this_rules_steps), (h_this_trims, ia G 6 (va_cpy f_a0_trims f_this_trims (0 : Int32).toNatClampNeg (0 : Int32).toNatClampNeg (6 : Int32).toNatClampNeg))]) C h ac_X3_67 1 22 rfl rfl ha6 hl.1 (Nat.le_of_ble_eq_true rfl) (Nat.le_of_ble_eq_true rfl) dX3_become_87 rfl (fun H locs h => ?_)
  refine lv_aload_n hx hb dX3_become_90 rfl (lv_at hl 0 rfl) ?_
  refine r_get C h fk_X3_33 21 rfl rfl dX3_become_91 ?_
  refine lv_aload_n hx hb dX3_become_94 rfl (lv_at hl 1 rfl) ?_
  refine r_get C h fk_X3_33 0 rfl rfl dX3_become_95 ?_
  replace hf := bd4_inv hf
  obtain ⟨y7, y8, y9, g10, hc11, hf⟩ := hf
  refine r_cvV (ws' := [(h_a0, ob 3 [.ref h_a0_kinds, .ref h_a0_trims, .ref h_a0_lanes, .ref h_a0_lights, .ref h_a0_currents, .ref h_a0_buoys, .ref h_a0_now, .ref h_a0_rules, .ref h_a0_reports, .int x_a0_count, .int x_a0_end, .int x_a0_z]), (h_a0_buoys, ia G 6 f_a0_buoys), (h_a0_currents, ia G 6 f_a0_currents), (h_a0_kinds, ia G 6 f_a0_kinds), (h_a0_lanes, ia G 6 f_a0_lanes), (h_a0_lights, ia G 16 f_a0_lights), (h_a0_now, ob 6 [.ref h_a0_now_off, .int x_a0_now_watch, .int x_a0_now_score, .int x_a0_now_home]), (h_a0_now_off, ia G 6 f_a0_now_off), (h_a0_reports, ob 2 [.ref h_a0_reports_behinds, .ref h_a0_reports_askeds, .ref h_a0_reports_leasts, .ref h_a0_reports_mosts, .int x_a0_reports_count]), (h_a0_reports_askeds, ia G 6 f_a0_reports_askeds), (h_a0_reports_behinds, ia G 6 f_a0_reports_behinds), (h_a0_reports_leasts, ia G 6 f_a0_reports_leasts), (h_a0_reports_mosts, ia G 6 f_a0_reports_mosts), (h_a0_rules, ob 5 [.ref h_a0_rules_kinds, .ref h_a0_rules_deeds, .ref h_a0_rules_begins, .ref h_a0_rules_steps, .ref h_a0_rules_lefts, .ref h_a0_rules_rights, .ref h_a0_rules_facts, .int x_a0_rules_count, .int x_a0_rules_size]), (h_a0_rules_begins, ia G 9 f_a0_rules_begins), (h_a0_rules_deeds, ia G 8 f_a0_rules_deeds), (h_a0_rules_kinds, ia G 8 f_a0_rules_kinds), (h_a0_rules_lefts, ia G 200 f_a0_rules_lefts), (h_a0_rules_rights, ia G 200 f_a0_rules_rights), (h_a0_rules_steps, ia G 200 f_a0_rules_steps), (h_a0_trims, ia G 6 f_a0_trims), (h_this, ob 3 [.ref h_this_kinds, .ref h_this_trims, .ref h_this_lanes, .ref h_this_lights, .ref h_this_currents, .ref h_this_buoys, .ref h_this_now, .ref h_this_rules, .ref h_this_reports, .int x_this_count, .int x_this_end, .int x_this_z]), (h_this_buoys, ia G 6 (va_cpy f_a0_buoys f_this_buoys (0 : Int32).toNatClampNeg (0 : Int32).toNatClampNeg (6 : Int32).toNatClampNeg)), (h_this_currents, ia G 6 (va_cpy f_a0_currents f_this_currents (0 : Int32).toNatClampNeg (0 : Int32).toNatClampNeg (6 : Int32).toNatClampNeg)), (h_this_kinds, ia G 6 (va_cpy f_a0_kinds f_this_kinds (0 : Int32).toNatClampNeg (0 : Int32).toNatClampNeg (6 : Int32).toNatClampNeg)), (h_this_lanes, ia G 6 (va_cpy f_a0_lanes f_this_lanes (0 : Int32).toNatClampNeg (0 : Int32).toNatClampNeg (6 : Int32).toNatClampNeg)), (h_this_lights, ia G 16 (va_cpy f_a0_lights f_this_lights (0 : Int32).toNatClampNeg (0 : Int32).toNatClampNeg (16 : Int32).toNatClampNeg)), (h_this_now, ob 6 [.ref h_this_now_off, .int y7, .int y8, .int y9]), (h_this_now_off, ia G 6 g10), (h_this_reports, ob 2 [.ref h_this_reports_behinds, .ref h_this_reports_askeds, .ref h_this_reports_leasts, .ref h_this_reports_mosts, .int x_this_reports_count]), (h_this_reports_askeds, ia G 6 f_this_reports_askeds), (h_this_reports_behinds, ia G 6 f_this_reports_behinds), (h_this_reports_leasts, ia G 6 f_this_reports_leasts), (h_this_reports_mosts, ia G 6 f_this_reports_mosts), (h_this_rules, ob 5 [.ref h_this_rules_kinds, .ref h_this_rules_deeds, .ref h_this_rules_begins, .ref h_this_rules_steps, .ref h_this_rules_lefts, .ref h_this_rules_rights, .ref h_this_rules_facts, .int x_this_rules_count, .int x_this_rules_size]), (h_this_rules_begins, ia G 9 f_this_rules_begins), (h_this_rules_deeds, ia G 8 f_this_rules_deeds), (h_this_rules_kinds, ia G 8 f_this_rules_kinds), (h_this_rules_lefts, ia G 200 f_this_rules_lefts), (h_this_rules_rights, ia G 200 f_this_rules_rights), (h_this_rules_steps, ia G 200 f_this_rules_steps), (h_this_trims, ia G 6 (va_cpy f_a0_trims f_this_trims (0 : Int32).toNatClampNeg (0 : Int32).toNatClampNeg (6 : Int32).toNatClampNeg))]) C h (c_X6_become hc11) mv_X3_73 rfl 27 rfl [6, 7, 27, 28] rfl rfl rfl rfl rfl hl.1 rfl (Nat.le_of_ble_eq_true rfl) (rok (by decide)) dX3_become_98 (fun H locs h => ?_)
  refine lv_aload_n hx hb dX3_become_101 rfl (lv_at hl 0 rfl) ?_
  refine r_get C h fk_X3_40 21 rfl rfl dX3_become_102 ?_
  refine lv_aload_n hx hb dX3_become_105 rfl (lv_at hl 1 rfl) ?_
  refine r_get C h fk_X3_40 0 rfl rfl dX3_become_106 ?_
  replace hf := bd8_inv hf
  obtain ⟨y12, y13, g14, g15, g16, g17, g18, g19, hc20, hf⟩ := hf
  refine r_cvV (ws' := [(h_a0, ob 3 [.ref h_a0_kinds, .ref h_a0_trims, .ref h_a0_lanes, .ref h_a0_lights, .ref h_a0_currents, .ref h_a0_buoys, .ref h_a0_now, .ref h_a0_rules, .ref h_a0_reports, .int x_a0_count, .int x_a0_end, .int x_a0_z]), (h_a0_buoys, ia G 6 f_a0_buoys), (h_a0_currents, ia G 6 f_a0_currents), (h_a0_kinds, ia G 6 f_a0_kinds), (h_a0_lanes, ia G 6 f_a0_lanes), (h_a0_lights, ia G 16 f_a0_lights), (h_a0_now, ob 6 [.ref h_a0_now_off, .int x_a0_now_watch, .int x_a0_now_score, .int x_a0_now_home]), (h_a0_now_off, ia G 6 f_a0_now_off), (h_a0_reports, ob 2 [.ref h_a0_reports_behinds, .ref h_a0_reports_askeds, .ref h_a0_reports_leasts, .ref h_a0_reports_mosts, .int x_a0_reports_count]), (h_a0_reports_askeds, ia G 6 f_a0_reports_askeds), (h_a0_reports_behinds, ia G 6 f_a0_reports_behinds), (h_a0_reports_leasts, ia G 6 f_a0_reports_leasts), (h_a0_reports_mosts, ia G 6 f_a0_reports_mosts), (h_a0_rules, ob 5 [.ref h_a0_rules_kinds, .ref h_a0_rules_deeds, .ref h_a0_rules_begins, .ref h_a0_rules_steps, .ref h_a0_rules_lefts, .ref h_a0_rules_rights, .ref h_a0_rules_facts, .int x_a0_rules_count, .int x_a0_rules_size]), (h_a0_rules_begins, ia G 9 f_a0_rules_begins), (h_a0_rules_deeds, ia G 8 f_a0_rules_deeds), (h_a0_rules_kinds, ia G 8 f_a0_rules_kinds), (h_a0_rules_lefts, ia G 200 f_a0_rules_lefts), (h_a0_rules_rights, ia G 200 f_a0_rules_rights), (h_a0_rules_steps, ia G 200 f_a0_rules_steps), (h_a0_trims, ia G 6 f_a0_trims), (h_this, ob 3 [.ref h_this_kinds, .ref h_this_trims, .ref h_this_lanes, .ref h_this_lights, .ref h_this_currents, .ref h_this_buoys, .ref h_this_now, .ref h_this_rules, .ref h_this_reports, .int x_this_count, .int x_this_end, .int x_this_z]), (h_this_buoys, ia G 6 (va_cpy f_a0_buoys f_this_buoys (0 : Int32).toNatClampNeg (0 : Int32).toNatClampNeg (6 : Int32).toNatClampNeg)), (h_this_currents, ia G 6 (va_cpy f_a0_currents f_this_currents (0 : Int32).toNatClampNeg (0 : Int32).toNatClampNeg (6 : Int32).toNatClampNeg)), (h_this_kinds, ia G 6 (va_cpy f_a0_kinds f_this_kinds (0 : Int32).toNatClampNeg (0 : Int32).toNatClampNeg (6 : Int32).toNatClampNeg)), (h_this_lanes, ia G 6 (va_cpy f_a0_lanes f_this_lanes (0 : Int32).toNatClampNeg (0 : Int32).toNatClampNeg (6 : Int32).toNatClampNeg)), (h_this_lights, ia G 16 (va_cpy f_a0_lights f_this_lights (0 : Int32).toNatClampNeg (0 : Int32).toNatClampNeg (16 : Int32).toNatClampNeg)), (h_this_now, ob 6 [.ref h_this_now_off, .int y7, .int y8, .int y9]), (h_this_now_off, ia G 6 g10), (h_this_reports, ob 2 [.ref h_this_reports_behinds, .ref h_this_reports_askeds, .ref h_this_reports_leasts, .ref h_this_reports_mosts, .int x_this_reports_count]), (h_this_reports_askeds, ia G 6 f_this_reports_askeds), (h_this_reports_behinds, ia G 6 f_this_reports_behinds), (h_this_reports_leasts, ia G 6 f_this_reports_leasts), (h_this_reports_mosts, ia G 6 f_this_reports_mosts), (h_this_rules, ob 5 [.ref h_this_rules_kinds, .ref h_this_rules_deeds, .ref h_this_rules_begins, .ref h_this_rules_steps, .ref h_this_rules_lefts, .ref h_this_rules_rights, .ref h_this_rules_facts, .int y12, .int y13]), (h_this_rules_begins, ia G 9 g14), (h_this_rules_deeds, ia G 8 g15), (h_this_rules_kinds, ia G 8 g16), (h_this_rules_lefts, ia G 200 g17), (h_this_rules_rights, ia G 200 g18), (h_this_rules_steps, ia G 200 g19), (h_this_trims, ia G 6 (va_cpy f_a0_trims f_this_trims (0 : Int32).toNatClampNeg (0 : Int32).toNatClampNeg (6 : Int32).toNatClampNeg))]) C h (c_X5_become hc20) mv_X3_77 rfl 34 rfl [13, 14, 15, 16, 17, 18, 19, 34, 35, 36, 37, 38, 39, 40] rfl rfl rfl rfl rfl hl.1 rfl (Nat.le_of_ble_eq_true rfl) (rok (by decide)) dX3_become_109 (fun H locs h => ?_)
  refine lv_aload_n hx hb dX3_become_112 rfl (lv_at hl 0 rfl) ?_
  refine r_get C h fk_X3_47 21 rfl rfl dX3_become_113 ?_
  refine lv_aload_n hx hb dX3_become_116 rfl (lv_at hl 1 rfl) ?_
  refine r_get C h fk_X3_47 0 rfl rfl dX3_become_117 ?_
  replace hf := bd5_inv hf
  obtain ⟨y21, g22, g23, g24, g25, hc26, hf⟩ := hf
  refine r_cvV (ws' := [(h_a0, ob 3 [.ref h_a0_kinds, .ref h_a0_trims, .ref h_a0_lanes, .ref h_a0_lights, .ref h_a0_currents, .ref h_a0_buoys, .ref h_a0_now, .ref h_a0_rules, .ref h_a0_reports, .int x_a0_count, .int x_a0_end, .int x_a0_z]), (h_a0_buoys, ia G 6 f_a0_buoys), (h_a0_currents, ia G 6 f_a0_currents), (h_a0_kinds, ia G 6 f_a0_kinds), (h_a0_lanes, ia G 6 f_a0_lanes), (h_a0_lights, ia G 16 f_a0_lights), (h_a0_now, ob 6 [.ref h_a0_now_off, .int x_a0_now_watch, .int x_a0_now_score, .int x_a0_now_home]), (h_a0_now_off, ia G 6 f_a0_now_off), (h_a0_reports, ob 2 [.ref h_a0_reports_behinds, .ref h_a0_reports_askeds, .ref h_a0_reports_leasts, .ref h_a0_reports_mosts, .int x_a0_reports_count]), (h_a0_reports_askeds, ia G 6 f_a0_reports_askeds), (h_a0_reports_behinds, ia G 6 f_a0_reports_behinds), (h_a0_reports_leasts, ia G 6 f_a0_reports_leasts), (h_a0_reports_mosts, ia G 6 f_a0_reports_mosts), (h_a0_rules, ob 5 [.ref h_a0_rules_kinds, .ref h_a0_rules_deeds, .ref h_a0_rules_begins, .ref h_a0_rules_steps, .ref h_a0_rules_lefts, .ref h_a0_rules_rights, .ref h_a0_rules_facts, .int x_a0_rules_count, .int x_a0_rules_size]), (h_a0_rules_begins, ia G 9 f_a0_rules_begins), (h_a0_rules_deeds, ia G 8 f_a0_rules_deeds), (h_a0_rules_kinds, ia G 8 f_a0_rules_kinds), (h_a0_rules_lefts, ia G 200 f_a0_rules_lefts), (h_a0_rules_rights, ia G 200 f_a0_rules_rights), (h_a0_rules_steps, ia G 200 f_a0_rules_steps), (h_a0_trims, ia G 6 f_a0_trims), (h_this, ob 3 [.ref h_this_kinds, .ref h_this_trims, .ref h_this_lanes, .ref h_this_lights, .ref h_this_currents, .ref h_this_buoys, .ref h_this_now, .ref h_this_rules, .ref h_this_reports, .int x_this_count, .int x_this_end, .int x_this_z]), (h_this_buoys, ia G 6 (va_cpy f_a0_buoys f_this_buoys (0 : Int32).toNatClampNeg (0 : Int32).toNatClampNeg (6 : Int32).toNatClampNeg)), (h_this_currents, ia G 6 (va_cpy f_a0_currents f_this_currents (0 : Int32).toNatClampNeg (0 : Int32).toNatClampNeg (6 : Int32).toNatClampNeg)), (h_this_kinds, ia G 6 (va_cpy f_a0_kinds f_this_kinds (0 : Int32).toNatClampNeg (0 : Int32).toNatClampNeg (6 : Int32).toNatClampNeg)), (h_this_lanes, ia G 6 (va_cpy f_a0_lanes f_this_lanes (0 : Int32).toNatClampNeg (0 : Int32).toNatClampNeg (6 : Int32).toNatClampNeg)), (h_this_lights, ia G 16 (va_cpy f_a0_lights f_this_lights (0 : Int32).toNatClampNeg (0 : Int32).toNatClampNeg (16 : Int32).toNatClampNeg)), (h_this_now, ob 6 [.ref h_this_now_off, .int y7, .int y8, .int y9]), (h_this_now_off, ia G 6 g10), (h_this_reports, ob 2 [.ref h_this_reports_behinds, .ref h_this_reports_askeds, .ref h_this_reports_leasts, .ref h_this_reports_mosts, .int y21]), (h_this_reports_askeds, ia G 6 g22), (h_this_reports_behinds, ia G 6 g23), (h_this_reports_leasts, ia G 6 g24), (h_this_reports_mosts, ia G 6 g25), (h_this_rules, ob 5 [.ref h_this_rules_kinds, .ref h_this_rules_deeds, .ref h_this_rules_begins, .ref h_this_rules_steps, .ref h_this_rules_lefts, .ref h_this_rules_rights, .ref h_this_rules_facts, .int y12, .int y13]), (h_this_rules_begins, ia G 9 g14), (h_this_rules_deeds, ia G 8 g15), (h_this_rules_kinds, ia G 8 g16), (h_this_rules_lefts, ia G 200 g17), (h_this_rules_rights, ia G 200 g18), (h_this_rules_steps, ia G 200 g19), (h_this_trims, ia G 6 (va_cpy f_a0_trims f_this_trims (0 : Int32).toNatClampNeg (0 : Int32).toNatClampNeg (6 : Int32).toNatClampNeg))]) C h (c_X2_become hc26) mv_X3_80 rfl 29 rfl [8, 9, 10, 11, 12, 29, 30, 31, 32, 33] rfl rfl rfl rfl rfl hl.1 rfl (Nat.le_of_ble_eq_true rfl) (rok (by decide)) dX3_become_120 (fun H locs h => ?_)
  refine lv_aload_n hx hb dX3_become_123 rfl (lv_at hl 0 rfl) ?_
  refine lv_aload_n hx hb dX3_become_124 rfl (lv_at hl 1 rfl) ?_
  refine r_get C h fk_X3_51 0 rfl rfl dX3_become_125 ?_
  refine r_put (ws' := [(h_a0, ob 3 [.ref h_a0_kinds, .ref h_a0_trims, .ref h_a0_lanes, .ref h_a0_lights, .ref h_a0_currents, .ref h_a0_buoys, .ref h_a0_now, .ref h_a0_rules, .ref h_a0_reports, .int x_a0_count, .int x_a0_end, .int x_a0_z]), (h_a0_buoys, ia G 6 f_a0_buoys), (h_a0_currents, ia G 6 f_a0_currents), (h_a0_kinds, ia G 6 f_a0_kinds), (h_a0_lanes, ia G 6 f_a0_lanes), (h_a0_lights, ia G 16 f_a0_lights), (h_a0_now, ob 6 [.ref h_a0_now_off, .int x_a0_now_watch, .int x_a0_now_score, .int x_a0_now_home]), (h_a0_now_off, ia G 6 f_a0_now_off), (h_a0_reports, ob 2 [.ref h_a0_reports_behinds, .ref h_a0_reports_askeds, .ref h_a0_reports_leasts, .ref h_a0_reports_mosts, .int x_a0_reports_count]), (h_a0_reports_askeds, ia G 6 f_a0_reports_askeds), (h_a0_reports_behinds, ia G 6 f_a0_reports_behinds), (h_a0_reports_leasts, ia G 6 f_a0_reports_leasts), (h_a0_reports_mosts, ia G 6 f_a0_reports_mosts), (h_a0_rules, ob 5 [.ref h_a0_rules_kinds, .ref h_a0_rules_deeds, .ref h_a0_rules_begins, .ref h_a0_rules_steps, .ref h_a0_rules_lefts, .ref h_a0_rules_rights, .ref h_a0_rules_facts, .int x_a0_rules_count, .int x_a0_rules_size]), (h_a0_rules_begins, ia G 9 f_a0_rules_begins), (h_a0_rules_deeds, ia G 8 f_a0_rules_deeds), (h_a0_rules_kinds, ia G 8 f_a0_rules_kinds), (h_a0_rules_lefts, ia G 200 f_a0_rules_lefts), (h_a0_rules_rights, ia G 200 f_a0_rules_rights), (h_a0_rules_steps, ia G 200 f_a0_rules_steps), (h_a0_trims, ia G 6 f_a0_trims), (h_this, ob 3 [.ref h_this_kinds, .ref h_this_trims, .ref h_this_lanes, .ref h_this_lights, .ref h_this_currents, .ref h_this_buoys, .ref h_this_now, .ref h_this_rules, .ref h_this_reports, .int x_a0_count, .int x_this_end, .int x_this_z]), (h_this_buoys, ia G 6 (va_cpy f_a0_buoys f_this_buoys (0 : Int32).toNatClampNeg (0 : Int32).toNatClampNeg (6 : Int32).toNatClampNeg)), (h_this_currents, ia G 6 (va_cpy f_a0_currents f_this_currents (0 : Int32).toNatClampNeg (0 : Int32).toNatClampNeg (6 : Int32).toNatClampNeg)), (h_this_kinds, ia G 6 (va_cpy f_a0_kinds f_this_kinds (0 : Int32).toNatClampNeg (0 : Int32).toNatClampNeg (6 : Int32).toNatClampNeg)), (h_this_lanes, ia G 6 (va_cpy f_a0_lanes f_this_lanes (0 : Int32).toNatClampNeg (0 : Int32).toNatClampNeg (6 : Int32).toNatClampNeg)), (h_this_lights, ia G 16 (va_cpy f_a0_lights f_this_lights (0 : Int32).toNatClampNeg (0 : Int32).toNatClampNeg (16 : Int32).toNatClampNeg)), (h_this_now, ob 6 [.ref h_this_now_off, .int y7, .int y8, .int y9]), (h_this_now_off, ia G 6 g10), (h_this_reports, ob 2 [.ref h_this_reports_behinds, .ref h_this_reports_askeds, .ref h_this_reports_leasts, .ref h_this_reports_mosts, .int y21]), (h_this_reports_askeds, ia G 6 g22), (h_this_reports_behinds, ia G 6 g23), (h_this_reports_leasts, ia G 6 g24), (h_this_reports_mosts, ia G 6 g25), (h_this_rules, ob 5 [.ref h_this_rules_kinds, .ref h_this_rules_deeds, .ref h_this_rules_begins, .ref h_this_rules_steps, .ref h_this_rules_lefts, .ref h_this_rules_rights, .ref h_this_rules_facts, .int y12, .int y13]), (h_this_rules_begins, ia G 9 g14), (h_this_rules_deeds, ia G 8 g15), (h_this_rules_kinds, ia G 8 g16), (h_this_rules_lefts, ia G 200 g17), (h_this_rules_rights, ia G 200 g18), (h_this_rules_steps, ia G 200 g19), (h_this_trims, ia G 6 (va_cpy f_a0_trims f_this_trims (0 : Int32).toNatClampNeg (0 : Int32).toNatClampNeg (6 : Int32).toNatClampNeg))]) C h fw_X3_51 21 rfl rfl rfl (Nat.le_of_ble_eq_true rfl) dX3_become_128 rfl (fun H locs h => ?_)
  refine lv_aload_n hx hb dX3_become_131 rfl (lv_at hl 0 rfl) ?_
  refine lv_aload_n hx hb dX3_become_132 rfl (lv_at hl 1 rfl) ?_
  refine r_get C h fk_X3_55 0 rfl rfl dX3_become_133 ?_
  refine r_put (ws' := [(h_a0, ob 3 [.ref h_a0_kinds, .ref h_a0_trims, .ref h_a0_lanes, .ref h_a0_lights, .ref h_a0_currents, .ref h_a0_buoys, .ref h_a0_now, .ref h_a0_rules, .ref h_a0_reports, .int x_a0_count, .int x_a0_end, .int x_a0_z]), (h_a0_buoys, ia G 6 f_a0_buoys), (h_a0_currents, ia G 6 f_a0_currents), (h_a0_kinds, ia G 6 f_a0_kinds), (h_a0_lanes, ia G 6 f_a0_lanes), (h_a0_lights, ia G 16 f_a0_lights), (h_a0_now, ob 6 [.ref h_a0_now_off, .int x_a0_now_watch, .int x_a0_now_score, .int x_a0_now_home]), (h_a0_now_off, ia G 6 f_a0_now_off), (h_a0_reports, ob 2 [.ref h_a0_reports_behinds, .ref h_a0_reports_askeds, .ref h_a0_reports_leasts, .ref h_a0_reports_mosts, .int x_a0_reports_count]), (h_a0_reports_askeds, ia G 6 f_a0_reports_askeds), (h_a0_reports_behinds, ia G 6 f_a0_reports_behinds), (h_a0_reports_leasts, ia G 6 f_a0_reports_leasts), (h_a0_reports_mosts, ia G 6 f_a0_reports_mosts), (h_a0_rules, ob 5 [.ref h_a0_rules_kinds, .ref h_a0_rules_deeds, .ref h_a0_rules_begins, .ref h_a0_rules_steps, .ref h_a0_rules_lefts, .ref h_a0_rules_rights, .ref h_a0_rules_facts, .int x_a0_rules_count, .int x_a0_rules_size]), (h_a0_rules_begins, ia G 9 f_a0_rules_begins), (h_a0_rules_deeds, ia G 8 f_a0_rules_deeds), (h_a0_rules_kinds, ia G 8 f_a0_rules_kinds), (h_a0_rules_lefts, ia G 200 f_a0_rules_lefts), (h_a0_rules_rights, ia G 200 f_a0_rules_rights), (h_a0_rules_steps, ia G 200 f_a0_rules_steps), (h_a0_trims, ia G 6 f_a0_trims), (h_this, ob 3 [.ref h_this_kinds, .ref h_this_trims, .ref h_this_lanes, .ref h_this_lights, .ref h_this_currents, .ref h_this_buoys, .ref h_this_now, .ref h_this_rules, .ref h_this_reports, .int x_a0_count, .int x_a0_end, .int x_this_z]), (h_this_buoys, ia G 6 (va_cpy f_a0_buoys f_this_buoys (0 : Int32).toNatClampNeg (0 : Int32).toNatClampNeg (6 : Int32).toNatClampNeg)), (h_this_currents, ia G 6 (va_cpy f_a0_currents f_this_currents (0 : Int32).toNatClampNeg (0 : Int32).toNatClampNeg (6 : Int32).toNatClampNeg)), (h_this_kinds, ia G 6 (va_cpy f_a0_kinds f_this_kinds (0 : Int32).toNatClampNeg (0 : Int32).toNatClampNeg (6 : Int32).toNatClampNeg)), (h_this_lanes, ia G 6 (va_cpy f_a0_lanes f_this_lanes (0 : Int32).toNatClampNeg (0 : Int32).toNatClampNeg (6 : Int32).toNatClampNeg)), (h_this_lights, ia G 16 (va_cpy f_a0_lights f_this_lights (0 : Int32).toNatClampNeg (0 : Int32).toNatClampNeg (16 : Int32).toNatClampNeg)), (h_this_now, ob 6 [.ref h_this_now_off, .int y7, .int y8, .int y9]), (h_this_now_off, ia G 6 g10), (h_this_reports, ob 2 [.ref h_this_reports_behinds, .ref h_this_reports_askeds, .ref h_this_reports_leasts, .ref h_this_reports_mosts, .int y21]), (h_this_reports_askeds, ia G 6 g22), (h_this_reports_behinds, ia G 6 g23), (h_this_reports_leasts, ia G 6 g24), (h_this_reports_mosts, ia G 6 g25), (h_this_rules, ob 5 [.ref h_this_rules_kinds, .ref h_this_rules_deeds, .ref h_this_rules_begins, .ref h_this_rules_steps, .ref h_this_rules_lefts, .ref h_this_rules_rights, .ref h_this_rules_facts, .int y12, .int y13]), (h_this_rules_begins, ia G 9 g14), (h_this_rules_deeds, ia G 8 g15), (h_this_rules_kinds, ia G 8 g16), (h_this_rules_lefts, ia G 200 g17), (h_this_rules_rights, ia G 200 g18), (h_this_rules_steps, ia G 200 g19), (h_this_trims, ia G 6 (va_cpy f_a0_trims f_this_trims (0 : Int32).toNatClampNeg (0 : Int32).toNatClampNeg (6 : Int32).toNatClampNeg))]) C h fw_X3_55 21 rfl rfl rfl (Nat.le_of_ble_eq_true rfl) dX3_become_136 rfl (fun H locs h => ?_)
  refine lv_aload_n hx hb dX3_become_139 rfl (lv_at hl 0 rfl) ?_
  refine lv_aload_n hx hb dX3_become_140 rfl (lv_at hl 1 rfl) ?_
  refine r_get C h fk_X3_58 0 rfl rfl dX3_become_141 ?_
  refine r_put (ws' := [(h_a0, ob 3 [.ref h_a0_kinds, .ref h_a0_trims, .ref h_a0_lanes, .ref h_a0_lights, .ref h_a0_currents, .ref h_a0_buoys, .ref h_a0_now, .ref h_a0_rules, .ref h_a0_reports, .int x_a0_count, .int x_a0_end, .int x_a0_z]), (h_a0_buoys, ia G 6 f_a0_buoys), (h_a0_currents, ia G 6 f_a0_currents), (h_a0_kinds, ia G 6 f_a0_kinds), (h_a0_lanes, ia G 6 f_a0_lanes), (h_a0_lights, ia G 16 f_a0_lights), (h_a0_now, ob 6 [.ref h_a0_now_off, .int x_a0_now_watch, .int x_a0_now_score, .int x_a0_now_home]), (h_a0_now_off, ia G 6 f_a0_now_off), (h_a0_reports, ob 2 [.ref h_a0_reports_behinds, .ref h_a0_reports_askeds, .ref h_a0_reports_leasts, .ref h_a0_reports_mosts, .int x_a0_reports_count]), (h_a0_reports_askeds, ia G 6 f_a0_reports_askeds), (h_a0_reports_behinds, ia G 6 f_a0_reports_behinds), (h_a0_reports_leasts, ia G 6 f_a0_reports_leasts), (h_a0_reports_mosts, ia G 6 f_a0_reports_mosts), (h_a0_rules, ob 5 [.ref h_a0_rules_kinds, .ref h_a0_rules_deeds, .ref h_a0_rules_begins, .ref h_a0_rules_steps, .ref h_a0_rules_lefts, .ref h_a0_rules_rights, .ref h_a0_rules_facts, .int x_a0_rules_count, .int x_a0_rules_size]), (h_a0_rules_begins, ia G 9 f_a0_rules_begins), (h_a0_rules_deeds, ia G 8 f_a0_rules_deeds), (h_a0_rules_kinds, ia G 8 f_a0_rules_kinds), (h_a0_rules_lefts, ia G 200 f_a0_rules_lefts), (h_a0_rules_rights, ia G 200 f_a0_rules_rights), (h_a0_rules_steps, ia G 200 f_a0_rules_steps), (h_a0_trims, ia G 6 f_a0_trims), (h_this, ob 3 [.ref h_this_kinds, .ref h_this_trims, .ref h_this_lanes, .ref h_this_lights, .ref h_this_currents, .ref h_this_buoys, .ref h_this_now, .ref h_this_rules, .ref h_this_reports, .int x_a0_count, .int x_a0_end, .int x_a0_z]), (h_this_buoys, ia G 6 (va_cpy f_a0_buoys f_this_buoys (0 : Int32).toNatClampNeg (0 : Int32).toNatClampNeg (6 : Int32).toNatClampNeg)), (h_this_currents, ia G 6 (va_cpy f_a0_currents f_this_currents (0 : Int32).toNatClampNeg (0 : Int32).toNatClampNeg (6 : Int32).toNatClampNeg)), (h_this_kinds, ia G 6 (va_cpy f_a0_kinds f_this_kinds (0 : Int32).toNatClampNeg (0 : Int32).toNatClampNeg (6 : Int32).toNatClampNeg)), (h_this_lanes, ia G 6 (va_cpy f_a0_lanes f_this_lanes (0 : Int32).toNatClampNeg (0 : Int32).toNatClampNeg (6 : Int32).toNatClampNeg)), (h_this_lights, ia G 16 (va_cpy f_a0_lights f_this_lights (0 : Int32).toNatClampNeg (0 : Int32).toNatClampNeg (16 : Int32).toNatClampNeg)), (h_this_now, ob 6 [.ref h_this_now_off, .int y7, .int y8, .int y9]), (h_this_now_off, ia G 6 g10), (h_this_reports, ob 2 [.ref h_this_reports_behinds, .ref h_this_reports_askeds, .ref h_this_reports_leasts, .ref h_this_reports_mosts, .int y21]), (h_this_reports_askeds, ia G 6 g22), (h_this_reports_behinds, ia G 6 g23), (h_this_reports_leasts, ia G 6 g24), (h_this_reports_mosts, ia G 6 g25), (h_this_rules, ob 5 [.ref h_this_rules_kinds, .ref h_this_rules_deeds, .ref h_this_rules_begins, .ref h_this_rules_steps, .ref h_this_rules_lefts, .ref h_this_rules_rights, .ref h_this_rules_facts, .int y12, .int y13]), (h_this_rules_begins, ia G 9 g14), (h_this_rules_deeds, ia G 8 g15), (h_this_rules_kinds, ia G 8 g16), (h_this_rules_lefts, ia G 200 g17), (h_this_rules_rights, ia G 200 g18), (h_this_rules_steps, ia G 200 g19), (h_this_trims, ia G 6 (va_cpy f_a0_trims f_this_trims (0 : Int32).toNatClampNeg (0 : Int32).toNatClampNeg (6 : Int32).toNatClampNeg))]) C h fw_X3_58 21 rfl rfl rfl (Nat.le_of_ble_eq_true rfl) dX3_become_144 rfl (fun H locs h => ?_)
  cases hf
  exact r_vret C h hr hlk dX3_become_147
def f_X8_keep (f_this_kept_buoys : Nat → Int32) (f_this_kept_currents : Nat → Int32) (f_this_kept_kinds : Nat → Int32) (f_this_kept_lanes : Nat → Int32) (f_this_kept_lights : Nat → Int32) (f_this_kept_now_off : Nat → Int32) (f_this_kept_reports_askeds : Nat → Int32) (f_this_kept_reports_behinds : Nat → Int32) (f_this_kept_reports_leasts : Nat → Int32) (f_this_kept_reports_mosts : Nat → Int32) (f_this_kept_rules_begins : Nat → Int32) (f_this_kept_rules_deeds : Nat → Int32) (f_this_kept_rules_kinds : Nat → Int32) (f_this_kept_rules_lefts : Nat → Int32) (f_this_kept_rules_rights : Nat → Int32) (f_this_kept_rules_steps : Nat → Int32) (f_this_kept_trims : Nat → Int32) (x_this_rock_count : Int32) (x_this_rock_end : Int32) (x_this_rock_z : Int32) (f_this_rock_buoys : Nat → Int32) (f_this_rock_currents : Nat → Int32) (f_this_rock_kinds : Nat → Int32) (f_this_rock_lanes : Nat → Int32) (f_this_rock_lights : Nat → Int32) (x_this_rock_now_watch : Int32) (x_this_rock_now_score : Int32) (x_this_rock_now_home : Int32) (f_this_rock_now_off : Nat → Int32) (x_this_rock_reports_count : Int32) (f_this_rock_reports_askeds : Nat → Int32) (f_this_rock_reports_behinds : Nat → Int32) (f_this_rock_reports_leasts : Nat → Int32) (f_this_rock_reports_mosts : Nat → Int32) (x_this_rock_rules_count : Int32) (x_this_rock_rules_size : Int32) (f_this_rock_rules_begins : Nat → Int32) (f_this_rock_rules_deeds : Nat → Int32) (f_this_rock_rules_kinds : Nat → Int32) (f_this_rock_rules_lefts : Nat → Int32) (f_this_rock_rules_rights : Nat → Int32) (f_this_rock_rules_steps : Nat → Int32) (f_this_rock_trims : Nat → Int32) : Option (Int32 × Int32 × Int32 × Int32 × Int32 × (Nat → Int32) × (Nat → Int32) × (Nat → Int32) × (Nat → Int32) × (Nat → Int32) × Int32 × Int32 × Int32 × (Nat → Int32) × Int32 × (Nat → Int32) × (Nat → Int32) × (Nat → Int32) × (Nat → Int32) × Int32 × Int32 × (Nat → Int32) × (Nat → Int32) × (Nat → Int32) × (Nat → Int32) × (Nat → Int32) × (Nat → Int32) × (Nat → Int32)) := bd26 (f_X3_become x_this_rock_count x_this_rock_end x_this_rock_z f_this_rock_buoys f_this_rock_currents f_this_rock_kinds f_this_rock_lanes f_this_rock_lights x_this_rock_now_watch x_this_rock_now_score x_this_rock_now_home f_this_rock_now_off x_this_rock_reports_count f_this_rock_reports_askeds f_this_rock_reports_behinds f_this_rock_reports_leasts f_this_rock_reports_mosts x_this_rock_rules_count x_this_rock_rules_size f_this_rock_rules_begins f_this_rock_rules_deeds f_this_rock_rules_kinds f_this_rock_rules_lefts f_this_rock_rules_rights f_this_rock_rules_steps f_this_rock_trims f_this_kept_buoys f_this_kept_currents f_this_kept_kinds f_this_kept_lanes f_this_kept_lights f_this_kept_now_off f_this_kept_reports_askeds f_this_kept_reports_behinds f_this_kept_reports_leasts f_this_kept_reports_mosts f_this_kept_rules_begins f_this_kept_rules_deeds f_this_kept_rules_kinds f_this_kept_rules_lefts f_this_kept_rules_rights f_this_kept_rules_steps f_this_kept_trims) (fun y1 y2 y3 g4 g5 g6 g7 g8 y9 y10 y11 g12 y13 g14 g15 g16 g17 y18 y19 g20 g21 g22 g23 g24 g25 g26 => some ((1 : Int32), (1 : Int32), y1, y2, y3, g4, g5, g6, g7, g8, y9, y10, y11, g12, y13, g14, g15, g16, g17, y18, y19, g20, g21, g22, g23, g24, g25, g26))
set_option maxRecDepth 100000 in
set_option maxHeartbeats 4000000 in
theorem c_X8_keep {l : Launch} {G : Gt} {h_this h_this_rock h_this_kept h_this_trial h_this_planner h_this_reader h_this_draft h_this_host h_this_thing h_this_tape h_this_rows h_this_kept_kinds h_this_kept_trims h_this_kept_lanes h_this_kept_lights h_this_kept_currents h_this_kept_buoys h_this_kept_now h_this_kept_rules h_this_kept_reports h_this_kept_now_off h_this_kept_reports_behinds h_this_kept_reports_askeds h_this_kept_reports_leasts h_this_kept_reports_mosts h_this_kept_rules_kinds h_this_kept_rules_deeds h_this_kept_rules_begins h_this_kept_rules_steps h_this_kept_rules_lefts h_this_kept_rules_rights h_this_kept_rules_facts h_this_rock_kinds h_this_rock_trims h_this_rock_lanes h_this_rock_lights h_this_rock_currents h_this_rock_buoys h_this_rock_now h_this_rock_rules h_this_rock_reports h_this_rock_now_off h_this_rock_reports_behinds h_this_rock_reports_askeds h_this_rock_reports_leasts h_this_rock_reports_mosts h_this_rock_rules_kinds h_this_rock_rules_deeds h_this_rock_rules_begins h_this_rock_rules_steps h_this_rock_rules_lefts h_this_rock_rules_rights h_this_rock_rules_facts : Nat} {x_this_tapeCount : Int32} {x_this_rowCount : Int32} {x_this_isKept : Int32} {x_this_kept_count : Int32} {x_this_kept_end : Int32} {x_this_kept_z : Int32} {f_this_kept_buoys : Nat → Int32} {f_this_kept_currents : Nat → Int32} {f_this_kept_kinds : Nat → Int32} {f_this_kept_lanes : Nat → Int32} {f_this_kept_lights : Nat → Int32} {x_this_kept_now_watch : Int32} {x_this_kept_now_score : Int32} {x_this_kept_now_home : Int32} {f_this_kept_now_off : Nat → Int32} {x_this_kept_reports_count : Int32} {f_this_kept_reports_askeds : Nat → Int32} {f_this_kept_reports_behinds : Nat → Int32} {f_this_kept_reports_leasts : Nat → Int32} {f_this_kept_reports_mosts : Nat → Int32} {x_this_kept_rules_count : Int32} {x_this_kept_rules_size : Int32} {f_this_kept_rules_begins : Nat → Int32} {f_this_kept_rules_deeds : Nat → Int32} {f_this_kept_rules_kinds : Nat → Int32} {f_this_kept_rules_lefts : Nat → Int32} {f_this_kept_rules_rights : Nat → Int32} {f_this_kept_rules_steps : Nat → Int32} {f_this_kept_trims : Nat → Int32} {x_this_rock_count : Int32} {x_this_rock_end : Int32} {x_this_rock_z : Int32} {f_this_rock_buoys : Nat → Int32} {f_this_rock_currents : Nat → Int32} {f_this_rock_kinds : Nat → Int32} {f_this_rock_lanes : Nat → Int32} {f_this_rock_lights : Nat → Int32} {x_this_rock_now_watch : Int32} {x_this_rock_now_score : Int32} {x_this_rock_now_home : Int32} {f_this_rock_now_off : Nat → Int32} {x_this_rock_reports_count : Int32} {f_this_rock_reports_askeds : Nat → Int32} {f_this_rock_reports_behinds : Nat → Int32} {f_this_rock_reports_leasts : Nat → Int32} {f_this_rock_reports_mosts : Nat → Int32} {x_this_rock_rules_count : Int32} {x_this_rock_rules_size : Int32} {f_this_rock_rules_begins : Nat → Int32} {f_this_rock_rules_deeds : Nat → Int32} {f_this_rock_rules_kinds : Nat → Int32} {f_this_rock_rules_lefts : Nat → Int32} {f_this_rock_rules_rights : Nat → Int32} {f_this_rock_rules_steps : Nat → Int32} {f_this_rock_trims : Nat → Int32} {r : Int32} {m_this_isKept : Int32} {m_this_kept_count : Int32} {m_this_kept_end : Int32} {m_this_kept_z : Int32} {m_this_kept_buoys : Nat → Int32} {m_this_kept_currents : Nat → Int32} {m_this_kept_kinds : Nat → Int32} {m_this_kept_lanes : Nat → Int32} {m_this_kept_lights : Nat → Int32} {m_this_kept_now_watch : Int32} {m_this_kept_now_score : Int32} {m_this_kept_now_home : Int32} {m_this_kept_now_off : Nat → Int32} {m_this_kept_reports_count : Int32} {m_this_kept_reports_askeds : Nat → Int32} {m_this_kept_reports_behinds : Nat → Int32} {m_this_kept_reports_leasts : Nat → Int32} {m_this_kept_reports_mosts : Nat → Int32} {m_this_kept_rules_count : Int32} {m_this_kept_rules_size : Int32} {m_this_kept_rules_begins : Nat → Int32} {m_this_kept_rules_deeds : Nat → Int32} {m_this_kept_rules_kinds : Nat → Int32} {m_this_kept_rules_lefts : Nat → Int32} {m_this_kept_rules_rights : Nat → Int32} {m_this_kept_rules_steps : Nat → Int32} {m_this_kept_trims : Nat → Int32} (hf : f_X8_keep f_this_kept_buoys f_this_kept_currents f_this_kept_kinds f_this_kept_lanes f_this_kept_lights f_this_kept_now_off f_this_kept_reports_askeds f_this_kept_reports_behinds f_this_kept_reports_leasts f_this_kept_reports_mosts f_this_kept_rules_begins f_this_kept_rules_deeds f_this_kept_rules_kinds f_this_kept_rules_lefts f_this_kept_rules_rights f_this_kept_rules_steps f_this_kept_trims x_this_rock_count x_this_rock_end x_this_rock_z f_this_rock_buoys f_this_rock_currents f_this_rock_kinds f_this_rock_lanes f_this_rock_lights x_this_rock_now_watch x_this_rock_now_score x_this_rock_now_home f_this_rock_now_off x_this_rock_reports_count f_this_rock_reports_askeds f_this_rock_reports_behinds f_this_rock_reports_leasts f_this_rock_reports_mosts x_this_rock_rules_count x_this_rock_rules_size f_this_rock_rules_begins f_this_rock_rules_deeds f_this_rock_rules_kinds f_this_rock_rules_lefts f_this_rock_rules_rights f_this_rock_rules_steps f_this_rock_trims = some (r, m_this_isKept, m_this_kept_count, m_this_kept_end, m_this_kept_z, m_this_kept_buoys, m_this_kept_currents, m_this_kept_kinds, m_this_kept_lanes, m_this_kept_lights, m_this_kept_now_watch, m_this_kept_now_score, m_this_kept_now_home, m_this_kept_now_off, m_this_kept_reports_count, m_this_kept_reports_askeds, m_this_kept_reports_behinds, m_this_kept_reports_leasts, m_this_kept_reports_mosts, m_this_kept_rules_count, m_this_kept_rules_size, m_this_kept_rules_begins, m_this_kept_rules_deeds, m_this_kept_rules_kinds, m_this_kept_rules_lefts, m_this_kept_rules_rights, m_this_kept_rules_steps, m_this_kept_trims)) : mFi l G yX8_keep cX8_keep 1 .int 3 [.ref h_this] [(h_this, ob 8 [.ref h_this_rock, .ref h_this_kept, .ref h_this_trial, .ref h_this_planner, .ref h_this_reader, .ref h_this_draft, .ref h_this_host, .ref h_this_thing, .ref h_this_tape, .ref h_this_rows, .int x_this_tapeCount, .int x_this_rowCount, .int x_this_isKept]), (h_this_kept, ob 3 [.ref h_this_kept_kinds, .ref h_this_kept_trims, .ref h_this_kept_lanes, .ref h_this_kept_lights, .ref h_this_kept_currents, .ref h_this_kept_buoys, .ref h_this_kept_now, .ref h_this_kept_rules, .ref h_this_kept_reports, .int x_this_kept_count, .int x_this_kept_end, .int x_this_kept_z]), (h_this_kept_buoys, ia G 6 f_this_kept_buoys), (h_this_kept_currents, ia G 6 f_this_kept_currents), (h_this_kept_kinds, ia G 6 f_this_kept_kinds), (h_this_kept_lanes, ia G 6 f_this_kept_lanes), (h_this_kept_lights, ia G 16 f_this_kept_lights), (h_this_kept_now, ob 6 [.ref h_this_kept_now_off, .int x_this_kept_now_watch, .int x_this_kept_now_score, .int x_this_kept_now_home]), (h_this_kept_now_off, ia G 6 f_this_kept_now_off), (h_this_kept_reports, ob 2 [.ref h_this_kept_reports_behinds, .ref h_this_kept_reports_askeds, .ref h_this_kept_reports_leasts, .ref h_this_kept_reports_mosts, .int x_this_kept_reports_count]), (h_this_kept_reports_askeds, ia G 6 f_this_kept_reports_askeds), (h_this_kept_reports_behinds, ia G 6 f_this_kept_reports_behinds), (h_this_kept_reports_leasts, ia G 6 f_this_kept_reports_leasts), (h_this_kept_reports_mosts, ia G 6 f_this_kept_reports_mosts), (h_this_kept_rules, ob 5 [.ref h_this_kept_rules_kinds, .ref h_this_kept_rules_deeds, .ref h_this_kept_rules_begins, .ref h_this_kept_rules_steps, .ref h_this_kept_rules_lefts, .ref h_this_kept_rules_rights, .ref h_this_kept_rules_facts, .int x_this_kept_rules_count, .int x_this_kept_rules_size]), (h_this_kept_rules_begins, ia G 9 f_this_kept_rules_begins), (h_this_kept_rules_deeds, ia G 8 f_this_kept_rules_deeds), (h_this_kept_rules_kinds, ia G 8 f_this_kept_rules_kinds), (h_this_kept_rules_lefts, ia G 200 f_this_kept_rules_lefts), (h_this_kept_rules_rights, ia G 200 f_this_kept_rules_rights), (h_this_kept_rules_steps, ia G 200 f_this_kept_rules_steps), (h_this_kept_trims, ia G 6 f_this_kept_trims), (h_this_rock, ob 3 [.ref h_this_rock_kinds, .ref h_this_rock_trims, .ref h_this_rock_lanes, .ref h_this_rock_lights, .ref h_this_rock_currents, .ref h_this_rock_buoys, .ref h_this_rock_now, .ref h_this_rock_rules, .ref h_this_rock_reports, .int x_this_rock_count, .int x_this_rock_end, .int x_this_rock_z]), (h_this_rock_buoys, ia G 6 f_this_rock_buoys), (h_this_rock_currents, ia G 6 f_this_rock_currents), (h_this_rock_kinds, ia G 6 f_this_rock_kinds), (h_this_rock_lanes, ia G 6 f_this_rock_lanes), (h_this_rock_lights, ia G 16 f_this_rock_lights), (h_this_rock_now, ob 6 [.ref h_this_rock_now_off, .int x_this_rock_now_watch, .int x_this_rock_now_score, .int x_this_rock_now_home]), (h_this_rock_now_off, ia G 6 f_this_rock_now_off), (h_this_rock_reports, ob 2 [.ref h_this_rock_reports_behinds, .ref h_this_rock_reports_askeds, .ref h_this_rock_reports_leasts, .ref h_this_rock_reports_mosts, .int x_this_rock_reports_count]), (h_this_rock_reports_askeds, ia G 6 f_this_rock_reports_askeds), (h_this_rock_reports_behinds, ia G 6 f_this_rock_reports_behinds), (h_this_rock_reports_leasts, ia G 6 f_this_rock_reports_leasts), (h_this_rock_reports_mosts, ia G 6 f_this_rock_reports_mosts), (h_this_rock_rules, ob 5 [.ref h_this_rock_rules_kinds, .ref h_this_rock_rules_deeds, .ref h_this_rock_rules_begins, .ref h_this_rock_rules_steps, .ref h_this_rock_rules_lefts, .ref h_this_rock_rules_rights, .ref h_this_rock_rules_facts, .int x_this_rock_rules_count, .int x_this_rock_rules_size]), (h_this_rock_rules_begins, ia G 9 f_this_rock_rules_begins), (h_this_rock_rules_deeds, ia G 8 f_this_rock_rules_deeds), (h_this_rock_rules_kinds, ia G 8 f_this_rock_rules_kinds), (h_this_rock_rules_lefts, ia G 200 f_this_rock_rules_lefts), (h_this_rock_rules_rights, ia G 200 f_this_rock_rules_rights), (h_this_rock_rules_steps, ia G 200 f_this_rock_rules_steps), (h_this_rock_trims, ia G 6 f_this_rock_trims)] r [(h_this, ob 8 [.ref h_this_rock, .ref h_this_kept, .ref h_this_trial, .ref h_this_planner, .ref h_this_reader, .ref h_this_draft, .ref h_this_host, .ref h_this_thing, .ref h_this_tape, .ref h_this_rows, .int x_this_tapeCount, .int x_this_rowCount, .int m_this_isKept]), (h_this_kept, ob 3 [.ref h_this_kept_kinds, .ref h_this_kept_trims, .ref h_this_kept_lanes, .ref h_this_kept_lights, .ref h_this_kept_currents, .ref h_this_kept_buoys, .ref h_this_kept_now, .ref h_this_kept_rules, .ref h_this_kept_reports, .int m_this_kept_count, .int m_this_kept_end, .int m_this_kept_z]), (h_this_kept_buoys, ia G 6 m_this_kept_buoys), (h_this_kept_currents, ia G 6 m_this_kept_currents), (h_this_kept_kinds, ia G 6 m_this_kept_kinds), (h_this_kept_lanes, ia G 6 m_this_kept_lanes), (h_this_kept_lights, ia G 16 m_this_kept_lights), (h_this_kept_now, ob 6 [.ref h_this_kept_now_off, .int m_this_kept_now_watch, .int m_this_kept_now_score, .int m_this_kept_now_home]), (h_this_kept_now_off, ia G 6 m_this_kept_now_off), (h_this_kept_reports, ob 2 [.ref h_this_kept_reports_behinds, .ref h_this_kept_reports_askeds, .ref h_this_kept_reports_leasts, .ref h_this_kept_reports_mosts, .int m_this_kept_reports_count]), (h_this_kept_reports_askeds, ia G 6 m_this_kept_reports_askeds), (h_this_kept_reports_behinds, ia G 6 m_this_kept_reports_behinds), (h_this_kept_reports_leasts, ia G 6 m_this_kept_reports_leasts), (h_this_kept_reports_mosts, ia G 6 m_this_kept_reports_mosts), (h_this_kept_rules, ob 5 [.ref h_this_kept_rules_kinds, .ref h_this_kept_rules_deeds, .ref h_this_kept_rules_begins, .ref h_this_kept_rules_steps, .ref h_this_kept_rules_lefts, .ref h_this_kept_rules_rights, .ref h_this_kept_rules_facts, .int m_this_kept_rules_count, .int m_this_kept_rules_size]), (h_this_kept_rules_begins, ia G 9 m_this_kept_rules_begins), (h_this_kept_rules_deeds, ia G 8 m_this_kept_rules_deeds), (h_this_kept_rules_kinds, ia G 8 m_this_kept_rules_kinds), (h_this_kept_rules_lefts, ia G 200 m_this_kept_rules_lefts), (h_this_kept_rules_rights, ia G 200 m_this_kept_rules_rights), (h_this_kept_rules_steps, ia G 200 m_this_kept_rules_steps), (h_this_kept_trims, ia G 6 m_this_kept_trims), (h_this_rock, ob 3 [.ref h_this_rock_kinds, .ref h_this_rock_trims, .ref h_this_rock_lanes, .ref h_this_rock_lights, .ref h_this_rock_currents, .ref h_this_rock_buoys, .ref h_this_rock_now, .ref h_this_rock_rules, .ref h_this_rock_reports, .int x_this_rock_count, .int x_this_rock_end, .int x_this_rock_z]), (h_this_rock_buoys, ia G 6 f_this_rock_buoys), (h_this_rock_currents, ia G 6 f_this_rock_currents), (h_this_rock_kinds, ia G 6 f_this_rock_kinds), (h_this_rock_lanes, ia G 6 f_this_rock_lanes), (h_this_rock_lights, ia G 16 f_this_rock_lights), (h_this_rock_now, ob 6 [.ref h_this_rock_now_off, .int x_this_rock_now_watch, .int x_this_rock_now_score, .int x_this_rock_now_home]), (h_this_rock_now_off, ia G 6 f_this_rock_now_off), (h_this_rock_reports, ob 2 [.ref h_this_rock_reports_behinds, .ref h_this_rock_reports_askeds, .ref h_this_rock_reports_leasts, .ref h_this_rock_reports_mosts, .int x_this_rock_reports_count]), (h_this_rock_reports_askeds, ia G 6 f_this_rock_reports_askeds), (h_this_rock_reports_behinds, ia G 6 f_this_rock_reports_behinds), (h_this_rock_reports_leasts, ia G 6 f_this_rock_reports_leasts), (h_this_rock_reports_mosts, ia G 6 f_this_rock_reports_mosts), (h_this_rock_rules, ob 5 [.ref h_this_rock_rules_kinds, .ref h_this_rock_rules_deeds, .ref h_this_rock_rules_begins, .ref h_this_rock_rules_steps, .ref h_this_rock_rules_lefts, .ref h_this_rock_rules_rights, .ref h_this_rock_rules_facts, .int x_this_rock_rules_count, .int x_this_rock_rules_size]), (h_this_rock_rules_begins, ia G 9 f_this_rock_rules_begins), (h_this_rock_rules_deeds, ia G 8 f_this_rock_rules_deeds), (h_this_rock_rules_kinds, ia G 8 f_this_rock_rules_kinds), (h_this_rock_rules_lefts, ia G 200 f_this_rock_rules_lefts), (h_this_rock_rules_rights, ia G 200 f_this_rock_rules_rights), (h_this_rock_rules_steps, ia G 200 f_this_rock_rules_steps), (h_this_rock_trims, ia G 6 f_this_rock_trims)] := by
  refine mFi.of (by decide +kernel) (Nat.le_of_ble_eq_true rfl) ?_
  intro p e s m below meth c A C hr hlk h ls hl
  obtain ⟨hx, hb, hml, hown, hts⟩ := id C
  replace hl : lv_has ls 1 [(0, .ref h_this)] := hl
  unfold f_X8_keep at hf
  refine lv_aload_n hx hb dX8_keep_0 rfl (lv_at hl 0 rfl) ?_
  refine r_get C h fk_X8_16 0 rfl rfl dX8_keep_1 ?_
  refine lv_aload_n hx hb dX8_keep_4 rfl (lv_at hl 0 rfl) ?_
  refine r_get C h fk_X8_10 0 rfl rfl dX8_keep_5 ?_
  replace hf := bd26_inv hf
  obtain ⟨y1, y2, y3, g4, g5, g6, g7, g8, y9, y10, y11, g12, y13, g14, g15, g16, g17, y18, y19, g20, g21, g22, g23, g24, g25, g26, hc27, hf⟩ := hf
  refine r_cvV (ws' := [(h_this, ob 8 [.ref h_this_rock, .ref h_this_kept, .ref h_this_trial, .ref h_this_planner, .ref h_this_reader, .ref h_this_draft, .ref h_this_host, .ref h_this_thing, .ref h_this_tape, .ref h_this_rows, .int x_this_tapeCount, .int x_this_rowCount, .int x_this_isKept]), (h_this_kept, ob 3 [.ref h_this_kept_kinds, .ref h_this_kept_trims, .ref h_this_kept_lanes, .ref h_this_kept_lights, .ref h_this_kept_currents, .ref h_this_kept_buoys, .ref h_this_kept_now, .ref h_this_kept_rules, .ref h_this_kept_reports, .int y1, .int y2, .int y3]), (h_this_kept_buoys, ia G 6 g4), (h_this_kept_currents, ia G 6 g5), (h_this_kept_kinds, ia G 6 g6), (h_this_kept_lanes, ia G 6 g7), (h_this_kept_lights, ia G 16 g8), (h_this_kept_now, ob 6 [.ref h_this_kept_now_off, .int y9, .int y10, .int y11]), (h_this_kept_now_off, ia G 6 g12), (h_this_kept_reports, ob 2 [.ref h_this_kept_reports_behinds, .ref h_this_kept_reports_askeds, .ref h_this_kept_reports_leasts, .ref h_this_kept_reports_mosts, .int y13]), (h_this_kept_reports_askeds, ia G 6 g14), (h_this_kept_reports_behinds, ia G 6 g15), (h_this_kept_reports_leasts, ia G 6 g16), (h_this_kept_reports_mosts, ia G 6 g17), (h_this_kept_rules, ob 5 [.ref h_this_kept_rules_kinds, .ref h_this_kept_rules_deeds, .ref h_this_kept_rules_begins, .ref h_this_kept_rules_steps, .ref h_this_kept_rules_lefts, .ref h_this_kept_rules_rights, .ref h_this_kept_rules_facts, .int y18, .int y19]), (h_this_kept_rules_begins, ia G 9 g20), (h_this_kept_rules_deeds, ia G 8 g21), (h_this_kept_rules_kinds, ia G 8 g22), (h_this_kept_rules_lefts, ia G 200 g23), (h_this_kept_rules_rights, ia G 200 g24), (h_this_kept_rules_steps, ia G 200 g25), (h_this_kept_trims, ia G 6 g26), (h_this_rock, ob 3 [.ref h_this_rock_kinds, .ref h_this_rock_trims, .ref h_this_rock_lanes, .ref h_this_rock_lights, .ref h_this_rock_currents, .ref h_this_rock_buoys, .ref h_this_rock_now, .ref h_this_rock_rules, .ref h_this_rock_reports, .int x_this_rock_count, .int x_this_rock_end, .int x_this_rock_z]), (h_this_rock_buoys, ia G 6 f_this_rock_buoys), (h_this_rock_currents, ia G 6 f_this_rock_currents), (h_this_rock_kinds, ia G 6 f_this_rock_kinds), (h_this_rock_lanes, ia G 6 f_this_rock_lanes), (h_this_rock_lights, ia G 16 f_this_rock_lights), (h_this_rock_now, ob 6 [.ref h_this_rock_now_off, .int x_this_rock_now_watch, .int x_this_rock_now_score, .int x_this_rock_now_home]), (h_this_rock_now_off, ia G 6 f_this_rock_now_off), (h_this_rock_reports, ob 2 [.ref h_this_rock_reports_behinds, .ref h_this_rock_reports_askeds, .ref h_this_rock_reports_leasts, .ref h_this_rock_reports_mosts, .int x_this_rock_reports_count]), (h_this_rock_reports_askeds, ia G 6 f_this_rock_reports_askeds), (h_this_rock_reports_behinds, ia G 6 f_this_rock_reports_behinds), (h_this_rock_reports_leasts, ia G 6 f_this_rock_reports_leasts), (h_this_rock_reports_mosts, ia G 6 f_this_rock_reports_mosts), (h_this_rock_rules, ob 5 [.ref h_this_rock_rules_kinds, .ref h_this_rock_rules_deeds, .ref h_this_rock_rules_begins, .ref h_this_rock_rules_steps, .ref h_this_rock_rules_lefts, .ref h_this_rock_rules_rights, .ref h_this_rock_rules_facts, .int x_this_rock_rules_count, .int x_this_rock_rules_size]), (h_this_rock_rules_begins, ia G 9 f_this_rock_rules_begins), (h_this_rock_rules_deeds, ia G 8 f_this_rock_rules_deeds), (h_this_rock_rules_kinds, ia G 8 f_this_rock_rules_kinds), (h_this_rock_rules_lefts, ia G 200 f_this_rock_rules_lefts), (h_this_rock_rules_rights, ia G 200 f_this_rock_rules_rights), (h_this_rock_rules_steps, ia G 200 f_this_rock_rules_steps), (h_this_rock_trims, ia G 6 f_this_rock_trims)]) C h (c_X3_become hc27) mv_X8_372 rfl 1 rfl [22, 23, 24, 25, 26, 27, 28, 29, 30, 31, 32, 33, 34, 35, 36, 37, 38, 39, 40, 41, 42, 1, 2, 3, 4, 5, 6, 7, 8, 9, 10, 11, 12, 13, 14, 15, 16, 17, 18, 19, 20, 21] rfl rfl rfl rfl rfl hl.1 rfl (Nat.le_of_ble_eq_true rfl) (rok (by decide)) dX8_keep_8 (fun H locs h => ?_)
  refine lv_aload_n hx hb dX8_keep_11 rfl (lv_at hl 0 rfl) ?_
  refine lv_iconst (v := (1 : Int32)) hx hb dX8_keep_12 rfl ?_
  refine r_put (ws' := [(h_this, ob 8 [.ref h_this_rock, .ref h_this_kept, .ref h_this_trial, .ref h_this_planner, .ref h_this_reader, .ref h_this_draft, .ref h_this_host, .ref h_this_thing, .ref h_this_tape, .ref h_this_rows, .int x_this_tapeCount, .int x_this_rowCount, .int (1 : Int32)]), (h_this_kept, ob 3 [.ref h_this_kept_kinds, .ref h_this_kept_trims, .ref h_this_kept_lanes, .ref h_this_kept_lights, .ref h_this_kept_currents, .ref h_this_kept_buoys, .ref h_this_kept_now, .ref h_this_kept_rules, .ref h_this_kept_reports, .int y1, .int y2, .int y3]), (h_this_kept_buoys, ia G 6 g4), (h_this_kept_currents, ia G 6 g5), (h_this_kept_kinds, ia G 6 g6), (h_this_kept_lanes, ia G 6 g7), (h_this_kept_lights, ia G 16 g8), (h_this_kept_now, ob 6 [.ref h_this_kept_now_off, .int y9, .int y10, .int y11]), (h_this_kept_now_off, ia G 6 g12), (h_this_kept_reports, ob 2 [.ref h_this_kept_reports_behinds, .ref h_this_kept_reports_askeds, .ref h_this_kept_reports_leasts, .ref h_this_kept_reports_mosts, .int y13]), (h_this_kept_reports_askeds, ia G 6 g14), (h_this_kept_reports_behinds, ia G 6 g15), (h_this_kept_reports_leasts, ia G 6 g16), (h_this_kept_reports_mosts, ia G 6 g17), (h_this_kept_rules, ob 5 [.ref h_this_kept_rules_kinds, .ref h_this_kept_rules_deeds, .ref h_this_kept_rules_begins, .ref h_this_kept_rules_steps, .ref h_this_kept_rules_lefts, .ref h_this_kept_rules_rights, .ref h_this_kept_rules_facts, .int y18, .int y19]), (h_this_kept_rules_begins, ia G 9 g20), (h_this_kept_rules_deeds, ia G 8 g21), (h_this_kept_rules_kinds, ia G 8 g22), (h_this_kept_rules_lefts, ia G 200 g23), (h_this_kept_rules_rights, ia G 200 g24), (h_this_kept_rules_steps, ia G 200 g25), (h_this_kept_trims, ia G 6 g26), (h_this_rock, ob 3 [.ref h_this_rock_kinds, .ref h_this_rock_trims, .ref h_this_rock_lanes, .ref h_this_rock_lights, .ref h_this_rock_currents, .ref h_this_rock_buoys, .ref h_this_rock_now, .ref h_this_rock_rules, .ref h_this_rock_reports, .int x_this_rock_count, .int x_this_rock_end, .int x_this_rock_z]), (h_this_rock_buoys, ia G 6 f_this_rock_buoys), (h_this_rock_currents, ia G 6 f_this_rock_currents), (h_this_rock_kinds, ia G 6 f_this_rock_kinds), (h_this_rock_lanes, ia G 6 f_this_rock_lanes), (h_this_rock_lights, ia G 16 f_this_rock_lights), (h_this_rock_now, ob 6 [.ref h_this_rock_now_off, .int x_this_rock_now_watch, .int x_this_rock_now_score, .int x_this_rock_now_home]), (h_this_rock_now_off, ia G 6 f_this_rock_now_off), (h_this_rock_reports, ob 2 [.ref h_this_rock_reports_behinds, .ref h_this_rock_reports_askeds, .ref h_this_rock_reports_leasts, .ref h_this_rock_reports_mosts, .int x_this_rock_reports_count]), (h_this_rock_reports_askeds, ia G 6 f_this_rock_reports_askeds), (h_this_rock_reports_behinds, ia G 6 f_this_rock_reports_behinds), (h_this_rock_reports_leasts, ia G 6 f_this_rock_reports_leasts), (h_this_rock_reports_mosts, ia G 6 f_this_rock_reports_mosts), (h_this_rock_rules, ob 5 [.ref h_this_rock_rules_kinds, .ref h_this_rock_rules_deeds, .ref h_this_rock_rules_begins, .ref h_this_rock_rules_steps, .ref h_this_rock_rules_lefts, .ref h_this_rock_rules_rights, .ref h_this_rock_rules_facts, .int x_this_rock_rules_count, .int x_this_rock_rules_size]), (h_this_rock_rules_begins, ia G 9 f_this_rock_rules_begins), (h_this_rock_rules_deeds, ia G 8 f_this_rock_rules_deeds), (h_this_rock_rules_kinds, ia G 8 f_this_rock_rules_kinds), (h_this_rock_rules_lefts, ia G 200 f_this_rock_rules_lefts), (h_this_rock_rules_rights, ia G 200 f_this_rock_rules_rights), (h_this_rock_rules_steps, ia G 200 f_this_rock_rules_steps), (h_this_rock_trims, ia G 6 f_this_rock_trims)]) C h fw_X8_75 0 rfl rfl rfl (Nat.le_of_ble_eq_true rfl) dX8_keep_13 rfl (fun H locs h => ?_)
  refine lv_iconst (v := (1 : Int32)) hx hb dX8_keep_16 rfl ?_
  cases hf
  exact r_iret C h hr hlk rfl dX8_keep_17
def f_X8_again (x_this_isKept : Int32) (x_this_kept_count : Int32) (x_this_kept_end : Int32) (x_this_kept_z : Int32) (f_this_kept_buoys : Nat → Int32) (f_this_kept_currents : Nat → Int32) (f_this_kept_kinds : Nat → Int32) (f_this_kept_lanes : Nat → Int32) (f_this_kept_lights : Nat → Int32) (x_this_kept_now_watch : Int32) (x_this_kept_now_score : Int32) (x_this_kept_now_home : Int32) (f_this_kept_now_off : Nat → Int32) (x_this_kept_reports_count : Int32) (f_this_kept_reports_askeds : Nat → Int32) (f_this_kept_reports_behinds : Nat → Int32) (f_this_kept_reports_leasts : Nat → Int32) (f_this_kept_reports_mosts : Nat → Int32) (x_this_kept_rules_count : Int32) (x_this_kept_rules_size : Int32) (f_this_kept_rules_begins : Nat → Int32) (f_this_kept_rules_deeds : Nat → Int32) (f_this_kept_rules_kinds : Nat → Int32) (f_this_kept_rules_lefts : Nat → Int32) (f_this_kept_rules_rights : Nat → Int32) (f_this_kept_rules_steps : Nat → Int32) (f_this_kept_trims : Nat → Int32) (x_this_rock_count : Int32) (x_this_rock_end : Int32) (x_this_rock_z : Int32) (f_this_rock_buoys : Nat → Int32) (f_this_rock_currents : Nat → Int32) (f_this_rock_kinds : Nat → Int32) (f_this_rock_lanes : Nat → Int32) (f_this_rock_lights : Nat → Int32) (x_this_rock_now_watch : Int32) (x_this_rock_now_score : Int32) (x_this_rock_now_home : Int32) (f_this_rock_now_off : Nat → Int32) (x_this_rock_reports_count : Int32) (f_this_rock_reports_askeds : Nat → Int32) (f_this_rock_reports_behinds : Nat → Int32) (f_this_rock_reports_leasts : Nat → Int32) (f_this_rock_reports_mosts : Nat → Int32) (x_this_rock_rules_count : Int32) (x_this_rock_rules_size : Int32) (f_this_rock_rules_begins : Nat → Int32) (f_this_rock_rules_deeds : Nat → Int32) (f_this_rock_rules_kinds : Nat → Int32) (f_this_rock_rules_lefts : Nat → Int32) (f_this_rock_rules_rights : Nat → Int32) (f_this_rock_rules_steps : Nat → Int32) (f_this_rock_trims : Nat → Int32) : Option (Int32 × Int32 × Int32 × Int32 × (Nat → Int32) × (Nat → Int32) × (Nat → Int32) × (Nat → Int32) × (Nat → Int32) × Int32 × Int32 × Int32 × (Nat → Int32) × Int32 × (Nat → Int32) × (Nat → Int32) × (Nat → Int32) × (Nat → Int32) × Int32 × Int32 × (Nat → Int32) × (Nat → Int32) × (Nat → Int32) × (Nat → Int32) × (Nat → Int32) × (Nat → Int32) × (Nat → Int32)) := (if x_this_isKept = 0 then some ((-3 : Int32), x_this_rock_count, x_this_rock_end, x_this_rock_z, f_this_rock_buoys, f_this_rock_currents, f_this_rock_kinds, f_this_rock_lanes, f_this_rock_lights, x_this_rock_now_watch, x_this_rock_now_score, x_this_rock_now_home, f_this_rock_now_off, x_this_rock_reports_count, f_this_rock_reports_askeds, f_this_rock_reports_behinds, f_this_rock_reports_leasts, f_this_rock_reports_mosts, x_this_rock_rules_count, x_this_rock_rules_size, f_this_rock_rules_begins, f_this_rock_rules_deeds, f_this_rock_rules_kinds, f_this_rock_rules_lefts, f_this_rock_rules_rights, f_this_rock_rules_steps, f_this_rock_trims) else bd26 (f_X3_become x_this_kept_count x_this_kept_end x_this_kept_z f_this_kept_buoys f_this_kept_currents f_this_kept_kinds f_this_kept_lanes f_this_kept_lights x_this_kept_now_watch x_this_kept_now_score x_this_kept_now_home f_this_kept_now_off x_this_kept_reports_count f_this_kept_reports_askeds f_this_kept_reports_behinds f_this_kept_reports_leasts f_this_kept_reports_mosts x_this_kept_rules_count x_this_kept_rules_size f_this_kept_rules_begins f_this_kept_rules_deeds f_this_kept_rules_kinds f_this_kept_rules_lefts f_this_kept_rules_rights f_this_kept_rules_steps f_this_kept_trims f_this_rock_buoys f_this_rock_currents f_this_rock_kinds f_this_rock_lanes f_this_rock_lights f_this_rock_now_off f_this_rock_reports_askeds f_this_rock_reports_behinds f_this_rock_reports_leasts f_this_rock_reports_mosts f_this_rock_rules_begins f_this_rock_rules_deeds f_this_rock_rules_kinds f_this_rock_rules_lefts f_this_rock_rules_rights f_this_rock_rules_steps f_this_rock_trims) (fun y2 y3 y4 g5 g6 g7 g8 g9 y10 y11 y12 g13 y14 g15 g16 g17 g18 y19 y20 g21 g22 g23 g24 g25 g26 g27 => some (y2, y2, y3, y4, g5, g6, g7, g8, g9, y10, y11, y12, g13, y14, g15, g16, g17, g18, y19, y20, g21, g22, g23, g24, g25, g26, g27)))
set_option maxRecDepth 100000 in
set_option maxHeartbeats 4000000 in
theorem c_X8_again {l : Launch} {G : Gt} {h_this h_this_rock h_this_kept h_this_trial h_this_planner h_this_reader h_this_draft h_this_host h_this_thing h_this_tape h_this_rows h_this_kept_kinds h_this_kept_trims h_this_kept_lanes h_this_kept_lights h_this_kept_currents h_this_kept_buoys h_this_kept_now h_this_kept_rules h_this_kept_reports h_this_kept_now_off h_this_kept_reports_behinds h_this_kept_reports_askeds h_this_kept_reports_leasts h_this_kept_reports_mosts h_this_kept_rules_kinds h_this_kept_rules_deeds h_this_kept_rules_begins h_this_kept_rules_steps h_this_kept_rules_lefts h_this_kept_rules_rights h_this_kept_rules_facts h_this_rock_kinds h_this_rock_trims h_this_rock_lanes h_this_rock_lights h_this_rock_currents h_this_rock_buoys h_this_rock_now h_this_rock_rules h_this_rock_reports h_this_rock_now_off h_this_rock_reports_behinds h_this_rock_reports_askeds h_this_rock_reports_leasts h_this_rock_reports_mosts h_this_rock_rules_kinds h_this_rock_rules_deeds h_this_rock_rules_begins h_this_rock_rules_steps h_this_rock_rules_lefts h_this_rock_rules_rights h_this_rock_rules_facts : Nat} {x_this_tapeCount : Int32} {x_this_rowCount : Int32} {x_this_isKept : Int32} {x_this_kept_count : Int32} {x_this_kept_end : Int32} {x_this_kept_z : Int32} {f_this_kept_buoys : Nat → Int32} {f_this_kept_currents : Nat → Int32} {f_this_kept_kinds : Nat → Int32} {f_this_kept_lanes : Nat → Int32} {f_this_kept_lights : Nat → Int32} {x_this_kept_now_watch : Int32} {x_this_kept_now_score : Int32} {x_this_kept_now_home : Int32} {f_this_kept_now_off : Nat → Int32} {x_this_kept_reports_count : Int32} {f_this_kept_reports_askeds : Nat → Int32} {f_this_kept_reports_behinds : Nat → Int32} {f_this_kept_reports_leasts : Nat → Int32} {f_this_kept_reports_mosts : Nat → Int32} {x_this_kept_rules_count : Int32} {x_this_kept_rules_size : Int32} {f_this_kept_rules_begins : Nat → Int32} {f_this_kept_rules_deeds : Nat → Int32} {f_this_kept_rules_kinds : Nat → Int32} {f_this_kept_rules_lefts : Nat → Int32} {f_this_kept_rules_rights : Nat → Int32} {f_this_kept_rules_steps : Nat → Int32} {f_this_kept_trims : Nat → Int32} {x_this_rock_count : Int32} {x_this_rock_end : Int32} {x_this_rock_z : Int32} {f_this_rock_buoys : Nat → Int32} {f_this_rock_currents : Nat → Int32} {f_this_rock_kinds : Nat → Int32} {f_this_rock_lanes : Nat → Int32} {f_this_rock_lights : Nat → Int32} {x_this_rock_now_watch : Int32} {x_this_rock_now_score : Int32} {x_this_rock_now_home : Int32} {f_this_rock_now_off : Nat → Int32} {x_this_rock_reports_count : Int32} {f_this_rock_reports_askeds : Nat → Int32} {f_this_rock_reports_behinds : Nat → Int32} {f_this_rock_reports_leasts : Nat → Int32} {f_this_rock_reports_mosts : Nat → Int32} {x_this_rock_rules_count : Int32} {x_this_rock_rules_size : Int32} {f_this_rock_rules_begins : Nat → Int32} {f_this_rock_rules_deeds : Nat → Int32} {f_this_rock_rules_kinds : Nat → Int32} {f_this_rock_rules_lefts : Nat → Int32} {f_this_rock_rules_rights : Nat → Int32} {f_this_rock_rules_steps : Nat → Int32} {f_this_rock_trims : Nat → Int32} {r : Int32} {m_this_rock_count : Int32} {m_this_rock_end : Int32} {m_this_rock_z : Int32} {m_this_rock_buoys : Nat → Int32} {m_this_rock_currents : Nat → Int32} {m_this_rock_kinds : Nat → Int32} {m_this_rock_lanes : Nat → Int32} {m_this_rock_lights : Nat → Int32} {m_this_rock_now_watch : Int32} {m_this_rock_now_score : Int32} {m_this_rock_now_home : Int32} {m_this_rock_now_off : Nat → Int32} {m_this_rock_reports_count : Int32} {m_this_rock_reports_askeds : Nat → Int32} {m_this_rock_reports_behinds : Nat → Int32} {m_this_rock_reports_leasts : Nat → Int32} {m_this_rock_reports_mosts : Nat → Int32} {m_this_rock_rules_count : Int32} {m_this_rock_rules_size : Int32} {m_this_rock_rules_begins : Nat → Int32} {m_this_rock_rules_deeds : Nat → Int32} {m_this_rock_rules_kinds : Nat → Int32} {m_this_rock_rules_lefts : Nat → Int32} {m_this_rock_rules_rights : Nat → Int32} {m_this_rock_rules_steps : Nat → Int32} {m_this_rock_trims : Nat → Int32} (hf : f_X8_again x_this_isKept x_this_kept_count x_this_kept_end x_this_kept_z f_this_kept_buoys f_this_kept_currents f_this_kept_kinds f_this_kept_lanes f_this_kept_lights x_this_kept_now_watch x_this_kept_now_score x_this_kept_now_home f_this_kept_now_off x_this_kept_reports_count f_this_kept_reports_askeds f_this_kept_reports_behinds f_this_kept_reports_leasts f_this_kept_reports_mosts x_this_kept_rules_count x_this_kept_rules_size f_this_kept_rules_begins f_this_kept_rules_deeds f_this_kept_rules_kinds f_this_kept_rules_lefts f_this_kept_rules_rights f_this_kept_rules_steps f_this_kept_trims x_this_rock_count x_this_rock_end x_this_rock_z f_this_rock_buoys f_this_rock_currents f_this_rock_kinds f_this_rock_lanes f_this_rock_lights x_this_rock_now_watch x_this_rock_now_score x_this_rock_now_home f_this_rock_now_off x_this_rock_reports_count f_this_rock_reports_askeds f_this_rock_reports_behinds f_this_rock_reports_leasts f_this_rock_reports_mosts x_this_rock_rules_count x_this_rock_rules_size f_this_rock_rules_begins f_this_rock_rules_deeds f_this_rock_rules_kinds f_this_rock_rules_lefts f_this_rock_rules_rights f_this_rock_rules_steps f_this_rock_trims = some (r, m_this_rock_count, m_this_rock_end, m_this_rock_z, m_this_rock_buoys, m_this_rock_currents, m_this_rock_kinds, m_this_rock_lanes, m_this_rock_lights, m_this_rock_now_watch, m_this_rock_now_score, m_this_rock_now_home, m_this_rock_now_off, m_this_rock_reports_count, m_this_rock_reports_askeds, m_this_rock_reports_behinds, m_this_rock_reports_leasts, m_this_rock_reports_mosts, m_this_rock_rules_count, m_this_rock_rules_size, m_this_rock_rules_begins, m_this_rock_rules_deeds, m_this_rock_rules_kinds, m_this_rock_rules_lefts, m_this_rock_rules_rights, m_this_rock_rules_steps, m_this_rock_trims)) : mFi l G yX8_again cX8_again 1 .int 3 [.ref h_this] [(h_this, ob 8 [.ref h_this_rock, .ref h_this_kept, .ref h_this_trial, .ref h_this_planner, .ref h_this_reader, .ref h_this_draft, .ref h_this_host, .ref h_this_thing, .ref h_this_tape, .ref h_this_rows, .int x_this_tapeCount, .int x_this_rowCount, .int x_this_isKept]), (h_this_kept, ob 3 [.ref h_this_kept_kinds, .ref h_this_kept_trims, .ref h_this_kept_lanes, .ref h_this_kept_lights, .ref h_this_kept_currents, .ref h_this_kept_buoys, .ref h_this_kept_now, .ref h_this_kept_rules, .ref h_this_kept_reports, .int x_this_kept_count, .int x_this_kept_end, .int x_this_kept_z]), (h_this_kept_buoys, ia G 6 f_this_kept_buoys), (h_this_kept_currents, ia G 6 f_this_kept_currents), (h_this_kept_kinds, ia G 6 f_this_kept_kinds), (h_this_kept_lanes, ia G 6 f_this_kept_lanes), (h_this_kept_lights, ia G 16 f_this_kept_lights), (h_this_kept_now, ob 6 [.ref h_this_kept_now_off, .int x_this_kept_now_watch, .int x_this_kept_now_score, .int x_this_kept_now_home]), (h_this_kept_now_off, ia G 6 f_this_kept_now_off), (h_this_kept_reports, ob 2 [.ref h_this_kept_reports_behinds, .ref h_this_kept_reports_askeds, .ref h_this_kept_reports_leasts, .ref h_this_kept_reports_mosts, .int x_this_kept_reports_count]), (h_this_kept_reports_askeds, ia G 6 f_this_kept_reports_askeds), (h_this_kept_reports_behinds, ia G 6 f_this_kept_reports_behinds), (h_this_kept_reports_leasts, ia G 6 f_this_kept_reports_leasts), (h_this_kept_reports_mosts, ia G 6 f_this_kept_reports_mosts), (h_this_kept_rules, ob 5 [.ref h_this_kept_rules_kinds, .ref h_this_kept_rules_deeds, .ref h_this_kept_rules_begins, .ref h_this_kept_rules_steps, .ref h_this_kept_rules_lefts, .ref h_this_kept_rules_rights, .ref h_this_kept_rules_facts, .int x_this_kept_rules_count, .int x_this_kept_rules_size]), (h_this_kept_rules_begins, ia G 9 f_this_kept_rules_begins), (h_this_kept_rules_deeds, ia G 8 f_this_kept_rules_deeds), (h_this_kept_rules_kinds, ia G 8 f_this_kept_rules_kinds), (h_this_kept_rules_lefts, ia G 200 f_this_kept_rules_lefts), (h_this_kept_rules_rights, ia G 200 f_this_kept_rules_rights), (h_this_kept_rules_steps, ia G 200 f_this_kept_rules_steps), (h_this_kept_trims, ia G 6 f_this_kept_trims), (h_this_rock, ob 3 [.ref h_this_rock_kinds, .ref h_this_rock_trims, .ref h_this_rock_lanes, .ref h_this_rock_lights, .ref h_this_rock_currents, .ref h_this_rock_buoys, .ref h_this_rock_now, .ref h_this_rock_rules, .ref h_this_rock_reports, .int x_this_rock_count, .int x_this_rock_end, .int x_this_rock_z]), (h_this_rock_buoys, ia G 6 f_this_rock_buoys), (h_this_rock_currents, ia G 6 f_this_rock_currents), (h_this_rock_kinds, ia G 6 f_this_rock_kinds), (h_this_rock_lanes, ia G 6 f_this_rock_lanes), (h_this_rock_lights, ia G 16 f_this_rock_lights), (h_this_rock_now, ob 6 [.ref h_this_rock_now_off, .int x_this_rock_now_watch, .int x_this_rock_now_score, .int x_this_rock_now_home]), (h_this_rock_now_off, ia G 6 f_this_rock_now_off), (h_this_rock_reports, ob 2 [.ref h_this_rock_reports_behinds, .ref h_this_rock_reports_askeds, .ref h_this_rock_reports_leasts, .ref h_this_rock_reports_mosts, .int x_this_rock_reports_count]), (h_this_rock_reports_askeds, ia G 6 f_this_rock_reports_askeds), (h_this_rock_reports_behinds, ia G 6 f_this_rock_reports_behinds), (h_this_rock_reports_leasts, ia G 6 f_this_rock_reports_leasts), (h_this_rock_reports_mosts, ia G 6 f_this_rock_reports_mosts), (h_this_rock_rules, ob 5 [.ref h_this_rock_rules_kinds, .ref h_this_rock_rules_deeds, .ref h_this_rock_rules_begins, .ref h_this_rock_rules_steps, .ref h_this_rock_rules_lefts, .ref h_this_rock_rules_rights, .ref h_this_rock_rules_facts, .int x_this_rock_rules_count, .int x_this_rock_rules_size]), (h_this_rock_rules_begins, ia G 9 f_this_rock_rules_begins), (h_this_rock_rules_deeds, ia G 8 f_this_rock_rules_deeds), (h_this_rock_rules_kinds, ia G 8 f_this_rock_rules_kinds), (h_this_rock_rules_lefts, ia G 200 f_this_rock_rules_lefts), (h_this_rock_rules_rights, ia G 200 f_this_rock_rules_rights), (h_this_rock_rules_steps, ia G 200 f_this_rock_rules_steps), (h_this_rock_trims, ia G 6 f_this_rock_trims)] r [(h_this, ob 8 [.ref h_this_rock, .ref h_this_kept, .ref h_this_trial, .ref h_this_planner, .ref h_this_reader, .ref h_this_draft, .ref h_this_host, .ref h_this_thing, .ref h_this_tape, .ref h_this_rows, .int x_this_tapeCount, .int x_this_rowCount, .int x_this_isKept]), (h_this_kept, ob 3 [.ref h_this_kept_kinds, .ref h_this_kept_trims, .ref h_this_kept_lanes, .ref h_this_kept_lights, .ref h_this_kept_currents, .ref h_this_kept_buoys, .ref h_this_kept_now, .ref h_this_kept_rules, .ref h_this_kept_reports, .int x_this_kept_count, .int x_this_kept_end, .int x_this_kept_z]), (h_this_kept_buoys, ia G 6 f_this_kept_buoys), (h_this_kept_currents, ia G 6 f_this_kept_currents), (h_this_kept_kinds, ia G 6 f_this_kept_kinds), (h_this_kept_lanes, ia G 6 f_this_kept_lanes), (h_this_kept_lights, ia G 16 f_this_kept_lights), (h_this_kept_now, ob 6 [.ref h_this_kept_now_off, .int x_this_kept_now_watch, .int x_this_kept_now_score, .int x_this_kept_now_home]), (h_this_kept_now_off, ia G 6 f_this_kept_now_off), (h_this_kept_reports, ob 2 [.ref h_this_kept_reports_behinds, .ref h_this_kept_reports_askeds, .ref h_this_kept_reports_leasts, .ref h_this_kept_reports_mosts, .int x_this_kept_reports_count]), (h_this_kept_reports_askeds, ia G 6 f_this_kept_reports_askeds), (h_this_kept_reports_behinds, ia G 6 f_this_kept_reports_behinds), (h_this_kept_reports_leasts, ia G 6 f_this_kept_reports_leasts), (h_this_kept_reports_mosts, ia G 6 f_this_kept_reports_mosts), (h_this_kept_rules, ob 5 [.ref h_this_kept_rules_kinds, .ref h_this_kept_rules_deeds, .ref h_this_kept_rules_begins, .ref h_this_kept_rules_steps, .ref h_this_kept_rules_lefts, .ref h_this_kept_rules_rights, .ref h_this_kept_rules_facts, .int x_this_kept_rules_count, .int x_this_kept_rules_size]), (h_this_kept_rules_begins, ia G 9 f_this_kept_rules_begins), (h_this_kept_rules_deeds, ia G 8 f_this_kept_rules_deeds), (h_this_kept_rules_kinds, ia G 8 f_this_kept_rules_kinds), (h_this_kept_rules_lefts, ia G 200 f_this_kept_rules_lefts), (h_this_kept_rules_rights, ia G 200 f_this_kept_rules_rights), (h_this_kept_rules_steps, ia G 200 f_this_kept_rules_steps), (h_this_kept_trims, ia G 6 f_this_kept_trims), (h_this_rock, ob 3 [.ref h_this_rock_kinds, .ref h_this_rock_trims, .ref h_this_rock_lanes, .ref h_this_rock_lights, .ref h_this_rock_currents, .ref h_this_rock_buoys, .ref h_this_rock_now, .ref h_this_rock_rules, .ref h_this_rock_reports, .int m_this_rock_count, .int m_this_rock_end, .int m_this_rock_z]), (h_this_rock_buoys, ia G 6 m_this_rock_buoys), (h_this_rock_currents, ia G 6 m_this_rock_currents), (h_this_rock_kinds, ia G 6 m_this_rock_kinds), (h_this_rock_lanes, ia G 6 m_this_rock_lanes), (h_this_rock_lights, ia G 16 m_this_rock_lights), (h_this_rock_now, ob 6 [.ref h_this_rock_now_off, .int m_this_rock_now_watch, .int m_this_rock_now_score, .int m_this_rock_now_home]), (h_this_rock_now_off, ia G 6 m_this_rock_now_off), (h_this_rock_reports, ob 2 [.ref h_this_rock_reports_behinds, .ref h_this_rock_reports_askeds, .ref h_this_rock_reports_leasts, .ref h_this_rock_reports_mosts, .int m_this_rock_reports_count]), (h_this_rock_reports_askeds, ia G 6 m_this_rock_reports_askeds), (h_this_rock_reports_behinds, ia G 6 m_this_rock_reports_behinds), (h_this_rock_reports_leasts, ia G 6 m_this_rock_reports_leasts), (h_this_rock_reports_mosts, ia G 6 m_this_rock_reports_mosts), (h_this_rock_rules, ob 5 [.ref h_this_rock_rules_kinds, .ref h_this_rock_rules_deeds, .ref h_this_rock_rules_begins, .ref h_this_rock_rules_steps, .ref h_this_rock_rules_lefts, .ref h_this_rock_rules_rights, .ref h_this_rock_rules_facts, .int m_this_rock_rules_count, .int m_this_rock_rules_size]), (h_this_rock_rules_begins, ia G 9 m_this_rock_rules_begins), (h_this_rock_rules_deeds, ia G 8 m_this_rock_rules_deeds), (h_this_rock_rules_kinds, ia G 8 m_this_rock_rules_kinds), (h_this_rock_rules_lefts, ia G 200 m_this_rock_rules_lefts), (h_this_rock_rules_rights, ia G 200 m_this_rock_rules_rights), (h_this_rock_rules_steps, ia G 200 m_this_rock_rules_steps), (h_this_rock_trims, ia G 6 m_this_rock_trims)] := by
  refine mFi.of (by decide +kernel) (Nat.le_of_ble_eq_true rfl) ?_
  intro p e s m below meth c A C hr hlk h ls hl
  obtain ⟨hx, hb, hml, hown, hts⟩ := id C
  replace hl : lv_has ls 1 [(0, .ref h_this)] := hl
  unfold f_X8_again at hf
  refine lv_aload_n hx hb dX8_again_0 rfl (lv_at hl 0 rfl) ?_
  refine r_get C h fk_X8_75 0 rfl rfl dX8_again_1 ?_
  refine lv_if_ne (tgt := 10) hx hb dX8_again_4 rfl (fun c1 => ?_) (fun c1 => ?_)
  · replace hf := ifn c1 hf
    refine lv_aload_n hx hb dX8_again_10 rfl (lv_at hl 0 rfl) ?_
    refine r_get C h fk_X8_10 0 rfl rfl dX8_again_11 ?_
    refine lv_aload_n hx hb dX8_again_14 rfl (lv_at hl 0 rfl) ?_
    refine r_get C h fk_X8_16 0 rfl rfl dX8_again_15 ?_
    replace hf := bd26_inv hf
    obtain ⟨y2, y3, y4, g5, g6, g7, g8, g9, y10, y11, y12, g13, y14, g15, g16, g17, g18, y19, y20, g21, g22, g23, g24, g25, g26, g27, hc28, hf⟩ := hf
    refine r_cvV (ws' := [(h_this, ob 8 [.ref h_this_rock, .ref h_this_kept, .ref h_this_trial, .ref h_this_planner, .ref h_this_reader, .ref h_this_draft, .ref h_this_host, .ref h_this_thing, .ref h_this_tape, .ref h_this_rows, .int x_this_tapeCount, .int x_this_rowCount, .int x_this_isKept]), (h_this_kept, ob 3 [.ref h_this_kept_kinds, .ref h_this_kept_trims, .ref h_this_kept_lanes, .ref h_this_kept_lights, .ref h_this_kept_currents, .ref h_this_kept_buoys, .ref h_this_kept_now, .ref h_this_kept_rules, .ref h_this_kept_reports, .int x_this_kept_count, .int x_this_kept_end, .int x_this_kept_z]), (h_this_kept_buoys, ia G 6 f_this_kept_buoys), (h_this_kept_currents, ia G 6 f_this_kept_currents), (h_this_kept_kinds, ia G 6 f_this_kept_kinds), (h_this_kept_lanes, ia G 6 f_this_kept_lanes), (h_this_kept_lights, ia G 16 f_this_kept_lights), (h_this_kept_now, ob 6 [.ref h_this_kept_now_off, .int x_this_kept_now_watch, .int x_this_kept_now_score, .int x_this_kept_now_home]), (h_this_kept_now_off, ia G 6 f_this_kept_now_off), (h_this_kept_reports, ob 2 [.ref h_this_kept_reports_behinds, .ref h_this_kept_reports_askeds, .ref h_this_kept_reports_leasts, .ref h_this_kept_reports_mosts, .int x_this_kept_reports_count]), (h_this_kept_reports_askeds, ia G 6 f_this_kept_reports_askeds), (h_this_kept_reports_behinds, ia G 6 f_this_kept_reports_behinds), (h_this_kept_reports_leasts, ia G 6 f_this_kept_reports_leasts), (h_this_kept_reports_mosts, ia G 6 f_this_kept_reports_mosts), (h_this_kept_rules, ob 5 [.ref h_this_kept_rules_kinds, .ref h_this_kept_rules_deeds, .ref h_this_kept_rules_begins, .ref h_this_kept_rules_steps, .ref h_this_kept_rules_lefts, .ref h_this_kept_rules_rights, .ref h_this_kept_rules_facts, .int x_this_kept_rules_count, .int x_this_kept_rules_size]), (h_this_kept_rules_begins, ia G 9 f_this_kept_rules_begins), (h_this_kept_rules_deeds, ia G 8 f_this_kept_rules_deeds), (h_this_kept_rules_kinds, ia G 8 f_this_kept_rules_kinds), (h_this_kept_rules_lefts, ia G 200 f_this_kept_rules_lefts), (h_this_kept_rules_rights, ia G 200 f_this_kept_rules_rights), (h_this_kept_rules_steps, ia G 200 f_this_kept_rules_steps), (h_this_kept_trims, ia G 6 f_this_kept_trims), (h_this_rock, ob 3 [.ref h_this_rock_kinds, .ref h_this_rock_trims, .ref h_this_rock_lanes, .ref h_this_rock_lights, .ref h_this_rock_currents, .ref h_this_rock_buoys, .ref h_this_rock_now, .ref h_this_rock_rules, .ref h_this_rock_reports, .int y2, .int y3, .int y4]), (h_this_rock_buoys, ia G 6 g5), (h_this_rock_currents, ia G 6 g6), (h_this_rock_kinds, ia G 6 g7), (h_this_rock_lanes, ia G 6 g8), (h_this_rock_lights, ia G 16 g9), (h_this_rock_now, ob 6 [.ref h_this_rock_now_off, .int y10, .int y11, .int y12]), (h_this_rock_now_off, ia G 6 g13), (h_this_rock_reports, ob 2 [.ref h_this_rock_reports_behinds, .ref h_this_rock_reports_askeds, .ref h_this_rock_reports_leasts, .ref h_this_rock_reports_mosts, .int y14]), (h_this_rock_reports_askeds, ia G 6 g15), (h_this_rock_reports_behinds, ia G 6 g16), (h_this_rock_reports_leasts, ia G 6 g17), (h_this_rock_reports_mosts, ia G 6 g18), (h_this_rock_rules, ob 5 [.ref h_this_rock_rules_kinds, .ref h_this_rock_rules_deeds, .ref h_this_rock_rules_begins, .ref h_this_rock_rules_steps, .ref h_this_rock_rules_lefts, .ref h_this_rock_rules_rights, .ref h_this_rock_rules_facts, .int y19, .int y20]), (h_this_rock_rules_begins, ia G 9 g21), (h_this_rock_rules_deeds, ia G 8 g22), (h_this_rock_rules_kinds, ia G 8 g23), (h_this_rock_rules_lefts, ia G 200 g24), (h_this_rock_rules_rights, ia G 200 g25), (h_this_rock_rules_steps, ia G 200 g26), (h_this_rock_trims, ia G 6 g27)]) C h (c_X3_become hc28) mv_X8_372 rfl 22 rfl [1, 2, 3, 4, 5, 6, 7, 8, 9, 10, 11, 12, 13, 14, 15, 16, 17, 18, 19, 20, 21, 22, 23, 24, 25, 26, 27, 28, 29, 30, 31, 32, 33, 34, 35, 36, 37, 38, 39, 40, 41, 42] rfl rfl rfl rfl rfl hl.1 rfl (Nat.le_of_ble_eq_true rfl) (rok (by decide)) dX8_again_18 (fun H locs h => ?_)
    refine lv_aload_n hx hb dX8_again_21 rfl (lv_at hl 0 rfl) ?_
    refine r_get C h fk_X8_10 0 rfl rfl dX8_again_22 ?_
    refine r_get C h fk_X8_83 22 rfl rfl dX8_again_25 ?_
    cases hf
    exact r_iret C h hr hlk rfl dX8_again_28
  · replace hf := ifp c1 hf
    refine lv_bipush (v := (-3 : Int32)) hx hb dX8_again_7 rfl ?_
    cases hf
    exact r_iret C h hr hlk rfl dX8_again_9
def f_J7_fill_53178_L5 (p1 : Int32) (n_a0 : Nat) : Nat → Int32 → Int32 → (Nat → Int32) → Option ((Nat → Int32))
  | 0, _, _, _ => none
  | n + 1, v2, v3, g_a0 => (if v3 ≤ v2 then some g_a0 else chkI v2 n_a0 (lt1 (v2 + (1 : Int32)) (fun (t4 : Int32) => (f_J7_fill_53178_L5 p1 n_a0 n) t4 v3 (upd g_a0 v2.toNatClampNeg p1))))
def f_J7_fill_53178 (p1 : Int32) (n_a0 : Nat) (f_a0 : Nat → Int32) : Option ((Nat → Int32)) := lt1 (Int32.ofNat n_a0) (fun (t1 : Int32) => f_J7_fill_53178_L5 p1 n_a0 1000 (0 : Int32) t1 f_a0)
set_option maxRecDepth 100000 in
set_option maxHeartbeats 4000000 in
theorem c_J7_fill_53178 {l : Launch} {G : Gt} {h_a0 : Nat} {p1 : Int32} {n_a0 : Nat} {f_a0 : Nat → Int32} {m_a0 : Nat → Int32} (hf : f_J7_fill_53178 p1 n_a0 f_a0 = some m_a0) : mFv l G yJ7_fill_53178 cJ7_fill_53178 4 0 [.ref h_a0, .int p1] [(h_a0, ia G n_a0 f_a0)] [(h_a0, ia G n_a0 m_a0)] := by
  refine mFv.of (by decide +kernel) (Nat.le_of_ble_eq_true rfl) ?_
  intro p e s m below meth c A C hr hlk h ls hl
  obtain ⟨hx, hb, hml, hown, hts⟩ := id C
  replace hl : lv_has ls 4 [(0, .ref h_a0), (1, .int p1)] := hl
  unfold f_J7_fill_53178 at hf
  refine with_K G A 4 (fun K hK1 hK2 => ?_)
  have L5 : ∀ (n : Nat) (v2 : Int32) (v3 : Int32) (g_a0 : Nat → Int32), f_J7_fill_53178_L5 p1 n_a0 n v2 v3 g_a0 = some m_a0 → K 5 ([] : List Value) [(h_a0, ia G n_a0 g_a0)] [(0, .ref h_a0), (1, .int p1), (2, .int v2), (3, .int v3)] := by
    intro n
    induction n with
    | zero =>
      intro v2 v3 g_a0 hf
      replace hf : (none : Option _) = some _ := hf
      cases hf
    | succ n ih =>
      intro v2 v3 g_a0 hf
      rw [f_J7_fill_53178_L5] at hf
      refine hK1 _ _ _ _ (fun H locs ls h hl => ?_)
      refine lv_iload_n hx hb dJ7_fill_53178_5 rfl (lv_at hl 2 rfl) ?_
      refine lv_iload_n hx hb dJ7_fill_53178_6 rfl (lv_at hl 3 rfl) ?_
      refine lv_icmp_ge (tgt := 20) hx hb dJ7_fill_53178_7 rfl (fun c2 => ?_) (fun c2 => ?_)
      · replace hf := ifp c2 hf
        cases hf
        exact r_vret C h hr hlk dJ7_fill_53178_20
      · replace hf := ifn c2 hf
        refine lv_aload_n hx hb dJ7_fill_53178_10 rfl (lv_at hl 0 rfl) ?_
        refine lv_iload_n hx hb dJ7_fill_53178_11 rfl (lv_at hl 2 rfl) ?_
        refine lv_iload_n hx hb dJ7_fill_53178_12 rfl (lv_at hl 1 rfl) ?_
        replace hf := chkI_inv hf
        obtain ⟨hi3, hf⟩ := hf
        refine r_iast (ws' := [(h_a0, ia G n_a0 (upd g_a0 v2.toNatClampNeg p1))]) C h 0 rfl hi3 dJ7_fill_53178_13 rfl (fun H locs h => ?_)
        obtain ⟨t4, et4⟩ : ∃ y : Int32, y = v2 + (1 : Int32) := ⟨_, rfl⟩
        replace hf := lt1_inv et4 hf
        refine lv_iinc (v := t4) (lv' := [(2, .int t4), (0, .ref h_a0), (1, .int p1), (3, .int v3)]) hx hb dJ7_fill_53178_14 hl (k := 2) rfl (by rw [et4]; rfl) (by decide) rfl (fun ls hl => ?_)
        refine lv_goto (tgt := 5) hx hb dJ7_fill_53178_17 rfl ?_
        exact hK2 _ _ _ _ (ih t4 v3 (upd g_a0 v2.toNatClampNeg p1) hf) _ _ _ h (lv_sub hl [1, 2, 0, 3] rfl)
  refine lv_iconst (v := (0 : Int32)) hx hb dJ7_fill_53178_0 rfl ?_
  refine lv_istore_n (lv' := [(2, .int (0 : Int32)), (0, .ref h_a0), (1, .int p1)]) hx hb dJ7_fill_53178_1 rfl hl (by decide) rfl (fun ls hl => ?_)
  refine lv_aload_n hx hb dJ7_fill_53178_2 rfl (lv_at hl 1 rfl) ?_
  refine r_alen C h 0 rfl dJ7_fill_53178_3 ?_
  refine lv_topi (fun t1 et1 => ?_)
  replace hf := lt1_inv et1 hf
  refine lv_istore_n (lv' := [(3, .int t1), (2, .int (0 : Int32)), (0, .ref h_a0), (1, .int p1)]) hx hb dJ7_fill_53178_4 rfl hl (by decide) rfl (fun ls hl => ?_)
  exact hK2 _ _ _ _ (L5 1000 (0 : Int32) t1 f_a0 hf) _ _ _ h (lv_sub hl [2, 3, 1, 0] rfl)
