set_option maxRecDepth 100000 in
set_option maxHeartbeats 4000000 in
theorem c_X0_isMissing {l : Launch} {G : Gt} {h_this h_this_sorts h_this_sizes h_this_items h_this_holds h_this_shelfShips h_this_shelfSorts h_this_shelfSizes : Nat} {p0 : Int32} {f_this_sorts : Nat → Int32} {r : Int32} (hf : f_X0_isMissing p0 f_this_sorts = some r) : mFi l G yX0_isMissing cX0_isMissing 2 .boolean 0 [.ref h_this, .int p0] [(h_this, ob 0 [.ref h_this_sorts, .ref h_this_sizes, .ref h_this_items, .ref h_this_holds, .ref h_this_shelfShips, .ref h_this_shelfSorts, .ref h_this_shelfSizes]), (h_this_sorts, ia G 4 f_this_sorts)] r [(h_this, ob 0 [.ref h_this_sorts, .ref h_this_sizes, .ref h_this_items, .ref h_this_holds, .ref h_this_shelfShips, .ref h_this_shelfSorts, .ref h_this_shelfSizes]), (h_this_sorts, ia G 4 f_this_sorts)] := by
  refine mFi.of (by decide +kernel) (Nat.le_of_ble_eq_true rfl) ?_
  intro p e s m below meth c A C hr hlk h ls hl
  obtain ⟨hx, hb, hml, hown, hts⟩ := id C
  replace hl : lv_has ls 2 [(0, .ref h_this), (1, .int p0)] := hl
  unfold f_X0_isMissing at hf
  refine lv_aload_n hx hb dX0_isMissing_0 rfl (lv_at hl 0 rfl) ?_
  refine r_get C h fk_X0_9 0 rfl rfl dX0_isMissing_1 ?_
  refine lv_iload_n hx hb dX0_isMissing_4 rfl (lv_at hl 1 rfl) ?_
  replace hf := chkI_inv hf
  obtain ⟨hi1, hf⟩ := hf
  refine r_iald C h 1 rfl hi1 dX0_isMissing_5 ?_
  refine lv_iconst (v := (-1 : Int32)) hx hb dX0_isMissing_6 rfl ?_
  refine lv_icmp_ne (tgt := 14) hx hb dX0_isMissing_7 rfl (fun c2 => ?_) (fun c2 => ?_)
  · replace hf := ifn c2 hf
    refine lv_iconst (v := (0 : Int32)) hx hb dX0_isMissing_14 rfl ?_
    cases hf
    exact r_iret C h hr hlk rfl dX0_isMissing_15
  · replace hf := ifp c2 hf
    refine lv_iconst (v := (1 : Int32)) hx hb dX0_isMissing_10 rfl ?_
    refine lv_goto (tgt := 15) hx hb dX0_isMissing_11 rfl ?_
    cases hf
    exact r_iret C h hr hlk rfl dX0_isMissing_15
set_option maxRecDepth 100000 in
set_option maxHeartbeats 4000000 in
theorem c_X0_hasItem {l : Launch} {G : Gt} {h_this h_this_sorts h_this_sizes h_this_items h_this_holds h_this_shelfShips h_this_shelfSorts h_this_shelfSizes : Nat} {p0 : Int32} {p1 : Int32} {f_this_sizes : Nat → Int32} {r : Int32} (hf : f_X0_hasItem p0 p1 f_this_sizes = some r) : mFi l G yX0_hasItem cX0_hasItem 3 .boolean 0 [.ref h_this, .int p0, .int p1] [(h_this, ob 0 [.ref h_this_sorts, .ref h_this_sizes, .ref h_this_items, .ref h_this_holds, .ref h_this_shelfShips, .ref h_this_shelfSorts, .ref h_this_shelfSizes]), (h_this_sizes, ia G 4 f_this_sizes)] r [(h_this, ob 0 [.ref h_this_sorts, .ref h_this_sizes, .ref h_this_items, .ref h_this_holds, .ref h_this_shelfShips, .ref h_this_shelfSorts, .ref h_this_shelfSizes]), (h_this_sizes, ia G 4 f_this_sizes)] := by
  refine mFi.of (by decide +kernel) (Nat.le_of_ble_eq_true rfl) ?_
  intro p e s m below meth c A C hr hlk h ls hl
  obtain ⟨hx, hb, hml, hown, hts⟩ := id C
  replace hl : lv_has ls 3 [(0, .ref h_this), (1, .int p0), (2, .int p1)] := hl
  unfold f_X0_hasItem at hf
  refine lv_iload_n hx hb dX0_hasItem_0 rfl (lv_at hl 2 rfl) ?_
  refine lv_if_lt (tgt := 18) hx hb dX0_hasItem_1 rfl (fun c1 => ?_) (fun c1 => ?_)
  · replace hf := ifp c1 hf
    refine lv_iconst (v := (0 : Int32)) hx hb dX0_hasItem_18 rfl ?_
    cases hf
    exact r_iret C h hr hlk rfl dX0_hasItem_19
  · replace hf := ifn c1 hf
    refine lv_iload_n hx hb dX0_hasItem_4 rfl (lv_at hl 2 rfl) ?_
    refine lv_aload_n hx hb dX0_hasItem_5 rfl (lv_at hl 0 rfl) ?_
    refine r_get C h fk_X0_15 0 rfl rfl dX0_hasItem_6 ?_
    refine lv_iload_n hx hb dX0_hasItem_9 rfl (lv_at hl 1 rfl) ?_
    replace hf := chkI_inv hf
    obtain ⟨hi2, hf⟩ := hf
    refine r_iald C h 1 rfl hi2 dX0_hasItem_10 ?_
    refine lv_icmp_ge (tgt := 18) hx hb dX0_hasItem_11 rfl (fun c3 => ?_) (fun c3 => ?_)
    · replace hf := ifp c3 hf
      refine lv_iconst (v := (0 : Int32)) hx hb dX0_hasItem_18 rfl ?_
      cases hf
      exact r_iret C h hr hlk rfl dX0_hasItem_19
    · replace hf := ifn c3 hf
      refine lv_iconst (v := (1 : Int32)) hx hb dX0_hasItem_14 rfl ?_
      refine lv_goto (tgt := 19) hx hb dX0_hasItem_15 rfl ?_
      cases hf
      exact r_iret C h hr hlk rfl dX0_hasItem_19
set_option maxRecDepth 100000 in
set_option maxHeartbeats 4000000 in
theorem c_X0_narrowed {l : Launch} {G : Gt} {p0 : Int32} {p1 : Int32} {r : Int32} (hf : f_X0_narrowed p0 p1 = some r) : mFi l G yX0_narrowed cX0_narrowed 2 .int 0 [.int p0, .int p1] ([] : va_W) r ([] : va_W) := by
  refine mFi.of (by decide +kernel) (Nat.le_of_ble_eq_true rfl) ?_
  intro p e s m below meth c A C hr hlk h ls hl
  obtain ⟨hx, hb, hml, hown, hts⟩ := id C
  replace hl : lv_has ls 2 [(0, .int p0), (1, .int p1)] := hl
  unfold f_X0_narrowed at hf
  refine lv_iload_n hx hb dX0_narrowed_0 rfl (lv_at hl 0 rfl) ?_
  by_cases c1 : p0 = (0 : Int32)
  · replace hf := ifp c1 hf
    refine r_tab (tgt := 36) C dX0_narrowed_1 (0 : Int32) c1 (by decide) rfl rfl ?_
    refine lv_iload_n hx hb dX0_narrowed_36 rfl (lv_at hl 1 rfl) ?_
    refine lv_i2b hx hb dX0_narrowed_37 rfl ?_
    cases hf
    exact r_iret C h hr hlk rfl dX0_narrowed_38
  · replace hf := ifn c1 hf
    by_cases c2 : p0 = (1 : Int32)
    · replace hf := ifp c2 hf
      refine r_tab (tgt := 39) C dX0_narrowed_1 (1 : Int32) c2 (by decide) rfl rfl ?_
      refine lv_iload_n hx hb dX0_narrowed_39 rfl (lv_at hl 1 rfl) ?_
      refine lv_i2s hx hb dX0_narrowed_40 rfl ?_
      cases hf
      exact r_iret C h hr hlk rfl dX0_narrowed_41
    · replace hf := ifn c2 hf
      by_cases c3 : p0 = (2 : Int32)
      · replace hf := ifp c3 hf
        refine r_tab (tgt := 52) C dX0_narrowed_1 (2 : Int32) c3 (by decide) rfl rfl ?_
        refine lv_iload_n hx hb dX0_narrowed_52 rfl (lv_at hl 1 rfl) ?_
        cases hf
        exact r_iret C h hr hlk rfl dX0_narrowed_53
      · replace hf := ifn c3 hf
        by_cases c4 : p0 = (3 : Int32)
        · replace hf := ifp c4 hf
          refine r_tab (tgt := 52) C dX0_narrowed_1 (3 : Int32) c4 (by decide) rfl rfl ?_
          refine lv_iload_n hx hb dX0_narrowed_52 rfl (lv_at hl 1 rfl) ?_
          cases hf
          exact r_iret C h hr hlk rfl dX0_narrowed_53
        · replace hf := ifn c4 hf
          by_cases c5 : p0 = (4 : Int32)
          · replace hf := ifp c5 hf
            refine r_tab (tgt := 42) C dX0_narrowed_1 (4 : Int32) c5 (by decide) rfl rfl ?_
            refine lv_iload_n hx hb dX0_narrowed_42 rfl (lv_at hl 1 rfl) ?_
            refine lv_if_eq (tgt := 50) hx hb dX0_narrowed_43 rfl (fun c6 => ?_) (fun c6 => ?_)
            · replace hf := ifp c6 hf
              refine lv_iconst (v := (0 : Int32)) hx hb dX0_narrowed_50 rfl ?_
              cases hf
              exact r_iret C h hr hlk rfl dX0_narrowed_51
            · replace hf := ifn c6 hf
              refine lv_iconst (v := (1 : Int32)) hx hb dX0_narrowed_46 rfl ?_
              refine lv_goto (tgt := 51) hx hb dX0_narrowed_47 rfl ?_
              cases hf
              exact r_iret C h hr hlk rfl dX0_narrowed_51
          · replace hf := ifn c5 hf
            refine r_tabD (tgt := 52) C dX0_narrowed_1 [(0 : Int32), (1 : Int32), (2 : Int32), (3 : Int32), (4 : Int32)] (by decide) (nel_c c1 (nel_c c2 (nel_c c3 (nel_c c4 (nel_c c5 nel_0))))) rfl ?_
            refine lv_iload_n hx hb dX0_narrowed_52 rfl (lv_at hl 1 rfl) ?_
            cases hf
            exact r_iret C h hr hlk rfl dX0_narrowed_53
set_option maxRecDepth 100000 in
set_option maxHeartbeats 4000000 in
theorem c_X0_put {l : Launch} {G : Gt} {h_this h_this_sorts h_this_sizes h_this_items h_this_holds h_this_shelfShips h_this_shelfSorts h_this_shelfSizes : Nat} {p0 : Int32} {p1 : Int32} {p2 : Int32} {f_this_items : Nat → Int32} {f_this_sorts : Nat → Int32} {m_this_items : Nat → Int32} (hf : f_X0_put p0 p1 p2 f_this_items f_this_sorts = some m_this_items) : mFv l G yX0_put cX0_put 4 1 [.ref h_this, .int p0, .int p1, .int p2] [(h_this, ob 0 [.ref h_this_sorts, .ref h_this_sizes, .ref h_this_items, .ref h_this_holds, .ref h_this_shelfShips, .ref h_this_shelfSorts, .ref h_this_shelfSizes]), (h_this_items, ia G 160 f_this_items), (h_this_sorts, ia G 4 f_this_sorts)] [(h_this, ob 0 [.ref h_this_sorts, .ref h_this_sizes, .ref h_this_items, .ref h_this_holds, .ref h_this_shelfShips, .ref h_this_shelfSorts, .ref h_this_shelfSizes]), (h_this_items, ia G 160 m_this_items), (h_this_sorts, ia G 4 f_this_sorts)] := by
  refine mFv.of (by decide +kernel) (Nat.le_of_ble_eq_true rfl) ?_
  intro p e s m below meth c A C hr hlk h ls hl
  obtain ⟨hx, hb, hml, hown, hts⟩ := id C
  replace hl : lv_has ls 4 [(0, .ref h_this), (1, .int p0), (2, .int p1), (3, .int p2)] := hl
  unfold f_X0_put at hf
  refine lv_aload_n hx hb dX0_put_0 rfl (lv_at hl 0 rfl) ?_
  refine r_get C h fk_X0_18 0 rfl rfl dX0_put_1 ?_
  refine lv_iload_n hx hb dX0_put_4 rfl (lv_at hl 1 rfl) ?_
  refine lv_bipush (v := (40 : Int32)) hx hb dX0_put_5 rfl ?_
  refine lv_imul hx hb dX0_put_7 ?_
  refine lv_iload_n hx hb dX0_put_8 rfl (lv_at hl 2 rfl) ?_
  refine lv_iadd hx hb dX0_put_9 ?_
  refine lv_aload_n hx hb dX0_put_10 rfl (lv_at hl 0 rfl) ?_
  refine r_get C h fk_X0_9 0 rfl rfl dX0_put_11 ?_
  refine lv_iload_n hx hb dX0_put_14 rfl (lv_at hl 1 rfl) ?_
  replace hf := chkI_inv hf
  obtain ⟨hi1, hf⟩ := hf
  refine r_iald C h 2 rfl hi1 dX0_put_15 ?_
  refine lv_iload_n hx hb dX0_put_16 rfl (lv_at hl 3 rfl) ?_
  replace hf := bd1_inv hf
  obtain ⟨r2, hc3, hf⟩ := hf
  refine r_ciS0 C h (c_X0_narrowed hc3) ms_X0_46 rfl [] rfl rfl hl.1 rfl (Nat.le_of_ble_eq_true rfl) (rok (by decide)) dX0_put_17 (fun H locs h => ?_)
  replace hf := chkI_inv hf
  obtain ⟨hi4, hf⟩ := hf
  refine r_iast (ws' := [(h_this, ob 0 [.ref h_this_sorts, .ref h_this_sizes, .ref h_this_items, .ref h_this_holds, .ref h_this_shelfShips, .ref h_this_shelfSorts, .ref h_this_shelfSizes]), (h_this_items, ia G 160 (upd f_this_items ((p0 * (40 : Int32)) + p1).toNatClampNeg r2)), (h_this_sorts, ia G 4 f_this_sorts)]) C h 1 rfl hi4 dX0_put_20 rfl (fun H locs h => ?_)
  cases hf
  exact r_vret C h hr hlk dX0_put_21
set_option maxRecDepth 100000 in
set_option maxHeartbeats 4000000 in
theorem c_X8_write {l : Launch} {G : Gt} {h_this h_this_rock h_this_kept h_this_trial h_this_planner h_this_reader h_this_draft h_this_host h_this_thing h_this_tape h_this_rows h_this_host_sorts h_this_host_sizes h_this_host_items h_this_host_holds h_this_host_shelfShips h_this_host_shelfSorts h_this_host_shelfSizes : Nat} {p0 : Int32} {p1 : Int32} {p2 : Int32} {x_this_tapeCount : Int32} {x_this_rowCount : Int32} {x_this_isKept : Int32} {f_this_host_items : Nat → Int32} {f_this_host_sizes : Nat → Int32} {f_this_host_sorts : Nat → Int32} {r : Int32} {m_this_host_items : Nat → Int32} (hf : f_X8_write p0 p1 p2 f_this_host_items f_this_host_sizes f_this_host_sorts = some (r, m_this_host_items)) : mFi l G yX8_write cX8_write 4 .int 2 [.ref h_this, .int p0, .int p1, .int p2] [(h_this, ob 8 [.ref h_this_rock, .ref h_this_kept, .ref h_this_trial, .ref h_this_planner, .ref h_this_reader, .ref h_this_draft, .ref h_this_host, .ref h_this_thing, .ref h_this_tape, .ref h_this_rows, .int x_this_tapeCount, .int x_this_rowCount, .int x_this_isKept]), (h_this_host, ob 0 [.ref h_this_host_sorts, .ref h_this_host_sizes, .ref h_this_host_items, .ref h_this_host_holds, .ref h_this_host_shelfShips, .ref h_this_host_shelfSorts, .ref h_this_host_shelfSizes]), (h_this_host_items, ia G 160 f_this_host_items), (h_this_host_sizes, ia G 4 f_this_host_sizes), (h_this_host_sorts, ia G 4 f_this_host_sorts)] r [(h_this, ob 8 [.ref h_this_rock, .ref h_this_kept, .ref h_this_trial, .ref h_this_planner, .ref h_this_reader, .ref h_this_draft, .ref h_this_host, .ref h_this_thing, .ref h_this_tape, .ref h_this_rows, .int x_this_tapeCount, .int x_this_rowCount, .int x_this_isKept]), (h_this_host, ob 0 [.ref h_this_host_sorts, .ref h_this_host_sizes, .ref h_this_host_items, .ref h_this_host_holds, .ref h_this_host_shelfShips, .ref h_this_host_shelfSorts, .ref h_this_host_shelfSizes]), (h_this_host_items, ia G 160 m_this_host_items), (h_this_host_sizes, ia G 4 f_this_host_sizes), (h_this_host_sorts, ia G 4 f_this_host_sorts)] := by
  refine mFi.of (by decide +kernel) (Nat.le_of_ble_eq_true rfl) ?_
  intro p e s m below meth c A C hr hlk h ls hl
  obtain ⟨hx, hb, hml, hown, hts⟩ := id C
  replace hl : lv_has ls 4 [(0, .ref h_this), (1, .int p0), (2, .int p1), (3, .int p2)] := hl
  unfold f_X8_write at hf
  refine lv_iload_n hx hb dX8_write_0 rfl (lv_at hl 1 rfl) ?_
  replace hf := bd1_inv hf
  obtain ⟨r1, hc2, hf⟩ := hf
  refine r_ciS0 C h (c_X0_hasSheet hc2) ms_X8_297 rfl [] rfl rfl hl.1 rfl (Nat.le_of_ble_eq_true rfl) (rok (by decide)) dX8_write_1 (fun H locs h => ?_)
  refine lv_if_ne (tgt := 9) hx hb dX8_write_4 rfl (fun c3 => ?_) (fun c3 => ?_)
  · replace hf := ifn c3 hf
    refine lv_aload_n hx hb dX8_write_9 rfl (lv_at hl 0 rfl) ?_
    refine r_get C h fk_X8_50 0 rfl rfl dX8_write_10 ?_
    refine lv_iload_n hx hb dX8_write_13 rfl (lv_at hl 1 rfl) ?_
    replace hf := bd1_inv hf
    obtain ⟨r4, hc5, hf⟩ := hf
    refine r_ciV0 C h (c_X0_isMissing hc5) mv_X8_304 rfl 1 rfl [1, 4] rfl rfl hl.1 rfl (Nat.le_of_ble_eq_true rfl) (rok (by decide)) dX8_write_14 (fun H locs h => ?_)
    refine lv_if_eq (tgt := 23) hx hb dX8_write_17 rfl (fun c6 => ?_) (fun c6 => ?_)
    · replace hf := ifp c6 hf
      refine lv_aload_n hx hb dX8_write_23 rfl (lv_at hl 0 rfl) ?_
      refine r_get C h fk_X8_50 0 rfl rfl dX8_write_24 ?_
      refine lv_iload_n hx hb dX8_write_27 rfl (lv_at hl 1 rfl) ?_
      refine lv_iload_n hx hb dX8_write_28 rfl (lv_at hl 2 rfl) ?_
      replace hf := bd1_inv hf
      obtain ⟨r7, hc8, hf⟩ := hf
      refine r_ciV0 C h (c_X0_hasItem hc8) mv_X8_307 rfl 1 rfl [1, 3] rfl rfl hl.1 rfl (Nat.le_of_ble_eq_true rfl) (rok (by decide)) dX8_write_29 (fun H locs h => ?_)
      refine lv_if_ne (tgt := 38) hx hb dX8_write_32 rfl (fun c9 => ?_) (fun c9 => ?_)
      · replace hf := ifn c9 hf
        refine lv_aload_n hx hb dX8_write_38 rfl (lv_at hl 0 rfl) ?_
        refine r_get C h fk_X8_50 0 rfl rfl dX8_write_39 ?_
        refine lv_iload_n hx hb dX8_write_42 rfl (lv_at hl 1 rfl) ?_
        refine lv_iload_n hx hb dX8_write_43 rfl (lv_at hl 2 rfl) ?_
        refine lv_iload_n hx hb dX8_write_44 rfl (lv_at hl 3 rfl) ?_
        replace hf := bd1_inv hf
        obtain ⟨g10, hc11, hf⟩ := hf
        refine r_cvV (ws' := [(h_this, ob 8 [.ref h_this_rock, .ref h_this_kept, .ref h_this_trial, .ref h_this_planner, .ref h_this_reader, .ref h_this_draft, .ref h_this_host, .ref h_this_thing, .ref h_this_tape, .ref h_this_rows, .int x_this_tapeCount, .int x_this_rowCount, .int x_this_isKept]), (h_this_host, ob 0 [.ref h_this_host_sorts, .ref h_this_host_sizes, .ref h_this_host_items, .ref h_this_host_holds, .ref h_this_host_shelfShips, .ref h_this_host_shelfSorts, .ref h_this_host_shelfSizes]), (h_this_host_items, ia G 160 g10), (h_this_host_sizes, ia G 4 f_this_host_sizes), (h_this_host_sorts, ia G 4 f_this_host_sorts)]) C h (c_X0_put hc11) mv_X8_310 rfl 1 rfl [1, 2, 4] rfl rfl [2] [(h_this_host_items, ia G 160 g10)] rfl rfl (by decide +kernel) rfl hl.1 rfl (Nat.le_of_ble_eq_true rfl) (rok (by decide)) dX8_write_45 (fun H locs h => ?_)
        refine lv_iconst (v := (1 : Int32)) hx hb dX8_write_48 rfl ?_
        cases hf
        exact r_iret C h hr hlk rfl dX8_write_49
      · replace hf := ifp c9 hf
        refine lv_bipush (v := (-12 : Int32)) hx hb dX8_write_35 rfl ?_
        cases hf
        exact r_iret C h hr hlk rfl dX8_write_37
    · replace hf := ifn c6 hf
      refine lv_bipush (v := (-11 : Int32)) hx hb dX8_write_20 rfl ?_
      cases hf
      exact r_iret C h hr hlk rfl dX8_write_22
  · replace hf := ifp c3 hf
    refine lv_iconst (v := (-1 : Int32)) hx hb dX8_write_7 rfl ?_
    cases hf
    exact r_iret C h hr hlk rfl dX8_write_8
set_option maxRecDepth 100000 in
set_option maxHeartbeats 4000000 in
theorem c_X0_refusalOf {l : Launch} {G : Gt} {h_this h_this_sorts h_this_sizes h_this_items h_this_holds h_this_shelfShips h_this_shelfSorts h_this_shelfSizes : Nat} {p0 : Int32} {p1 : Int32} {f_this_sorts : Nat → Int32} {r : Int32} (hf : f_X0_refusalOf p0 p1 f_this_sorts = some r) : mFi l G yX0_refusalOf cX0_refusalOf 3 .int 1 [.ref h_this, .int p0, .int p1] [(h_this, ob 0 [.ref h_this_sorts, .ref h_this_sizes, .ref h_this_items, .ref h_this_holds, .ref h_this_shelfShips, .ref h_this_shelfSorts, .ref h_this_shelfSizes]), (h_this_sorts, ia G 4 f_this_sorts)] r [(h_this, ob 0 [.ref h_this_sorts, .ref h_this_sizes, .ref h_this_items, .ref h_this_holds, .ref h_this_shelfShips, .ref h_this_shelfSorts, .ref h_this_shelfSizes]), (h_this_sorts, ia G 4 f_this_sorts)] := by
  refine mFi.of (by decide +kernel) (Nat.le_of_ble_eq_true rfl) ?_
  intro p e s m below meth c A C hr hlk h ls hl
  obtain ⟨hx, hb, hml, hown, hts⟩ := id C
  replace hl : lv_has ls 3 [(0, .ref h_this), (1, .int p0), (2, .int p1)] := hl
  unfold f_X0_refusalOf at hf
  refine lv_aload_n hx hb dX0_refusalOf_0 rfl (lv_at hl 0 rfl) ?_
  refine lv_iload_n hx hb dX0_refusalOf_1 rfl (lv_at hl 1 rfl) ?_
  replace hf := bd1_inv hf
  obtain ⟨r1, hc2, hf⟩ := hf
  refine r_ciV0 C h (c_X0_isMissing hc2) mv_X0_39 rfl 0 rfl [0, 1] rfl rfl hl.1 rfl (Nat.le_of_ble_eq_true rfl) (rok (by decide)) dX0_refusalOf_2 (fun H locs h => ?_)
  refine lv_if_eq (tgt := 11) hx hb dX0_refusalOf_5 rfl (fun c3 => ?_) (fun c3 => ?_)
  · replace hf := ifp c3 hf
    refine lv_aload_n hx hb dX0_refusalOf_11 rfl (lv_at hl 0 rfl) ?_
    refine r_get C h fk_X0_9 0 rfl rfl dX0_refusalOf_12 ?_
    refine lv_iload_n hx hb dX0_refusalOf_15 rfl (lv_at hl 1 rfl) ?_
    replace hf := chkI_inv hf
    obtain ⟨hi4, hf⟩ := hf
    refine r_iald C h 1 rfl hi4 dX0_refusalOf_16 ?_
    refine lv_iload_n hx hb dX0_refusalOf_17 rfl (lv_at hl 2 rfl) ?_
    refine lv_icmp_ne (tgt := 25) hx hb dX0_refusalOf_18 rfl (fun c5 => ?_) (fun c5 => ?_)
    · replace hf := ifn c5 hf
      refine lv_bipush (v := (-13 : Int32)) hx hb dX0_refusalOf_25 rfl ?_
      cases hf
      exact r_iret C h hr hlk rfl dX0_refusalOf_27
    · replace hf := ifp c5 hf
      refine lv_iconst (v := (0 : Int32)) hx hb dX0_refusalOf_21 rfl ?_
      refine lv_goto (tgt := 27) hx hb dX0_refusalOf_22 rfl ?_
      cases hf
      exact r_iret C h hr hlk rfl dX0_refusalOf_27
  · replace hf := ifn c3 hf
    refine lv_bipush (v := (-11 : Int32)) hx hb dX0_refusalOf_8 rfl ?_
    cases hf
    exact r_iret C h hr hlk rfl dX0_refusalOf_10
set_option maxRecDepth 100000 in
set_option maxHeartbeats 4000000 in
theorem c_X0_get {l : Launch} {G : Gt} {h_this h_this_sorts h_this_sizes h_this_items h_this_holds h_this_shelfShips h_this_shelfSorts h_this_shelfSizes : Nat} {p0 : Int32} {p1 : Int32} {f_this_items : Nat → Int32} {r : Int32} (hf : f_X0_get p0 p1 f_this_items = some r) : mFi l G yX0_get cX0_get 3 .int 0 [.ref h_this, .int p0, .int p1] [(h_this, ob 0 [.ref h_this_sorts, .ref h_this_sizes, .ref h_this_items, .ref h_this_holds, .ref h_this_shelfShips, .ref h_this_shelfSorts, .ref h_this_shelfSizes]), (h_this_items, ia G 160 f_this_items)] r [(h_this, ob 0 [.ref h_this_sorts, .ref h_this_sizes, .ref h_this_items, .ref h_this_holds, .ref h_this_shelfShips, .ref h_this_shelfSorts, .ref h_this_shelfSizes]), (h_this_items, ia G 160 f_this_items)] := by
  refine mFi.of (by decide +kernel) (Nat.le_of_ble_eq_true rfl) ?_
  intro p e s m below meth c A C hr hlk h ls hl
  obtain ⟨hx, hb, hml, hown, hts⟩ := id C
  replace hl : lv_has ls 3 [(0, .ref h_this), (1, .int p0), (2, .int p1)] := hl
  unfold f_X0_get at hf
  refine lv_aload_n hx hb dX0_get_0 rfl (lv_at hl 0 rfl) ?_
  refine r_get C h fk_X0_18 0 rfl rfl dX0_get_1 ?_
  refine lv_iload_n hx hb dX0_get_4 rfl (lv_at hl 1 rfl) ?_
  refine lv_bipush (v := (40 : Int32)) hx hb dX0_get_5 rfl ?_
  refine lv_imul hx hb dX0_get_7 ?_
  refine lv_iload_n hx hb dX0_get_8 rfl (lv_at hl 2 rfl) ?_
  refine lv_iadd hx hb dX0_get_9 ?_
  replace hf := chkI_inv hf
  obtain ⟨hi1, hf⟩ := hf
  refine r_iald C h 1 rfl hi1 dX0_get_10 ?_
  cases hf
  exact r_iret C h hr hlk rfl dX0_get_11
set_option maxRecDepth 100000 in
set_option maxHeartbeats 4000000 in
theorem c_X8_item {l : Launch} {G : Gt} {h_this h_this_rock h_this_kept h_this_trial h_this_planner h_this_reader h_this_draft h_this_host h_this_thing h_this_tape h_this_rows h_this_host_sorts h_this_host_sizes h_this_host_items h_this_host_holds h_this_host_shelfShips h_this_host_shelfSorts h_this_host_shelfSizes : Nat} {p0 : Int32} {p1 : Int32} {p2 : Int32} {x_this_tapeCount : Int32} {x_this_rowCount : Int32} {x_this_isKept : Int32} {f_this_host_items : Nat → Int32} {f_this_host_sizes : Nat → Int32} {f_this_host_sorts : Nat → Int32} {r : Int32} (hf : f_X8_item p0 p1 p2 f_this_host_items f_this_host_sizes f_this_host_sorts = some r) : mFi l G yX8_item cX8_item 5 .int 2 [.ref h_this, .int p0, .int p1, .int p2] [(h_this, ob 8 [.ref h_this_rock, .ref h_this_kept, .ref h_this_trial, .ref h_this_planner, .ref h_this_reader, .ref h_this_draft, .ref h_this_host, .ref h_this_thing, .ref h_this_tape, .ref h_this_rows, .int x_this_tapeCount, .int x_this_rowCount, .int x_this_isKept]), (h_this_host, ob 0 [.ref h_this_host_sorts, .ref h_this_host_sizes, .ref h_this_host_items, .ref h_this_host_holds, .ref h_this_host_shelfShips, .ref h_this_host_shelfSorts, .ref h_this_host_shelfSizes]), (h_this_host_items, ia G 160 f_this_host_items), (h_this_host_sizes, ia G 4 f_this_host_sizes), (h_this_host_sorts, ia G 4 f_this_host_sorts)] r [(h_this, ob 8 [.ref h_this_rock, .ref h_this_kept, .ref h_this_trial, .ref h_this_planner, .ref h_this_reader, .ref h_this_draft, .ref h_this_host, .ref h_this_thing, .ref h_this_tape, .ref h_this_rows, .int x_this_tapeCount, .int x_this_rowCount, .int x_this_isKept]), (h_this_host, ob 0 [.ref h_this_host_sorts, .ref h_this_host_sizes, .ref h_this_host_items, .ref h_this_host_holds, .ref h_this_host_shelfShips, .ref h_this_host_shelfSorts, .ref h_this_host_shelfSizes]), (h_this_host_items, ia G 160 f_this_host_items), (h_this_host_sizes, ia G 4 f_this_host_sizes), (h_this_host_sorts, ia G 4 f_this_host_sorts)] := by
  refine mFi.of (by decide +kernel) (Nat.le_of_ble_eq_true rfl) ?_
  intro p e s m below meth c A C hr hlk h ls hl
  obtain ⟨hx, hb, hml, hown, hts⟩ := id C
  replace hl : lv_has ls 5 [(0, .ref h_this), (1, .int p0), (2, .int p1), (3, .int p2)] := hl
  unfold f_X8_item at hf
  refine lv_iload_n hx hb dX8_item_0 rfl (lv_at hl 1 rfl) ?_
  replace hf := bd1_inv hf
  obtain ⟨r1, hc2, hf⟩ := hf
  refine r_ciS0 C h (c_X0_hasSheet hc2) ms_X8_297 rfl [] rfl rfl hl.1 rfl (Nat.le_of_ble_eq_true rfl) (rok (by decide)) dX8_item_1 (fun H locs h => ?_)
  refine lv_if_eq (tgt := 16) hx hb dX8_item_4 rfl (fun c3 => ?_) (fun c3 => ?_)
  · replace hf := ifp c3 hf
    refine lv_iconst (v := (-1 : Int32)) hx hb dX8_item_16 rfl ?_
    cases hf
    exact r_iret C h hr hlk rfl dX8_item_17
  · replace hf := ifn c3 hf
    refine lv_iload_n hx hb dX8_item_7 rfl (lv_at hl 2 rfl) ?_
    refine lv_iconst (v := (0 : Int32)) hx hb dX8_item_8 rfl ?_
    refine lv_iconst (v := (4 : Int32)) hx hb dX8_item_9 rfl ?_
    replace hf := bd1_inv hf
    obtain ⟨r4, hc5, hf⟩ := hf
    refine r_ciS0 C h (c_X8_within hc5) ms_X8_79 rfl [] rfl rfl hl.1 rfl (Nat.le_of_ble_eq_true rfl) (rok (by decide)) dX8_item_10 (fun H locs h => ?_)
    refine lv_if_ne (tgt := 18) hx hb dX8_item_13 rfl (fun c6 => ?_) (fun c6 => ?_)
    · replace hf := ifn c6 hf
      refine lv_aload_n hx hb dX8_item_18 rfl (lv_at hl 0 rfl) ?_
      refine r_get C h fk_X8_50 0 rfl rfl dX8_item_19 ?_
      refine lv_iload_n hx hb dX8_item_22 rfl (lv_at hl 1 rfl) ?_
      refine lv_iload_n hx hb dX8_item_23 rfl (lv_at hl 2 rfl) ?_
      replace hf := bd1_inv hf
      obtain ⟨r7, hc8, hf⟩ := hf
      refine r_ciV0 C h (c_X0_refusalOf hc8) mv_X8_312 rfl 1 rfl [1, 4] rfl rfl hl.1 rfl (Nat.le_of_ble_eq_true rfl) (rok (by decide)) dX8_item_24 (fun H locs h => ?_)
      refine lv_istore (lv' := [(4, .int r7), (0, .ref h_this), (1, .int p0), (2, .int p1), (3, .int p2)]) hx hb dX8_item_27 hl (by decide) rfl (fun ls hl => ?_)
      refine lv_iload hx hb dX8_item_29 (lv_at hl 0 rfl) ?_
      refine lv_if_eq (tgt := 37) hx hb dX8_item_31 rfl (fun c9 => ?_) (fun c9 => ?_)
      · replace hf := ifp c9 hf
        refine lv_aload_n hx hb dX8_item_37 rfl (lv_at hl 1 rfl) ?_
        refine r_get C h fk_X8_50 0 rfl rfl dX8_item_38 ?_
        refine lv_iload_n hx hb dX8_item_41 rfl (lv_at hl 2 rfl) ?_
        refine lv_iload_n hx hb dX8_item_42 rfl (lv_at hl 4 rfl) ?_
        replace hf := bd1_inv hf
        obtain ⟨r10, hc11, hf⟩ := hf
        refine r_ciV0 C h (c_X0_hasItem hc11) mv_X8_307 rfl 1 rfl [1, 3] rfl rfl hl.1 rfl (Nat.le_of_ble_eq_true rfl) (rok (by decide)) dX8_item_43 (fun H locs h => ?_)
        refine lv_if_eq (tgt := 61) hx hb dX8_item_46 rfl (fun c12 => ?_) (fun c12 => ?_)
        · replace hf := ifp c12 hf
          refine lv_bipush (v := (-12 : Int32)) hx hb dX8_item_61 rfl ?_
          cases hf
          exact r_iret C h hr hlk rfl dX8_item_63
        · replace hf := ifn c12 hf
          refine lv_aload_n hx hb dX8_item_49 rfl (lv_at hl 1 rfl) ?_
          refine r_get C h fk_X8_50 0 rfl rfl dX8_item_50 ?_
          refine lv_iload_n hx hb dX8_item_53 rfl (lv_at hl 2 rfl) ?_
          refine lv_iload_n hx hb dX8_item_54 rfl (lv_at hl 4 rfl) ?_
          replace hf := bd1_inv hf
          obtain ⟨r13, hc14, hf⟩ := hf
          refine r_ciV0 C h (c_X0_get hc14) mv_X8_315 rfl 1 rfl [1, 2] rfl rfl hl.1 rfl (Nat.le_of_ble_eq_true rfl) (rok (by decide)) dX8_item_55 (fun H locs h => ?_)
          refine lv_goto (tgt := 63) hx hb dX8_item_58 rfl ?_
          cases hf
          exact r_iret C h hr hlk rfl dX8_item_63
      · replace hf := ifn c9 hf
        refine lv_iload hx hb dX8_item_34 (lv_at hl 0 rfl) ?_
        cases hf
        exact r_iret C h hr hlk rfl dX8_item_36
    · replace hf := ifp c6 hf
      refine lv_iconst (v := (-1 : Int32)) hx hb dX8_item_16 rfl ?_
      cases hf
      exact r_iret C h hr hlk rfl dX8_item_17
set_option maxRecDepth 100000 in
set_option maxHeartbeats 4000000 in
theorem c_X8_goAll {l : Launch} {G : Gt} {h_this h_this_rock h_this_kept h_this_trial h_this_planner h_this_reader h_this_draft h_this_host h_this_thing h_this_tape h_this_rows h_this_host_sorts h_this_host_sizes h_this_host_items h_this_host_holds h_this_host_shelfShips h_this_host_shelfSorts h_this_host_shelfSizes h_this_rock_kinds h_this_rock_trims h_this_rock_lanes h_this_rock_lights h_this_rock_currents h_this_rock_buoys h_this_rock_now h_this_rock_rules h_this_rock_reports h_this_rock_now_off h_this_rock_rules_kinds h_this_rock_rules_deeds h_this_rock_rules_begins h_this_rock_rules_steps h_this_rock_rules_lefts h_this_rock_rules_rights h_this_rock_rules_facts : Nat} {p0 : Int32} {p1 : Int32} {p2 : Int32} {x_this_tapeCount : Int32} {x_this_rowCount : Int32} {x_this_isKept : Int32} {f_this_host_items : Nat → Int32} {f_this_host_sizes : Nat → Int32} {f_this_host_sorts : Nat → Int32} {x_this_rock_count : Int32} {x_this_rock_end : Int32} {x_this_rock_z : Int32} {f_this_rock_buoys : Nat → Int32} {f_this_rock_currents : Nat → Int32} {f_this_rock_kinds : Nat → Int32} {f_this_rock_lanes : Nat → Int32} {f_this_rock_lights : Nat → Int32} {x_this_rock_now_watch : Int32} {x_this_rock_now_score : Int32} {x_this_rock_now_home : Int32} {f_this_rock_now_off : Nat → Int32} {x_this_rock_rules_count : Int32} {x_this_rock_rules_size : Int32} {f_this_rock_rules_begins : Nat → Int32} {f_this_rock_rules_deeds : Nat → Int32} {f_this_rock_rules_facts : Nat → Int32} {f_this_rock_rules_kinds : Nat → Int32} {f_this_rock_rules_lefts : Nat → Int32} {f_this_rock_rules_rights : Nat → Int32} {f_this_rock_rules_steps : Nat → Int32} {f_this_rock_trims : Nat → Int32} {r : Int32} {m_this_rock_now_watch : Int32} {m_this_rock_now_score : Int32} {m_this_rock_now_home : Int32} {m_this_rock_now_off : Nat → Int32} {m_this_rock_rules_facts : Nat → Int32} (hf : f_X8_goAll p0 p1 p2 f_this_host_items f_this_host_sizes f_this_host_sorts x_this_rock_count x_this_rock_end f_this_rock_buoys f_this_rock_currents f_this_rock_kinds f_this_rock_lanes f_this_rock_lights x_this_rock_now_watch x_this_rock_now_score x_this_rock_now_home f_this_rock_now_off x_this_rock_rules_count f_this_rock_rules_begins f_this_rock_rules_deeds f_this_rock_rules_facts f_this_rock_rules_kinds f_this_rock_rules_lefts f_this_rock_rules_rights f_this_rock_rules_steps f_this_rock_trims = some (r, m_this_rock_now_watch, m_this_rock_now_score, m_this_rock_now_home, m_this_rock_now_off, m_this_rock_rules_facts)) : mFi l G yX8_goAll cX8_goAll 8 .int 5 [.ref h_this, .int p0, .int p1, .int p2] [(h_this, ob 8 [.ref h_this_rock, .ref h_this_kept, .ref h_this_trial, .ref h_this_planner, .ref h_this_reader, .ref h_this_draft, .ref h_this_host, .ref h_this_thing, .ref h_this_tape, .ref h_this_rows, .int x_this_tapeCount, .int x_this_rowCount, .int x_this_isKept]), (h_this_host, ob 0 [.ref h_this_host_sorts, .ref h_this_host_sizes, .ref h_this_host_items, .ref h_this_host_holds, .ref h_this_host_shelfShips, .ref h_this_host_shelfSorts, .ref h_this_host_shelfSizes]), (h_this_host_items, ia G 160 f_this_host_items), (h_this_host_sizes, ia G 4 f_this_host_sizes), (h_this_host_sorts, ia G 4 f_this_host_sorts), (h_this_rock, ob 3 [.ref h_this_rock_kinds, .ref h_this_rock_trims, .ref h_this_rock_lanes, .ref h_this_rock_lights, .ref h_this_rock_currents, .ref h_this_rock_buoys, .ref h_this_rock_now, .ref h_this_rock_rules, .ref h_this_rock_reports, .int x_this_rock_count, .int x_this_rock_end, .int x_this_rock_z]), (h_this_rock_buoys, ia G 6 f_this_rock_buoys), (h_this_rock_currents, ia G 6 f_this_rock_currents), (h_this_rock_kinds, ia G 6 f_this_rock_kinds), (h_this_rock_lanes, ia G 6 f_this_rock_lanes), (h_this_rock_lights, ia G 16 f_this_rock_lights), (h_this_rock_now, ob 6 [.ref h_this_rock_now_off, .int x_this_rock_now_watch, .int x_this_rock_now_score, .int x_this_rock_now_home]), (h_this_rock_now_off, ia G 6 f_this_rock_now_off), (h_this_rock_rules, ob 5 [.ref h_this_rock_rules_kinds, .ref h_this_rock_rules_deeds, .ref h_this_rock_rules_begins, .ref h_this_rock_rules_steps, .ref h_this_rock_rules_lefts, .ref h_this_rock_rules_rights, .ref h_this_rock_rules_facts, .int x_this_rock_rules_count, .int x_this_rock_rules_size]), (h_this_rock_rules_begins, ia G 9 f_this_rock_rules_begins), (h_this_rock_rules_deeds, ia G 8 f_this_rock_rules_deeds), (h_this_rock_rules_facts, ia G 5 f_this_rock_rules_facts), (h_this_rock_rules_kinds, ia G 8 f_this_rock_rules_kinds), (h_this_rock_rules_lefts, ia G 200 f_this_rock_rules_lefts), (h_this_rock_rules_rights, ia G 200 f_this_rock_rules_rights), (h_this_rock_rules_steps, ia G 200 f_this_rock_rules_steps), (h_this_rock_trims, ia G 6 f_this_rock_trims)] r [(h_this, ob 8 [.ref h_this_rock, .ref h_this_kept, .ref h_this_trial, .ref h_this_planner, .ref h_this_reader, .ref h_this_draft, .ref h_this_host, .ref h_this_thing, .ref h_this_tape, .ref h_this_rows, .int x_this_tapeCount, .int x_this_rowCount, .int x_this_isKept]), (h_this_host, ob 0 [.ref h_this_host_sorts, .ref h_this_host_sizes, .ref h_this_host_items, .ref h_this_host_holds, .ref h_this_host_shelfShips, .ref h_this_host_shelfSorts, .ref h_this_host_shelfSizes]), (h_this_host_items, ia G 160 f_this_host_items), (h_this_host_sizes, ia G 4 f_this_host_sizes), (h_this_host_sorts, ia G 4 f_this_host_sorts), (h_this_rock, ob 3 [.ref h_this_rock_kinds, .ref h_this_rock_trims, .ref h_this_rock_lanes, .ref h_this_rock_lights, .ref h_this_rock_currents, .ref h_this_rock_buoys, .ref h_this_rock_now, .ref h_this_rock_rules, .ref h_this_rock_reports, .int x_this_rock_count, .int x_this_rock_end, .int x_this_rock_z]), (h_this_rock_buoys, ia G 6 f_this_rock_buoys), (h_this_rock_currents, ia G 6 f_this_rock_currents), (h_this_rock_kinds, ia G 6 f_this_rock_kinds), (h_this_rock_lanes, ia G 6 f_this_rock_lanes), (h_this_rock_lights, ia G 16 f_this_rock_lights), (h_this_rock_now, ob 6 [.ref h_this_rock_now_off, .int m_this_rock_now_watch, .int m_this_rock_now_score, .int m_this_rock_now_home]), (h_this_rock_now_off, ia G 6 m_this_rock_now_off), (h_this_rock_rules, ob 5 [.ref h_this_rock_rules_kinds, .ref h_this_rock_rules_deeds, .ref h_this_rock_rules_begins, .ref h_this_rock_rules_steps, .ref h_this_rock_rules_lefts, .ref h_this_rock_rules_rights, .ref h_this_rock_rules_facts, .int x_this_rock_rules_count, .int x_this_rock_rules_size]), (h_this_rock_rules_begins, ia G 9 f_this_rock_rules_begins), (h_this_rock_rules_deeds, ia G 8 f_this_rock_rules_deeds), (h_this_rock_rules_facts, ia G 5 m_this_rock_rules_facts), (h_this_rock_rules_kinds, ia G 8 f_this_rock_rules_kinds), (h_this_rock_rules_lefts, ia G 200 f_this_rock_rules_lefts), (h_this_rock_rules_rights, ia G 200 f_this_rock_rules_rights), (h_this_rock_rules_steps, ia G 200 f_this_rock_rules_steps), (h_this_rock_trims, ia G 6 f_this_rock_trims)] := by
  refine mFi.of (by decide +kernel) (Nat.le_of_ble_eq_true rfl) ?_
  intro p e s m below meth c A C hr hlk h ls hl
  obtain ⟨hx, hb, hml, hown, hts⟩ := id C
  replace hl : lv_has ls 8 [(0, .ref h_this), (1, .int p0), (2, .int p1), (3, .int p2)] := hl
  unfold f_X8_goAll at hf
  refine with_K G A 8 (fun K hK1 hK2 => ?_)
  have L44 : ∀ (n : Nat) (v5 : Int32) (v6 : Int32) (y_this_rock_now_watch : Int32) (y_this_rock_now_score : Int32) (y_this_rock_now_home : Int32) (g_this_rock_now_off : Nat → Int32) (g_this_rock_rules_facts : Nat → Int32), f_X8_goAll_L44 p0 p1 p2 f_this_host_items f_this_host_sizes x_this_rock_count x_this_rock_end f_this_rock_buoys f_this_rock_currents f_this_rock_kinds f_this_rock_lanes f_this_rock_lights x_this_rock_rules_count f_this_rock_rules_begins f_this_rock_rules_deeds f_this_rock_rules_kinds f_this_rock_rules_lefts f_this_rock_rules_rights f_this_rock_rules_steps f_this_rock_trims n v5 v6 y_this_rock_now_watch y_this_rock_now_score y_this_rock_now_home g_this_rock_now_off g_this_rock_rules_facts = some (r, m_this_rock_now_watch, m_this_rock_now_score, m_this_rock_now_home, m_this_rock_now_off, m_this_rock_rules_facts) → K 44 ([] : List Value) [(h_this, ob 8 [.ref h_this_rock, .ref h_this_kept, .ref h_this_trial, .ref h_this_planner, .ref h_this_reader, .ref h_this_draft, .ref h_this_host, .ref h_this_thing, .ref h_this_tape, .ref h_this_rows, .int x_this_tapeCount, .int x_this_rowCount, .int x_this_isKept]), (h_this_host, ob 0 [.ref h_this_host_sorts, .ref h_this_host_sizes, .ref h_this_host_items, .ref h_this_host_holds, .ref h_this_host_shelfShips, .ref h_this_host_shelfSorts, .ref h_this_host_shelfSizes]), (h_this_host_items, ia G 160 f_this_host_items), (h_this_host_sizes, ia G 4 f_this_host_sizes), (h_this_host_sorts, ia G 4 f_this_host_sorts), (h_this_rock, ob 3 [.ref h_this_rock_kinds, .ref h_this_rock_trims, .ref h_this_rock_lanes, .ref h_this_rock_lights, .ref h_this_rock_currents, .ref h_this_rock_buoys, .ref h_this_rock_now, .ref h_this_rock_rules, .ref h_this_rock_reports, .int x_this_rock_count, .int x_this_rock_end, .int x_this_rock_z]), (h_this_rock_buoys, ia G 6 f_this_rock_buoys), (h_this_rock_currents, ia G 6 f_this_rock_currents), (h_this_rock_kinds, ia G 6 f_this_rock_kinds), (h_this_rock_lanes, ia G 6 f_this_rock_lanes), (h_this_rock_lights, ia G 16 f_this_rock_lights), (h_this_rock_now, ob 6 [.ref h_this_rock_now_off, .int y_this_rock_now_watch, .int y_this_rock_now_score, .int y_this_rock_now_home]), (h_this_rock_now_off, ia G 6 g_this_rock_now_off), (h_this_rock_rules, ob 5 [.ref h_this_rock_rules_kinds, .ref h_this_rock_rules_deeds, .ref h_this_rock_rules_begins, .ref h_this_rock_rules_steps, .ref h_this_rock_rules_lefts, .ref h_this_rock_rules_rights, .ref h_this_rock_rules_facts, .int x_this_rock_rules_count, .int x_this_rock_rules_size]), (h_this_rock_rules_begins, ia G 9 f_this_rock_rules_begins), (h_this_rock_rules_deeds, ia G 8 f_this_rock_rules_deeds), (h_this_rock_rules_facts, ia G 5 g_this_rock_rules_facts), (h_this_rock_rules_kinds, ia G 8 f_this_rock_rules_kinds), (h_this_rock_rules_lefts, ia G 200 f_this_rock_rules_lefts), (h_this_rock_rules_rights, ia G 200 f_this_rock_rules_rights), (h_this_rock_rules_steps, ia G 200 f_this_rock_rules_steps), (h_this_rock_trims, ia G 6 f_this_rock_trims)] [(0, .ref h_this), (1, .int p0), (2, .int p1), (3, .int p2), (5, .int v5), (6, .int v6)] := by
    intro n
    induction n with
    | zero =>
      intro v5 v6 y_this_rock_now_watch y_this_rock_now_score y_this_rock_now_home g_this_rock_now_off g_this_rock_rules_facts hf
      replace hf : (none : Option _) = some _ := hf
      cases hf
    | succ n ih =>
      intro v5 v6 y_this_rock_now_watch y_this_rock_now_score y_this_rock_now_home g_this_rock_now_off g_this_rock_rules_facts hf
      rw [f_X8_goAll_L44] at hf
      refine hK1 _ _ _ _ (fun H locs ls h hl => ?_)
      refine lv_iload hx hb dX8_goAll_44 (lv_at hl 5 rfl) ?_
      refine lv_iload_n hx hb dX8_goAll_46 rfl (lv_at hl 3 rfl) ?_
      refine lv_icmp_ge (tgt := 138) hx hb dX8_goAll_47 rfl (fun c10 => ?_) (fun c10 => ?_)
      · replace hf := ifp c10 hf
        refine lv_iload hx hb dX8_goAll_138 (lv_at hl 4 rfl) ?_
        obtain ⟨rfl, rfl, rfl, rfl, rfl, rfl⟩ := sm6 hf
        exact r_iret C h hr hlk rfl dX8_goAll_140
      · replace hf := ifn c10 hf
        refine lv_aload_n hx hb dX8_goAll_50 rfl (lv_at hl 0 rfl) ?_
        refine r_get C h fk_X8_50 0 rfl rfl dX8_goAll_51 ?_
        refine lv_iload_n hx hb dX8_goAll_54 rfl (lv_at hl 1 rfl) ?_
        refine lv_iload_n hx hb dX8_goAll_55 rfl (lv_at hl 2 rfl) ?_
        refine lv_iload hx hb dX8_goAll_56 (lv_at hl 5 rfl) ?_
        refine lv_iadd hx hb dX8_goAll_58 ?_
        replace hf := bd1_inv hf
        obtain ⟨r11, hc12, hf⟩ := hf
        refine r_ciV0 C h (c_X0_hasItem hc12) mv_X8_307 rfl 1 rfl [1, 3] rfl rfl hl.1 rfl (Nat.le_of_ble_eq_true rfl) (rok (by decide)) dX8_goAll_59 (fun H locs h => ?_)
        refine lv_if_ne (tgt := 68) hx hb dX8_goAll_62 rfl (fun c13 => ?_) (fun c13 => ?_)
        · replace hf := ifn c13 hf
          refine lv_aload_n hx hb dX8_goAll_68 rfl (lv_at hl 0 rfl) ?_
          refine r_get C h fk_X8_50 0 rfl rfl dX8_goAll_69 ?_
          refine lv_iload_n hx hb dX8_goAll_72 rfl (lv_at hl 1 rfl) ?_
          refine lv_iload_n hx hb dX8_goAll_73 rfl (lv_at hl 2 rfl) ?_
          refine lv_iload hx hb dX8_goAll_74 (lv_at hl 5 rfl) ?_
          refine lv_iadd hx hb dX8_goAll_76 ?_
          replace hf := bd1_inv hf
          obtain ⟨r14, hc15, hf⟩ := hf
          refine r_ciV0 C h (c_X0_get hc15) mv_X8_315 rfl 1 rfl [1, 2] rfl rfl hl.1 rfl (Nat.le_of_ble_eq_true rfl) (rok (by decide)) dX8_goAll_77 (fun H locs h => ?_)
          refine lv_istore (lv' := [(7, .int r14), (0, .ref h_this), (1, .int p0), (2, .int p1), (3, .int p2), (5, .int v5), (6, .int v6)]) hx hb dX8_goAll_80 hl (by decide) rfl (fun ls hl => ?_)
          refine lv_aload_n hx hb dX8_goAll_82 rfl (lv_at hl 1 rfl) ?_
          refine r_get C h fk_X8_10 0 rfl rfl dX8_goAll_83 ?_
          refine lv_iload hx hb dX8_goAll_86 (lv_at hl 0 rfl) ?_
          replace hf := bd1_inv hf
          obtain ⟨r16, hc17, hf⟩ := hf
          refine r_ciV0 C h (c_X3_hasAct hc17) mv_X8_294 rfl 5 rfl [5] rfl rfl hl.1 rfl (Nat.le_of_ble_eq_true rfl) (rok (by decide)) dX8_goAll_88 (fun H locs h => ?_)
          refine lv_if_eq (tgt := 132) hx hb dX8_goAll_91 rfl (fun c18 => ?_) (fun c18 => ?_)
          · replace hf := ifp c18 hf
            obtain ⟨t19, et19⟩ : ∃ y : Int32, y = v6 + (1 : Int32) := ⟨_, rfl⟩
            replace hf := lt1_inv et19 hf
            refine lv_iinc (v := t19) (lv' := [(6, .int t19), (7, .int r14), (0, .ref h_this), (1, .int p0), (2, .int p1), (3, .int p2), (5, .int v5)]) hx hb dX8_goAll_132 hl (k := 6) rfl (by rw [et19]; rfl) (by decide) rfl (fun ls hl => ?_)
            refine lv_goto (tgt := 44) hx hb dX8_goAll_135 rfl ?_
            exact hK2 _ _ _ _ (ih v5 t19 y_this_rock_now_watch y_this_rock_now_score y_this_rock_now_home g_this_rock_now_off g_this_rock_rules_facts hf) _ _ _ h (lv_sub hl [2, 3, 4, 5, 6, 0] rfl)
          · replace hf := ifn c18 hf
            refine lv_aload_n hx hb dX8_goAll_94 rfl (lv_at hl 1 rfl) ?_
            refine r_get C h fk_X8_10 0 rfl rfl dX8_goAll_95 ?_
            refine lv_aload_n hx hb dX8_goAll_98 rfl (lv_at hl 1 rfl) ?_
            refine r_get C h fk_X8_10 0 rfl rfl dX8_goAll_99 ?_
            refine r_get C h fk_X8_94 5 rfl rfl dX8_goAll_102 ?_
            replace hf := bd1_inv hf
            obtain ⟨r20, hc21, hf⟩ := hf
            refine r_ciV0 C h (c_X3_isOver hc21) mv_X8_159 rfl 5 rfl [11, 5] rfl rfl hl.1 rfl (Nat.le_of_ble_eq_true rfl) (rok (by decide)) dX8_goAll_105 (fun H locs h => ?_)
            refine lv_if_ne (tgt := 132) hx hb dX8_goAll_108 rfl (fun c22 => ?_) (fun c22 => ?_)
            · replace hf := ifn c22 hf
              obtain ⟨t23, et23⟩ : ∃ y : Int32, y = v6 + (1 : Int32) := ⟨_, rfl⟩
              replace hf := lt1_inv et23 hf
              refine lv_iinc (v := t23) (lv' := [(6, .int t23), (7, .int r14), (0, .ref h_this), (1, .int p0), (2, .int p1), (3, .int p2), (5, .int v5)]) hx hb dX8_goAll_132 hl (k := 6) rfl (by rw [et23]; rfl) (by decide) rfl (fun ls hl => ?_)
              refine lv_goto (tgt := 44) hx hb dX8_goAll_135 rfl ?_
              exact hK2 _ _ _ _ (ih v5 t23 y_this_rock_now_watch y_this_rock_now_score y_this_rock_now_home g_this_rock_now_off g_this_rock_rules_facts hf) _ _ _ h (lv_sub hl [2, 3, 4, 5, 6, 0] rfl)
            · replace hf := ifp c22 hf
              refine lv_iload hx hb dX8_goAll_111 (lv_at hl 5 rfl) ?_
              refine lv_aload_n hx hb dX8_goAll_113 rfl (lv_at hl 1 rfl) ?_
              refine r_get C h fk_X8_10 0 rfl rfl dX8_goAll_114 ?_
              refine lv_aload_n hx hb dX8_goAll_117 rfl (lv_at hl 1 rfl) ?_
              refine r_get C h fk_X8_10 0 rfl rfl dX8_goAll_118 ?_
              refine r_get C h fk_X8_94 5 rfl rfl dX8_goAll_121 ?_
              refine lv_iload hx hb dX8_goAll_124 (lv_at hl 0 rfl) ?_
              replace hf := bd6_inv hf
              obtain ⟨r24, y25, y26, y27, g28, g29, hc30, hf⟩ := hf
              refine r_ciV (ws' := [(h_this, ob 8 [.ref h_this_rock, .ref h_this_kept, .ref h_this_trial, .ref h_this_planner, .ref h_this_reader, .ref h_this_draft, .ref h_this_host, .ref h_this_thing, .ref h_this_tape, .ref h_this_rows, .int x_this_tapeCount, .int x_this_rowCount, .int x_this_isKept]), (h_this_host, ob 0 [.ref h_this_host_sorts, .ref h_this_host_sizes, .ref h_this_host_items, .ref h_this_host_holds, .ref h_this_host_shelfShips, .ref h_this_host_shelfSorts, .ref h_this_host_shelfSizes]), (h_this_host_items, ia G 160 f_this_host_items), (h_this_host_sizes, ia G 4 f_this_host_sizes), (h_this_host_sorts, ia G 4 f_this_host_sorts), (h_this_rock, ob 3 [.ref h_this_rock_kinds, .ref h_this_rock_trims, .ref h_this_rock_lanes, .ref h_this_rock_lights, .ref h_this_rock_currents, .ref h_this_rock_buoys, .ref h_this_rock_now, .ref h_this_rock_rules, .ref h_this_rock_reports, .int x_this_rock_count, .int x_this_rock_end, .int x_this_rock_z]), (h_this_rock_buoys, ia G 6 f_this_rock_buoys), (h_this_rock_currents, ia G 6 f_this_rock_currents), (h_this_rock_kinds, ia G 6 f_this_rock_kinds), (h_this_rock_lanes, ia G 6 f_this_rock_lanes), (h_this_rock_lights, ia G 16 f_this_rock_lights), (h_this_rock_now, ob 6 [.ref h_this_rock_now_off, .int y25, .int y26, .int y27]), (h_this_rock_now_off, ia G 6 g28), (h_this_rock_rules, ob 5 [.ref h_this_rock_rules_kinds, .ref h_this_rock_rules_deeds, .ref h_this_rock_rules_begins, .ref h_this_rock_rules_steps, .ref h_this_rock_rules_lefts, .ref h_this_rock_rules_rights, .ref h_this_rock_rules_facts, .int x_this_rock_rules_count, .int x_this_rock_rules_size]), (h_this_rock_rules_begins, ia G 9 f_this_rock_rules_begins), (h_this_rock_rules_deeds, ia G 8 f_this_rock_rules_deeds), (h_this_rock_rules_facts, ia G 5 g29), (h_this_rock_rules_kinds, ia G 8 f_this_rock_rules_kinds), (h_this_rock_rules_lefts, ia G 200 f_this_rock_rules_lefts), (h_this_rock_rules_rights, ia G 200 f_this_rock_rules_rights), (h_this_rock_rules_steps, ia G 200 f_this_rock_rules_steps), (h_this_rock_trims, ia G 6 f_this_rock_trims)]) C h (c_X3_pass hc30) mv_X8_287 rfl 5 rfl [11, 12, 5, 6, 7, 8, 9, 10, 13, 14, 15, 16, 17, 18, 19, 20, 21] rfl rfl [11, 12, 16] [(h_this_rock_now, ob 6 [.ref h_this_rock_now_off, .int y25, .int y26, .int y27]), (h_this_rock_now_off, ia G 6 g28), (h_this_rock_rules_facts, ia G 5 g29)] rfl rfl (by decide +kernel) rfl hl.1 rfl (Nat.le_of_ble_eq_true rfl) (rok (by decide)) dX8_goAll_126 (fun H locs h => ?_)
              refine lv_iadd hx hb dX8_goAll_129 ?_
              refine lv_topi (fun t31 et31 => ?_)
              replace hf := lt1_inv et31 hf
              refine lv_istore (lv' := [(5, .int t31), (7, .int r14), (0, .ref h_this), (1, .int p0), (2, .int p1), (3, .int p2), (6, .int v6)]) hx hb dX8_goAll_130 hl (by decide) rfl (fun ls hl => ?_)
              obtain ⟨t32, et32⟩ : ∃ y : Int32, y = v6 + (1 : Int32) := ⟨_, rfl⟩
              replace hf := lt1_inv et32 hf
              refine lv_iinc (v := t32) (lv' := [(6, .int t32), (5, .int t31), (7, .int r14), (0, .ref h_this), (1, .int p0), (2, .int p1), (3, .int p2)]) hx hb dX8_goAll_132 hl (k := 6) rfl (by rw [et32]; rfl) (by decide) rfl (fun ls hl => ?_)
              refine lv_goto (tgt := 44) hx hb dX8_goAll_135 rfl ?_
              exact hK2 _ _ _ _ (ih t31 t32 y25 y26 y27 g28 g29 hf) _ _ _ h (lv_sub hl [3, 4, 5, 6, 1, 0] rfl)
        · replace hf := ifp c13 hf
          refine lv_bipush (v := (-12 : Int32)) hx hb dX8_goAll_65 rfl ?_
          obtain ⟨rfl, rfl, rfl, rfl, rfl, rfl⟩ := sm6 hf
          exact r_iret C h hr hlk rfl dX8_goAll_67
  refine lv_iload_n hx hb dX8_goAll_0 rfl (lv_at hl 1 rfl) ?_
  replace hf := bd1_inv hf
  obtain ⟨r1, hc2, hf⟩ := hf
  refine r_ciS0 C h (c_X0_hasSheet hc2) ms_X8_297 rfl [] rfl rfl hl.1 rfl (Nat.le_of_ble_eq_true rfl) (rok (by decide)) dX8_goAll_1 (fun H locs h => ?_)
  refine lv_if_eq (tgt := 17) hx hb dX8_goAll_4 rfl (fun c3 => ?_) (fun c3 => ?_)
  · replace hf := ifp c3 hf
    refine lv_iconst (v := (-1 : Int32)) hx hb dX8_goAll_17 rfl ?_
    obtain ⟨rfl, rfl, rfl, rfl, rfl, rfl⟩ := sm6 hf
    exact r_iret C h hr hlk rfl dX8_goAll_18
  · replace hf := ifn c3 hf
    refine lv_iload_n hx hb dX8_goAll_7 rfl (lv_at hl 3 rfl) ?_
    refine lv_iconst (v := (0 : Int32)) hx hb dX8_goAll_8 rfl ?_
    refine lv_bipush (v := (20 : Int32)) hx hb dX8_goAll_9 rfl ?_
    replace hf := bd1_inv hf
    obtain ⟨r4, hc5, hf⟩ := hf
    refine r_ciS0 C h (c_X8_within hc5) ms_X8_79 rfl [] rfl rfl hl.1 rfl (Nat.le_of_ble_eq_true rfl) (rok (by decide)) dX8_goAll_11 (fun H locs h => ?_)
    refine lv_if_ne (tgt := 19) hx hb dX8_goAll_14 rfl (fun c6 => ?_) (fun c6 => ?_)
    · replace hf := ifn c6 hf
      refine lv_aload_n hx hb dX8_goAll_19 rfl (lv_at hl 0 rfl) ?_
      refine r_get C h fk_X8_50 0 rfl rfl dX8_goAll_20 ?_
      refine lv_iload_n hx hb dX8_goAll_23 rfl (lv_at hl 1 rfl) ?_
      refine lv_iconst (v := (0 : Int32)) hx hb dX8_goAll_24 rfl ?_
      replace hf := bd1_inv hf
      obtain ⟨r7, hc8, hf⟩ := hf
      refine r_ciV0 C h (c_X0_refusalOf hc8) mv_X8_312 rfl 1 rfl [1, 4] rfl rfl hl.1 rfl (Nat.le_of_ble_eq_true rfl) (rok (by decide)) dX8_goAll_25 (fun H locs h => ?_)
      refine lv_istore (lv' := [(4, .int r7), (0, .ref h_this), (1, .int p0), (2, .int p1), (3, .int p2)]) hx hb dX8_goAll_28 hl (by decide) rfl (fun ls hl => ?_)
      refine lv_iload hx hb dX8_goAll_30 (lv_at hl 0 rfl) ?_
      refine lv_if_eq (tgt := 38) hx hb dX8_goAll_32 rfl (fun c9 => ?_) (fun c9 => ?_)
      · replace hf := ifp c9 hf
        refine lv_iconst (v := (0 : Int32)) hx hb dX8_goAll_38 rfl ?_
        refine lv_istore (lv' := [(5, .int (0 : Int32)), (4, .int r7), (0, .ref h_this), (1, .int p0), (2, .int p1), (3, .int p2)]) hx hb dX8_goAll_39 hl (by decide) rfl (fun ls hl => ?_)
        refine lv_iconst (v := (0 : Int32)) hx hb dX8_goAll_41 rfl ?_
        refine lv_istore (lv' := [(6, .int (0 : Int32)), (5, .int (0 : Int32)), (4, .int r7), (0, .ref h_this), (1, .int p0), (2, .int p1), (3, .int p2)]) hx hb dX8_goAll_42 hl (by decide) rfl (fun ls hl => ?_)
        exact hK2 _ _ _ _ (L44 1000 (0 : Int32) (0 : Int32) x_this_rock_now_watch x_this_rock_now_score x_this_rock_now_home f_this_rock_now_off f_this_rock_rules_facts hf) _ _ _ h (lv_sub hl [3, 4, 5, 6, 1, 0] rfl)
      · replace hf := ifn c9 hf
        refine lv_iload hx hb dX8_goAll_35 (lv_at hl 0 rfl) ?_
        obtain ⟨rfl, rfl, rfl, rfl, rfl, rfl⟩ := sm6 hf
        exact r_iret C h hr hlk rfl dX8_goAll_37
    · replace hf := ifp c6 hf
      refine lv_iconst (v := (-1 : Int32)) hx hb dX8_goAll_17 rfl ?_
      obtain ⟨rfl, rfl, rfl, rfl, rfl, rfl⟩ := sm6 hf
      exact r_iret C h hr hlk rfl dX8_goAll_18
set_option maxRecDepth 100000 in
set_option maxHeartbeats 4000000 in
theorem c_X8_wouldBe {l : Launch} {G : Gt} {h_this h_this_rock h_this_kept h_this_trial h_this_planner h_this_reader h_this_draft h_this_host h_this_thing h_this_tape h_this_rows h_this_host_sorts h_this_host_sizes h_this_host_items h_this_host_holds h_this_host_shelfShips h_this_host_shelfSorts h_this_host_shelfSizes h_this_rock_kinds h_this_rock_trims h_this_rock_lanes h_this_rock_lights h_this_rock_currents h_this_rock_buoys h_this_rock_now h_this_rock_rules h_this_rock_reports h_this_rock_now_off h_this_rock_rules_kinds h_this_rock_rules_deeds h_this_rock_rules_begins h_this_rock_rules_steps h_this_rock_rules_lefts h_this_rock_rules_rights h_this_rock_rules_facts h_this_trial_off : Nat} {p0 : Int32} {p1 : Int32} {p2 : Int32} {x_this_tapeCount : Int32} {x_this_rowCount : Int32} {x_this_isKept : Int32} {f_this_host_items : Nat → Int32} {f_this_host_sizes : Nat → Int32} {f_this_host_sorts : Nat → Int32} {x_this_rock_count : Int32} {x_this_rock_end : Int32} {x_this_rock_z : Int32} {f_this_rock_buoys : Nat → Int32} {f_this_rock_currents : Nat → Int32} {f_this_rock_kinds : Nat → Int32} {f_this_rock_lanes : Nat → Int32} {f_this_rock_lights : Nat → Int32} {x_this_rock_now_watch : Int32} {x_this_rock_now_score : Int32} {x_this_rock_now_home : Int32} {f_this_rock_now_off : Nat → Int32} {x_this_rock_rules_count : Int32} {x_this_rock_rules_size : Int32} {f_this_rock_rules_begins : Nat → Int32} {f_this_rock_rules_deeds : Nat → Int32} {f_this_rock_rules_facts : Nat → Int32} {f_this_rock_rules_kinds : Nat → Int32} {f_this_rock_rules_lefts : Nat → Int32} {f_this_rock_rules_rights : Nat → Int32} {f_this_rock_rules_steps : Nat → Int32} {f_this_rock_trims : Nat → Int32} {x_this_trial_watch : Int32} {x_this_trial_score : Int32} {x_this_trial_home : Int32} {f_this_trial_off : Nat → Int32} {r : Int32} {m_this_rock_rules_facts : Nat → Int32} {m_this_trial_watch : Int32} {m_this_trial_score : Int32} {m_this_trial_home : Int32} {m_this_trial_off : Nat → Int32} (hf : f_X8_wouldBe p0 p1 p2 f_this_host_items f_this_host_sizes f_this_host_sorts x_this_rock_count x_this_rock_end f_this_rock_buoys f_this_rock_currents f_this_rock_kinds f_this_rock_lanes f_this_rock_lights x_this_rock_now_watch x_this_rock_now_score x_this_rock_now_home f_this_rock_now_off x_this_rock_rules_count f_this_rock_rules_begins f_this_rock_rules_deeds f_this_rock_rules_facts f_this_rock_rules_kinds f_this_rock_rules_lefts f_this_rock_rules_rights f_this_rock_rules_steps f_this_rock_trims x_this_trial_watch x_this_trial_score x_this_trial_home f_this_trial_off = some (r, m_this_rock_rules_facts, m_this_trial_watch, m_this_trial_score, m_this_trial_home, m_this_trial_off)) : mFi l G yX8_wouldBe cX8_wouldBe 8 .int 5 [.ref h_this, .int p0, .int p1, .int p2] [(h_this, ob 8 [.ref h_this_rock, .ref h_this_kept, .ref h_this_trial, .ref h_this_planner, .ref h_this_reader, .ref h_this_draft, .ref h_this_host, .ref h_this_thing, .ref h_this_tape, .ref h_this_rows, .int x_this_tapeCount, .int x_this_rowCount, .int x_this_isKept]), (h_this_host, ob 0 [.ref h_this_host_sorts, .ref h_this_host_sizes, .ref h_this_host_items, .ref h_this_host_holds, .ref h_this_host_shelfShips, .ref h_this_host_shelfSorts, .ref h_this_host_shelfSizes]), (h_this_host_items, ia G 160 f_this_host_items), (h_this_host_sizes, ia G 4 f_this_host_sizes), (h_this_host_sorts, ia G 4 f_this_host_sorts), (h_this_rock, ob 3 [.ref h_this_rock_kinds, .ref h_this_rock_trims, .ref h_this_rock_lanes, .ref h_this_rock_lights, .ref h_this_rock_currents, .ref h_this_rock_buoys, .ref h_this_rock_now, .ref h_this_rock_rules, .ref h_this_rock_reports, .int x_this_rock_count, .int x_this_rock_end, .int x_this_rock_z]), (h_this_rock_buoys, ia G 6 f_this_rock_buoys), (h_this_rock_currents, ia G 6 f_this_rock_currents), (h_this_rock_kinds, ia G 6 f_this_rock_kinds), (h_this_rock_lanes, ia G 6 f_this_rock_lanes), (h_this_rock_lights, ia G 16 f_this_rock_lights), (h_this_rock_now, ob 6 [.ref h_this_rock_now_off, .int x_this_rock_now_watch, .int x_this_rock_now_score, .int x_this_rock_now_home]), (h_this_rock_now_off, ia G 6 f_this_rock_now_off), (h_this_rock_rules, ob 5 [.ref h_this_rock_rules_kinds, .ref h_this_rock_rules_deeds, .ref h_this_rock_rules_begins, .ref h_this_rock_rules_steps, .ref h_this_rock_rules_lefts, .ref h_this_rock_rules_rights, .ref h_this_rock_rules_facts, .int x_this_rock_rules_count, .int x_this_rock_rules_size]), (h_this_rock_rules_begins, ia G 9 f_this_rock_rules_begins), (h_this_rock_rules_deeds, ia G 8 f_this_rock_rules_deeds), (h_this_rock_rules_facts, ia G 5 f_this_rock_rules_facts), (h_this_rock_rules_kinds, ia G 8 f_this_rock_rules_kinds), (h_this_rock_rules_lefts, ia G 200 f_this_rock_rules_lefts), (h_this_rock_rules_rights, ia G 200 f_this_rock_rules_rights), (h_this_rock_rules_steps, ia G 200 f_this_rock_rules_steps), (h_this_rock_trims, ia G 6 f_this_rock_trims), (h_this_trial, ob 6 [.ref h_this_trial_off, .int x_this_trial_watch, .int x_this_trial_score, .int x_this_trial_home]), (h_this_trial_off, ia G 6 f_this_trial_off)] r [(h_this, ob 8 [.ref h_this_rock, .ref h_this_kept, .ref h_this_trial, .ref h_this_planner, .ref h_this_reader, .ref h_this_draft, .ref h_this_host, .ref h_this_thing, .ref h_this_tape, .ref h_this_rows, .int x_this_tapeCount, .int x_this_rowCount, .int x_this_isKept]), (h_this_host, ob 0 [.ref h_this_host_sorts, .ref h_this_host_sizes, .ref h_this_host_items, .ref h_this_host_holds, .ref h_this_host_shelfShips, .ref h_this_host_shelfSorts, .ref h_this_host_shelfSizes]), (h_this_host_items, ia G 160 f_this_host_items), (h_this_host_sizes, ia G 4 f_this_host_sizes), (h_this_host_sorts, ia G 4 f_this_host_sorts), (h_this_rock, ob 3 [.ref h_this_rock_kinds, .ref h_this_rock_trims, .ref h_this_rock_lanes, .ref h_this_rock_lights, .ref h_this_rock_currents, .ref h_this_rock_buoys, .ref h_this_rock_now, .ref h_this_rock_rules, .ref h_this_rock_reports, .int x_this_rock_count, .int x_this_rock_end, .int x_this_rock_z]), (h_this_rock_buoys, ia G 6 f_this_rock_buoys), (h_this_rock_currents, ia G 6 f_this_rock_currents), (h_this_rock_kinds, ia G 6 f_this_rock_kinds), (h_this_rock_lanes, ia G 6 f_this_rock_lanes), (h_this_rock_lights, ia G 16 f_this_rock_lights), (h_this_rock_now, ob 6 [.ref h_this_rock_now_off, .int x_this_rock_now_watch, .int x_this_rock_now_score, .int x_this_rock_now_home]), (h_this_rock_now_off, ia G 6 f_this_rock_now_off), (h_this_rock_rules, ob 5 [.ref h_this_rock_rules_kinds, .ref h_this_rock_rules_deeds, .ref h_this_rock_rules_begins, .ref h_this_rock_rules_steps, .ref h_this_rock_rules_lefts, .ref h_this_rock_rules_rights, .ref h_this_rock_rules_facts, .int x_this_rock_rules_count, .int x_this_rock_rules_size]), (h_this_rock_rules_begins, ia G 9 f_this_rock_rules_begins), (h_this_rock_rules_deeds, ia G 8 f_this_rock_rules_deeds), (h_this_rock_rules_facts, ia G 5 m_this_rock_rules_facts), (h_this_rock_rules_kinds, ia G 8 f_this_rock_rules_kinds), (h_this_rock_rules_lefts, ia G 200 f_this_rock_rules_lefts), (h_this_rock_rules_rights, ia G 200 f_this_rock_rules_rights), (h_this_rock_rules_steps, ia G 200 f_this_rock_rules_steps), (h_this_rock_trims, ia G 6 f_this_rock_trims), (h_this_trial, ob 6 [.ref h_this_trial_off, .int m_this_trial_watch, .int m_this_trial_score, .int m_this_trial_home]), (h_this_trial_off, ia G 6 m_this_trial_off)] := by
  refine mFi.of (by decide +kernel) (Nat.le_of_ble_eq_true rfl) ?_
  intro p e s m below meth c A C hr hlk h ls hl
  obtain ⟨hx, hb, hml, hown, hts⟩ := id C
  replace hl : lv_has ls 8 [(0, .ref h_this), (1, .int p0), (2, .int p1), (3, .int p2)] := hl
  unfold f_X8_wouldBe at hf
  refine with_K G A 8 (fun K hK1 hK2 => ?_)
  have L58 : ∀ (n : Nat) (v5 : Int32) (v6 : Int32) (g_this_rock_rules_facts : Nat → Int32) (y_this_trial_watch : Int32) (y_this_trial_score : Int32) (y_this_trial_home : Int32) (g_this_trial_off : Nat → Int32), f_X8_wouldBe_L58 p0 p1 p2 f_this_host_items f_this_host_sizes x_this_rock_count x_this_rock_end f_this_rock_buoys f_this_rock_currents f_this_rock_kinds f_this_rock_lanes f_this_rock_lights x_this_rock_rules_count f_this_rock_rules_begins f_this_rock_rules_deeds f_this_rock_rules_kinds f_this_rock_rules_lefts f_this_rock_rules_rights f_this_rock_rules_steps f_this_rock_trims n v5 v6 g_this_rock_rules_facts y_this_trial_watch y_this_trial_score y_this_trial_home g_this_trial_off = some (r, m_this_rock_rules_facts, m_this_trial_watch, m_this_trial_score, m_this_trial_home, m_this_trial_off) → K 58 ([] : List Value) [(h_this, ob 8 [.ref h_this_rock, .ref h_this_kept, .ref h_this_trial, .ref h_this_planner, .ref h_this_reader, .ref h_this_draft, .ref h_this_host, .ref h_this_thing, .ref h_this_tape, .ref h_this_rows, .int x_this_tapeCount, .int x_this_rowCount, .int x_this_isKept]), (h_this_host, ob 0 [.ref h_this_host_sorts, .ref h_this_host_sizes, .ref h_this_host_items, .ref h_this_host_holds, .ref h_this_host_shelfShips, .ref h_this_host_shelfSorts, .ref h_this_host_shelfSizes]), (h_this_host_items, ia G 160 f_this_host_items), (h_this_host_sizes, ia G 4 f_this_host_sizes), (h_this_host_sorts, ia G 4 f_this_host_sorts), (h_this_rock, ob 3 [.ref h_this_rock_kinds, .ref h_this_rock_trims, .ref h_this_rock_lanes, .ref h_this_rock_lights, .ref h_this_rock_currents, .ref h_this_rock_buoys, .ref h_this_rock_now, .ref h_this_rock_rules, .ref h_this_rock_reports, .int x_this_rock_count, .int x_this_rock_end, .int x_this_rock_z]), (h_this_rock_buoys, ia G 6 f_this_rock_buoys), (h_this_rock_currents, ia G 6 f_this_rock_currents), (h_this_rock_kinds, ia G 6 f_this_rock_kinds), (h_this_rock_lanes, ia G 6 f_this_rock_lanes), (h_this_rock_lights, ia G 16 f_this_rock_lights), (h_this_rock_now, ob 6 [.ref h_this_rock_now_off, .int x_this_rock_now_watch, .int x_this_rock_now_score, .int x_this_rock_now_home]), (h_this_rock_now_off, ia G 6 f_this_rock_now_off), (h_this_rock_rules, ob 5 [.ref h_this_rock_rules_kinds, .ref h_this_rock_rules_deeds, .ref h_this_rock_rules_begins, .ref h_this_rock_rules_steps, .ref h_this_rock_rules_lefts, .ref h_this_rock_rules_rights, .ref h_this_rock_rules_facts, .int x_this_rock_rules_count, .int x_this_rock_rules_size]), (h_this_rock_rules_begins, ia G 9 f_this_rock_rules_begins), (h_this_rock_rules_deeds, ia G 8 f_this_rock_rules_deeds), (h_this_rock_rules_facts, ia G 5 g_this_rock_rules_facts), (h_this_rock_rules_kinds, ia G 8 f_this_rock_rules_kinds), (h_this_rock_rules_lefts, ia G 200 f_this_rock_rules_lefts), (h_this_rock_rules_rights, ia G 200 f_this_rock_rules_rights), (h_this_rock_rules_steps, ia G 200 f_this_rock_rules_steps), (h_this_rock_trims, ia G 6 f_this_rock_trims), (h_this_trial, ob 6 [.ref h_this_trial_off, .int y_this_trial_watch, .int y_this_trial_score, .int y_this_trial_home]), (h_this_trial_off, ia G 6 g_this_trial_off)] [(0, .ref h_this), (1, .int p0), (2, .int p1), (3, .int p2), (5, .int v5), (6, .int v6)] := by
    intro n
    induction n with
    | zero =>
      intro v5 v6 g_this_rock_rules_facts y_this_trial_watch y_this_trial_score y_this_trial_home g_this_trial_off hf
      replace hf : (none : Option _) = some _ := hf
      cases hf
    | succ n ih =>
      intro v5 v6 g_this_rock_rules_facts y_this_trial_watch y_this_trial_score y_this_trial_home g_this_trial_off hf
      rw [f_X8_wouldBe_L58] at hf
      refine hK1 _ _ _ _ (fun H locs ls h hl => ?_)
      refine lv_iload hx hb dX8_wouldBe_58 (lv_at hl 5 rfl) ?_
      refine lv_iload_n hx hb dX8_wouldBe_60 rfl (lv_at hl 3 rfl) ?_
      refine lv_icmp_ge (tgt := 149) hx hb dX8_wouldBe_61 rfl (fun c15 => ?_) (fun c15 => ?_)
      · replace hf := ifp c15 hf
        refine lv_iload hx hb dX8_wouldBe_149 (lv_at hl 4 rfl) ?_
        obtain ⟨rfl, rfl, rfl, rfl, rfl, rfl⟩ := sm6 hf
        exact r_iret C h hr hlk rfl dX8_wouldBe_151
      · replace hf := ifn c15 hf
        refine lv_aload_n hx hb dX8_wouldBe_64 rfl (lv_at hl 0 rfl) ?_
        refine r_get C h fk_X8_50 0 rfl rfl dX8_wouldBe_65 ?_
        refine lv_iload_n hx hb dX8_wouldBe_68 rfl (lv_at hl 1 rfl) ?_
        refine lv_iload_n hx hb dX8_wouldBe_69 rfl (lv_at hl 2 rfl) ?_
        refine lv_iload hx hb dX8_wouldBe_70 (lv_at hl 5 rfl) ?_
        refine lv_iadd hx hb dX8_wouldBe_72 ?_
        replace hf := bd1_inv hf
        obtain ⟨r16, hc17, hf⟩ := hf
        refine r_ciV0 C h (c_X0_hasItem hc17) mv_X8_307 rfl 1 rfl [1, 3] rfl rfl hl.1 rfl (Nat.le_of_ble_eq_true rfl) (rok (by decide)) dX8_wouldBe_73 (fun H locs h => ?_)
        refine lv_if_ne (tgt := 82) hx hb dX8_wouldBe_76 rfl (fun c18 => ?_) (fun c18 => ?_)
        · replace hf := ifn c18 hf
          refine lv_aload_n hx hb dX8_wouldBe_82 rfl (lv_at hl 0 rfl) ?_
          refine r_get C h fk_X8_50 0 rfl rfl dX8_wouldBe_83 ?_
          refine lv_iload_n hx hb dX8_wouldBe_86 rfl (lv_at hl 1 rfl) ?_
          refine lv_iload_n hx hb dX8_wouldBe_87 rfl (lv_at hl 2 rfl) ?_
          refine lv_iload hx hb dX8_wouldBe_88 (lv_at hl 5 rfl) ?_
          refine lv_iadd hx hb dX8_wouldBe_90 ?_
          replace hf := bd1_inv hf
          obtain ⟨r19, hc20, hf⟩ := hf
          refine r_ciV0 C h (c_X0_get hc20) mv_X8_315 rfl 1 rfl [1, 2] rfl rfl hl.1 rfl (Nat.le_of_ble_eq_true rfl) (rok (by decide)) dX8_wouldBe_91 (fun H locs h => ?_)
          refine lv_istore (lv' := [(7, .int r19), (0, .ref h_this), (1, .int p0), (2, .int p1), (3, .int p2), (5, .int v5), (6, .int v6)]) hx hb dX8_wouldBe_94 hl (by decide) rfl (fun ls hl => ?_)
          refine lv_aload_n hx hb dX8_wouldBe_96 rfl (lv_at hl 1 rfl) ?_
          refine r_get C h fk_X8_10 0 rfl rfl dX8_wouldBe_97 ?_
          refine lv_iload hx hb dX8_wouldBe_100 (lv_at hl 0 rfl) ?_
          replace hf := bd1_inv hf
          obtain ⟨r21, hc22, hf⟩ := hf
          refine r_ciV0 C h (c_X3_hasAct hc22) mv_X8_294 rfl 5 rfl [5] rfl rfl hl.1 rfl (Nat.le_of_ble_eq_true rfl) (rok (by decide)) dX8_wouldBe_102 (fun H locs h => ?_)
          refine lv_if_eq (tgt := 122) hx hb dX8_wouldBe_105 rfl (fun c23 => ?_) (fun c23 => ?_)
          · replace hf := ifp c23 hf
            refine lv_bipush (v := (-4 : Int32)) hx hb dX8_wouldBe_122 rfl ?_
            obtain ⟨rfl, rfl, rfl, rfl, rfl, rfl⟩ := sm6 hf
            exact r_iret C h hr hlk rfl dX8_wouldBe_124
          · replace hf := ifn c23 hf
            refine lv_aload_n hx hb dX8_wouldBe_108 rfl (lv_at hl 1 rfl) ?_
            refine r_get C h fk_X8_10 0 rfl rfl dX8_wouldBe_109 ?_
            refine lv_aload_n hx hb dX8_wouldBe_112 rfl (lv_at hl 1 rfl) ?_
            refine r_get C h fk_X8_22 0 rfl rfl dX8_wouldBe_113 ?_
            replace hf := bd1_inv hf
            obtain ⟨r24, hc25, hf⟩ := hf
            refine r_ciV0 C h (c_X3_isOver hc25) mv_X8_159 rfl 5 rfl [22, 5] rfl rfl hl.1 rfl (Nat.le_of_ble_eq_true rfl) (rok (by decide)) dX8_wouldBe_116 (fun H locs h => ?_)
            refine lv_if_eq (tgt := 125) hx hb dX8_wouldBe_119 rfl (fun c26 => ?_) (fun c26 => ?_)
            · replace hf := ifp c26 hf
              refine lv_iload hx hb dX8_wouldBe_125 (lv_at hl 5 rfl) ?_
              refine lv_aload_n hx hb dX8_wouldBe_127 rfl (lv_at hl 1 rfl) ?_
              refine r_get C h fk_X8_10 0 rfl rfl dX8_wouldBe_128 ?_
              refine lv_aload_n hx hb dX8_wouldBe_131 rfl (lv_at hl 1 rfl) ?_
              refine r_get C h fk_X8_22 0 rfl rfl dX8_wouldBe_132 ?_
              refine lv_iload hx hb dX8_wouldBe_135 (lv_at hl 0 rfl) ?_
              replace hf := bd6_inv hf
              obtain ⟨r27, y28, y29, y30, g31, g32, hc33, hf⟩ := hf
              refine r_ciV (ws' := [(h_this, ob 8 [.ref h_this_rock, .ref h_this_kept, .ref h_this_trial, .ref h_this_planner, .ref h_this_reader, .ref h_this_draft, .ref h_this_host, .ref h_this_thing, .ref h_this_tape, .ref h_this_rows, .int x_this_tapeCount, .int x_this_rowCount, .int x_this_isKept]), (h_this_host, ob 0 [.ref h_this_host_sorts, .ref h_this_host_sizes, .ref h_this_host_items, .ref h_this_host_holds, .ref h_this_host_shelfShips, .ref h_this_host_shelfSorts, .ref h_this_host_shelfSizes]), (h_this_host_items, ia G 160 f_this_host_items), (h_this_host_sizes, ia G 4 f_this_host_sizes), (h_this_host_sorts, ia G 4 f_this_host_sorts), (h_this_rock, ob 3 [.ref h_this_rock_kinds, .ref h_this_rock_trims, .ref h_this_rock_lanes, .ref h_this_rock_lights, .ref h_this_rock_currents, .ref h_this_rock_buoys, .ref h_this_rock_now, .ref h_this_rock_rules, .ref h_this_rock_reports, .int x_this_rock_count, .int x_this_rock_end, .int x_this_rock_z]), (h_this_rock_buoys, ia G 6 f_this_rock_buoys), (h_this_rock_currents, ia G 6 f_this_rock_currents), (h_this_rock_kinds, ia G 6 f_this_rock_kinds), (h_this_rock_lanes, ia G 6 f_this_rock_lanes), (h_this_rock_lights, ia G 16 f_this_rock_lights), (h_this_rock_now, ob 6 [.ref h_this_rock_now_off, .int x_this_rock_now_watch, .int x_this_rock_now_score, .int x_this_rock_now_home]), (h_this_rock_now_off, ia G 6 f_this_rock_now_off), (h_this_rock_rules, ob 5 [.ref h_this_rock_rules_kinds, .ref h_this_rock_rules_deeds, .ref h_this_rock_rules_begins, .ref h_this_rock_rules_steps, .ref h_this_rock_rules_lefts, .ref h_this_rock_rules_rights, .ref h_this_rock_rules_facts, .int x_this_rock_rules_count, .int x_this_rock_rules_size]), (h_this_rock_rules_begins, ia G 9 f_this_rock_rules_begins), (h_this_rock_rules_deeds, ia G 8 f_this_rock_rules_deeds), (h_this_rock_rules_facts, ia G 5 g32), (h_this_rock_rules_kinds, ia G 8 f_this_rock_rules_kinds), (h_this_rock_rules_lefts, ia G 200 f_this_rock_rules_lefts), (h_this_rock_rules_rights, ia G 200 f_this_rock_rules_rights), (h_this_rock_rules_steps, ia G 200 f_this_rock_rules_steps), (h_this_rock_trims, ia G 6 f_this_rock_trims), (h_this_trial, ob 6 [.ref h_this_trial_off, .int y28, .int y29, .int y30]), (h_this_trial_off, ia G 6 g31)]) C h (c_X3_pass hc33) mv_X8_287 rfl 5 rfl [22, 23, 5, 6, 7, 8, 9, 10, 13, 14, 15, 16, 17, 18, 19, 20, 21] rfl rfl [16, 22, 23] [(h_this_rock_rules_facts, ia G 5 g32), (h_this_trial, ob 6 [.ref h_this_trial_off, .int y28, .int y29, .int y30]), (h_this_trial_off, ia G 6 g31)] rfl rfl (by decide +kernel) rfl hl.1 rfl (Nat.le_of_ble_eq_true rfl) (rok (by decide)) dX8_wouldBe_137 (fun H locs h => ?_)
              refine lv_iadd hx hb dX8_wouldBe_140 ?_
              refine lv_topi (fun t34 et34 => ?_)
              replace hf := lt1_inv et34 hf
              refine lv_istore (lv' := [(5, .int t34), (7, .int r19), (0, .ref h_this), (1, .int p0), (2, .int p1), (3, .int p2), (6, .int v6)]) hx hb dX8_wouldBe_141 hl (by decide) rfl (fun ls hl => ?_)
              obtain ⟨t35, et35⟩ : ∃ y : Int32, y = v6 + (1 : Int32) := ⟨_, rfl⟩
              replace hf := lt1_inv et35 hf
              refine lv_iinc (v := t35) (lv' := [(6, .int t35), (5, .int t34), (7, .int r19), (0, .ref h_this), (1, .int p0), (2, .int p1), (3, .int p2)]) hx hb dX8_wouldBe_143 hl (k := 6) rfl (by rw [et35]; rfl) (by decide) rfl (fun ls hl => ?_)
              refine lv_goto (tgt := 58) hx hb dX8_wouldBe_146 rfl ?_
              exact hK2 _ _ _ _ (ih t34 t35 g32 y28 y29 y30 g31 hf) _ _ _ h (lv_sub hl [3, 4, 5, 6, 1, 0] rfl)
            · replace hf := ifn c26 hf
              refine lv_bipush (v := (-4 : Int32)) hx hb dX8_wouldBe_122 rfl ?_
              obtain ⟨rfl, rfl, rfl, rfl, rfl, rfl⟩ := sm6 hf
              exact r_iret C h hr hlk rfl dX8_wouldBe_124
        · replace hf := ifp c18 hf
          refine lv_bipush (v := (-12 : Int32)) hx hb dX8_wouldBe_79 rfl ?_
          obtain ⟨rfl, rfl, rfl, rfl, rfl, rfl⟩ := sm6 hf
          exact r_iret C h hr hlk rfl dX8_wouldBe_81
  refine lv_iload_n hx hb dX8_wouldBe_0 rfl (lv_at hl 1 rfl) ?_
  replace hf := bd1_inv hf
  obtain ⟨r1, hc2, hf⟩ := hf
  refine r_ciS0 C h (c_X0_hasSheet hc2) ms_X8_297 rfl [] rfl rfl hl.1 rfl (Nat.le_of_ble_eq_true rfl) (rok (by decide)) dX8_wouldBe_1 (fun H locs h => ?_)
  refine lv_if_eq (tgt := 17) hx hb dX8_wouldBe_4 rfl (fun c3 => ?_) (fun c3 => ?_)
  · replace hf := ifp c3 hf
    refine lv_iconst (v := (-1 : Int32)) hx hb dX8_wouldBe_17 rfl ?_
    obtain ⟨rfl, rfl, rfl, rfl, rfl, rfl⟩ := sm6 hf
    exact r_iret C h hr hlk rfl dX8_wouldBe_18
  · replace hf := ifn c3 hf
    refine lv_iload_n hx hb dX8_wouldBe_7 rfl (lv_at hl 3 rfl) ?_
    refine lv_iconst (v := (0 : Int32)) hx hb dX8_wouldBe_8 rfl ?_
    refine lv_bipush (v := (20 : Int32)) hx hb dX8_wouldBe_9 rfl ?_
    replace hf := bd1_inv hf
    obtain ⟨r4, hc5, hf⟩ := hf
    refine r_ciS0 C h (c_X8_within hc5) ms_X8_79 rfl [] rfl rfl hl.1 rfl (Nat.le_of_ble_eq_true rfl) (rok (by decide)) dX8_wouldBe_11 (fun H locs h => ?_)
    refine lv_if_ne (tgt := 19) hx hb dX8_wouldBe_14 rfl (fun c6 => ?_) (fun c6 => ?_)
    · replace hf := ifn c6 hf
      refine lv_aload_n hx hb dX8_wouldBe_19 rfl (lv_at hl 0 rfl) ?_
      refine r_get C h fk_X8_50 0 rfl rfl dX8_wouldBe_20 ?_
      refine lv_iload_n hx hb dX8_wouldBe_23 rfl (lv_at hl 1 rfl) ?_
      refine lv_iconst (v := (0 : Int32)) hx hb dX8_wouldBe_24 rfl ?_
      replace hf := bd1_inv hf
      obtain ⟨r7, hc8, hf⟩ := hf
      refine r_ciV0 C h (c_X0_refusalOf hc8) mv_X8_312 rfl 1 rfl [1, 4] rfl rfl hl.1 rfl (Nat.le_of_ble_eq_true rfl) (rok (by decide)) dX8_wouldBe_25 (fun H locs h => ?_)
      refine lv_istore (lv' := [(4, .int r7), (0, .ref h_this), (1, .int p0), (2, .int p1), (3, .int p2)]) hx hb dX8_wouldBe_28 hl (by decide) rfl (fun ls hl => ?_)
      refine lv_iload hx hb dX8_wouldBe_30 (lv_at hl 0 rfl) ?_
      refine lv_if_eq (tgt := 38) hx hb dX8_wouldBe_32 rfl (fun c9 => ?_) (fun c9 => ?_)
      · replace hf := ifp c9 hf
        refine lv_aload_n hx hb dX8_wouldBe_38 rfl (lv_at hl 1 rfl) ?_
        refine r_get C h fk_X8_22 0 rfl rfl dX8_wouldBe_39 ?_
        refine lv_aload_n hx hb dX8_wouldBe_42 rfl (lv_at hl 1 rfl) ?_
        refine r_get C h fk_X8_10 0 rfl rfl dX8_wouldBe_43 ?_
        refine r_get C h fk_X8_94 5 rfl rfl dX8_wouldBe_46 ?_
        replace hf := bd4_inv hf
        obtain ⟨y10, y11, y12, g13, hc14, hf⟩ := hf
        refine r_cvV (ws' := [(h_this, ob 8 [.ref h_this_rock, .ref h_this_kept, .ref h_this_trial, .ref h_this_planner, .ref h_this_reader, .ref h_this_draft, .ref h_this_host, .ref h_this_thing, .ref h_this_tape, .ref h_this_rows, .int x_this_tapeCount, .int x_this_rowCount, .int x_this_isKept]), (h_this_host, ob 0 [.ref h_this_host_sorts, .ref h_this_host_sizes, .ref h_this_host_items, .ref h_this_host_holds, .ref h_this_host_shelfShips, .ref h_this_host_shelfSorts, .ref h_this_host_shelfSizes]), (h_this_host_items, ia G 160 f_this_host_items), (h_this_host_sizes, ia G 4 f_this_host_sizes), (h_this_host_sorts, ia G 4 f_this_host_sorts), (h_this_rock, ob 3 [.ref h_this_rock_kinds, .ref h_this_rock_trims, .ref h_this_rock_lanes, .ref h_this_rock_lights, .ref h_this_rock_currents, .ref h_this_rock_buoys, .ref h_this_rock_now, .ref h_this_rock_rules, .ref h_this_rock_reports, .int x_this_rock_count, .int x_this_rock_end, .int x_this_rock_z]), (h_this_rock_buoys, ia G 6 f_this_rock_buoys), (h_this_rock_currents, ia G 6 f_this_rock_currents), (h_this_rock_kinds, ia G 6 f_this_rock_kinds), (h_this_rock_lanes, ia G 6 f_this_rock_lanes), (h_this_rock_lights, ia G 16 f_this_rock_lights), (h_this_rock_now, ob 6 [.ref h_this_rock_now_off, .int x_this_rock_now_watch, .int x_this_rock_now_score, .int x_this_rock_now_home]), (h_this_rock_now_off, ia G 6 f_this_rock_now_off), (h_this_rock_rules, ob 5 [.ref h_this_rock_rules_kinds, .ref h_this_rock_rules_deeds, .ref h_this_rock_rules_begins, .ref h_this_rock_rules_steps, .ref h_this_rock_rules_lefts, .ref h_this_rock_rules_rights, .ref h_this_rock_rules_facts, .int x_this_rock_rules_count, .int x_this_rock_rules_size]), (h_this_rock_rules_begins, ia G 9 f_this_rock_rules_begins), (h_this_rock_rules_deeds, ia G 8 f_this_rock_rules_deeds), (h_this_rock_rules_facts, ia G 5 f_this_rock_rules_facts), (h_this_rock_rules_kinds, ia G 8 f_this_rock_rules_kinds), (h_this_rock_rules_lefts, ia G 200 f_this_rock_rules_lefts), (h_this_rock_rules_rights, ia G 200 f_this_rock_rules_rights), (h_this_rock_rules_steps, ia G 200 f_this_rock_rules_steps), (h_this_rock_trims, ia G 6 f_this_rock_trims), (h_this_trial, ob 6 [.ref h_this_trial_off, .int y10, .int y11, .int y12]), (h_this_trial_off, ia G 6 g13)]) C h (c_X6_become hc14) mv_X8_189 rfl 22 rfl [11, 12, 22, 23] rfl rfl [22, 23] [(h_this_trial, ob 6 [.ref h_this_trial_off, .int y10, .int y11, .int y12]), (h_this_trial_off, ia G 6 g13)] rfl rfl (by decide +kernel) rfl hl.1 rfl (Nat.le_of_ble_eq_true rfl) (rok (by decide)) dX8_wouldBe_49 (fun H locs h => ?_)
        refine lv_iconst (v := (0 : Int32)) hx hb dX8_wouldBe_52 rfl ?_
        refine lv_istore (lv' := [(5, .int (0 : Int32)), (4, .int r7), (0, .ref h_this), (1, .int p0), (2, .int p1), (3, .int p2)]) hx hb dX8_wouldBe_53 hl (by decide) rfl (fun ls hl => ?_)
        refine lv_iconst (v := (0 : Int32)) hx hb dX8_wouldBe_55 rfl ?_
        refine lv_istore (lv' := [(6, .int (0 : Int32)), (5, .int (0 : Int32)), (4, .int r7), (0, .ref h_this), (1, .int p0), (2, .int p1), (3, .int p2)]) hx hb dX8_wouldBe_56 hl (by decide) rfl (fun ls hl => ?_)
        exact hK2 _ _ _ _ (L58 1000 (0 : Int32) (0 : Int32) f_this_rock_rules_facts y10 y11 y12 g13 hf) _ _ _ h (lv_sub hl [3, 4, 5, 6, 1, 0] rfl)
      · replace hf := ifn c9 hf
        refine lv_iload hx hb dX8_wouldBe_35 (lv_at hl 0 rfl) ?_
        obtain ⟨rfl, rfl, rfl, rfl, rfl, rfl⟩ := sm6 hf
        exact r_iret C h hr hlk rfl dX8_wouldBe_37
    · replace hf := ifp c6 hf
      refine lv_iconst (v := (-1 : Int32)) hx hb dX8_wouldBe_17 rfl ?_
      obtain ⟨rfl, rfl, rfl, rfl, rfl, rfl⟩ := sm6 hf
      exact r_iret C h hr hlk rfl dX8_wouldBe_18
