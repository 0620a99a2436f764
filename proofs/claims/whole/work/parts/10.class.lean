def f_X8_within (p0 : Int32) (p1 : Int32) (p2 : Int32) : Option (Int32) := (if p0 < p1 then some (0 : Int32) else (if p2 < p0 then some (0 : Int32) else some (1 : Int32)))
set_option maxRecDepth 100000 in
set_option maxHeartbeats 4000000 in
theorem c_X8_within {l : Launch} {G : Gt} {p0 : Int32} {p1 : Int32} {p2 : Int32} {r : Int32} (hf : f_X8_within p0 p1 p2 = some r) : mFi l G yX8_within cX8_within 3 .boolean 0 [.int p0, .int p1, .int p2] ([] : va_W) r ([] : va_W) := by
  refine mFi.of (by decide +kernel) (Nat.le_of_ble_eq_true rfl) ?_
  intro p e s m below meth c A C hr hlk h ls hl
  obtain ⟨hx, hb, hml, hown, hts⟩ := id C
  replace hl : lv_has ls 3 [(0, .int p0), (1, .int p1), (2, .int p2)] := hl
  unfold f_X8_within at hf
  refine lv_iload_n hx hb dX8_within_0 rfl (lv_at hl 0 rfl) ?_
  refine lv_iload_n hx hb dX8_within_1 rfl (lv_at hl 1 rfl) ?_
  refine lv_icmp_lt (tgt := 14) hx hb dX8_within_2 rfl (fun c1 => ?_) (fun c1 => ?_)
  · replace hf := ifp c1 hf
    refine lv_iconst (v := (0 : Int32)) hx hb dX8_within_14 rfl ?_
    cases hf
    exact r_iret C h hr hlk rfl dX8_within_15
  · replace hf := ifn c1 hf
    refine lv_iload_n hx hb dX8_within_5 rfl (lv_at hl 0 rfl) ?_
    refine lv_iload_n hx hb dX8_within_6 rfl (lv_at hl 2 rfl) ?_
    refine lv_icmp_gt (tgt := 14) hx hb dX8_within_7 rfl (fun c2 => ?_) (fun c2 => ?_)
    · replace hf := ifp c2 hf
      refine lv_iconst (v := (0 : Int32)) hx hb dX8_within_14 rfl ?_
      cases hf
      exact r_iret C h hr hlk rfl dX8_within_15
    · replace hf := ifn c2 hf
      refine lv_iconst (v := (1 : Int32)) hx hb dX8_within_10 rfl ?_
      refine lv_goto (tgt := 15) hx hb dX8_within_11 rfl ?_
      cases hf
      exact r_iret C h hr hlk rfl dX8_within_15
def f_X6_bring (p0 : Int32) (p1 : Int32) (x_this_home : Int32) : Option (Int32 × Int32) := lt1 ((x_this_home >>> (p0 &&& 31)) &&& (1 : Int32)) (fun (t1 : Int32) => lt1 ((x_this_home &&& (((1 : Int32) <<< (p0 &&& 31)) ^^^ (-1 : Int32))) ||| (p1 <<< (p0 &&& 31))) (fun (t2 : Int32) => some (t1, t2)))
set_option maxRecDepth 100000 in
set_option maxHeartbeats 4000000 in
theorem c_X6_bring {l : Launch} {G : Gt} {h_this h_this_off : Nat} {p0 : Int32} {p1 : Int32} {x_this_watch : Int32} {x_this_score : Int32} {x_this_home : Int32} {r : Int32} {m_this_home : Int32} (hf : f_X6_bring p0 p1 x_this_home = some (r, m_this_home)) : mFi l G yX6_bring cX6_bring 4 .int 0 [.ref h_this, .int p0, .int p1] [(h_this, ob 6 [.ref h_this_off, .int x_this_watch, .int x_this_score, .int x_this_home])] r [(h_this, ob 6 [.ref h_this_off, .int x_this_watch, .int x_this_score, .int m_this_home])] := by
  refine mFi.of (by decide +kernel) (Nat.le_of_ble_eq_true rfl) ?_
  intro p e s m below meth c A C hr hlk h ls hl
  obtain ⟨hx, hb, hml, hown, hts⟩ := id C
  replace hl : lv_has ls 4 [(0, .ref h_this), (1, .int p0), (2, .int p1)] := hl
  unfold f_X6_bring at hf
  refine lv_aload_n hx hb dX6_bring_0 rfl (lv_at hl 0 rfl) ?_
  refine r_get C h fk_X6_22 0 rfl rfl dX6_bring_1 ?_
  refine lv_iload_n hx hb dX6_bring_4 rfl (lv_at hl 1 rfl) ?_
  refine lv_ishr hx hb dX6_bring_5 ?_
  refine lv_iconst (v := (1 : Int32)) hx hb dX6_bring_6 rfl ?_
  refine lv_iand hx hb dX6_bring_7 ?_
  refine lv_topi (fun t1 et1 => ?_)
  replace hf := lt1_inv et1 hf
  refine lv_istore_n (lv' := [(3, .int t1), (0, .ref h_this), (1, .int p0), (2, .int p1)]) hx hb dX6_bring_8 rfl hl (by decide) rfl (fun ls hl => ?_)
  refine lv_aload_n hx hb dX6_bring_9 rfl (lv_at hl 1 rfl) ?_
  refine lv_aload_n hx hb dX6_bring_10 rfl (lv_at hl 1 rfl) ?_
  refine r_get C h fk_X6_22 0 rfl rfl dX6_bring_11 ?_
  refine lv_iconst (v := (1 : Int32)) hx hb dX6_bring_14 rfl ?_
  refine lv_iload_n hx hb dX6_bring_15 rfl (lv_at hl 2 rfl) ?_
  refine lv_ishl hx hb dX6_bring_16 ?_
  refine lv_iconst (v := (-1 : Int32)) hx hb dX6_bring_17 rfl ?_
  refine lv_ixor hx hb dX6_bring_18 ?_
  refine lv_iand hx hb dX6_bring_19 ?_
  refine lv_iload_n hx hb dX6_bring_20 rfl (lv_at hl 3 rfl) ?_
  refine lv_iload_n hx hb dX6_bring_21 rfl (lv_at hl 2 rfl) ?_
  refine lv_ishl hx hb dX6_bring_22 ?_
  refine lv_ior hx hb dX6_bring_23 ?_
  refine lv_topi (fun t2 et2 => ?_)
  replace hf := lt1_inv et2 hf
  refine r_put (ws' := [(h_this, ob 6 [.ref h_this_off, .int x_this_watch, .int x_this_score, .int t2])]) C h fw_X6_22 0 rfl rfl rfl (Nat.le_of_ble_eq_true rfl) dX6_bring_24 rfl (fun H locs h => ?_)
  refine lv_iload_n hx hb dX6_bring_27 rfl (lv_at hl 0 rfl) ?_
  cases hf
  exact r_iret C h hr hlk rfl dX6_bring_28
def f_X3_enlist (p0 : Int32) (p1 : Int32) (p2 : Int32) (p3 : Int32) (x_this_count : Int32) (f_this_kinds : Nat → Int32) (f_this_lanes : Nat → Int32) (x_this_now_home : Int32) (f_this_now_off : Nat → Int32) (f_this_trims : Nat → Int32) : Option (Int32 × Int32 × (Nat → Int32) × (Nat → Int32) × Int32 × (Nat → Int32) × (Nat → Int32)) := chkI x_this_count 6 (chkI x_this_count 6 (chkI x_this_count 6 (chkI x_this_count 6 (bd2 (f_X6_bring x_this_count (0 : Int32) x_this_now_home) (fun r5 y6 => lt1 (x_this_count + (1 : Int32)) (fun (t8 : Int32) => some (x_this_count, t8, upd f_this_kinds x_this_count.toNatClampNeg p0, upd f_this_lanes x_this_count.toNatClampNeg p3, y6, upd f_this_now_off x_this_count.toNatClampNeg p1, upd f_this_trims x_this_count.toNatClampNeg p2)))))))
set_option maxRecDepth 100000 in
set_option maxHeartbeats 4000000 in
theorem c_X3_enlist {l : Launch} {G : Gt} {h_this h_this_kinds h_this_trims h_this_lanes h_this_lights h_this_currents h_this_buoys h_this_now h_this_rules h_this_reports h_this_now_off : Nat} {p0 : Int32} {p1 : Int32} {p2 : Int32} {p3 : Int32} {x_this_count : Int32} {x_this_end : Int32} {x_this_z : Int32} {f_this_kinds : Nat → Int32} {f_this_lanes : Nat → Int32} {x_this_now_watch : Int32} {x_this_now_score : Int32} {x_this_now_home : Int32} {f_this_now_off : Nat → Int32} {f_this_trims : Nat → Int32} {r : Int32} {m_this_count : Int32} {m_this_kinds : Nat → Int32} {m_this_lanes : Nat → Int32} {m_this_now_home : Int32} {m_this_now_off : Nat → Int32} {m_this_trims : Nat → Int32} (hf : f_X3_enlist p0 p1 p2 p3 x_this_count f_this_kinds f_this_lanes x_this_now_home f_this_now_off f_this_trims = some (r, m_this_count, m_this_kinds, m_this_lanes, m_this_now_home, m_this_now_off, m_this_trims)) : mFi l G yX3_enlist cX3_enlist 6 .int 1 [.ref h_this, .int p0, .int p1, .int p2, .int p3] [(h_this, ob 3 [.ref h_this_kinds, .ref h_this_trims, .ref h_this_lanes, .ref h_this_lights, .ref h_this_currents, .ref h_this_buoys, .ref h_this_now, .ref h_this_rules, .ref h_this_reports, .int x_this_count, .int x_this_end, .int x_this_z]), (h_this_kinds, ia G 6 f_this_kinds), (h_this_lanes, ia G 6 f_this_lanes), (h_this_now, ob 6 [.ref h_this_now_off, .int x_this_now_watch, .int x_this_now_score, .int x_this_now_home]), (h_this_now_off, ia G 6 f_this_now_off), (h_this_trims, ia G 6 f_this_trims)] r [(h_this, ob 3 [.ref h_this_kinds, .ref h_this_trims, .ref h_this_lanes, .ref h_this_lights, .ref h_this_currents, .ref h_this_buoys, .ref h_this_now, .ref h_this_rules, .ref h_this_reports, .int m_this_count, .int x_this_end, .int x_this_z]), (h_this_kinds, ia G 6 m_this_kinds), (h_this_lanes, ia G 6 m_this_lanes), (h_this_now, ob 6 [.ref h_this_now_off, .int x_this_now_watch, .int x_this_now_score, .int m_this_now_home]), (h_this_now_off, ia G 6 m_this_now_off), (h_this_trims, ia G 6 m_this_trims)] := by
  refine mFi.of (by decide +kernel) (Nat.le_of_ble_eq_true rfl) ?_
  intro p e s m below meth c A C hr hlk h ls hl
  obtain ⟨hx, hb, hml, hown, hts⟩ := id C
  replace hl : lv_has ls 6 [(0, .ref h_this), (1, .int p0), (2, .int p1), (3, .int p2), (4, .int p3)] := hl
  unfold f_X3_enlist at hf
  refine lv_aload_n hx hb dX3_enlist_0 rfl (lv_at hl 0 rfl) ?_
  refine r_get C h fk_X3_51 0 rfl rfl dX3_enlist_1 ?_
  refine lv_istore (lv' := [(5, .int x_this_count), (0, .ref h_this), (1, .int p0), (2, .int p1), (3, .int p2), (4, .int p3)]) hx hb dX3_enlist_4 hl (by decide) rfl (fun ls hl => ?_)
  refine lv_aload_n hx hb dX3_enlist_6 rfl (lv_at hl 1 rfl) ?_
  refine r_get C h fk_X3_9 0 rfl rfl dX3_enlist_7 ?_
  refine lv_iload hx hb dX3_enlist_10 (lv_at hl 0 rfl) ?_
  refine lv_iload_n hx hb dX3_enlist_12 rfl (lv_at hl 2 rfl) ?_
  replace hf := chkI_inv hf
  obtain ⟨hi1, hf⟩ := hf
  refine r_iast (ws' := [(h_this, ob 3 [.ref h_this_kinds, .ref h_this_trims, .ref h_this_lanes, .ref h_this_lights, .ref h_this_currents, .ref h_this_buoys, .ref h_this_now, .ref h_this_rules, .ref h_this_reports, .int x_this_count, .int x_this_end, .int x_this_z]), (h_this_kinds, ia G 6 (upd f_this_kinds x_this_count.toNatClampNeg p0)), (h_this_lanes, ia G 6 f_this_lanes), (h_this_now, ob 6 [.ref h_this_now_off, .int x_this_now_watch, .int x_this_now_score, .int x_this_now_home]), (h_this_now_off, ia G 6 f_this_now_off), (h_this_trims, ia G 6 f_this_trims)]) C h 1 rfl hi1 dX3_enlist_13 rfl (fun H locs h => ?_)
  refine lv_aload_n hx hb dX3_enlist_14 rfl (lv_at hl 1 rfl) ?_
  refine r_get C h fk_X3_15 0 rfl rfl dX3_enlist_15 ?_
  refine lv_iload hx hb dX3_enlist_18 (lv_at hl 0 rfl) ?_
  refine lv_iload_n hx hb dX3_enlist_20 rfl (lv_at hl 4 rfl) ?_
  replace hf := chkI_inv hf
  obtain ⟨hi2, hf⟩ := hf
  refine r_iast (ws' := [(h_this, ob 3 [.ref h_this_kinds, .ref h_this_trims, .ref h_this_lanes, .ref h_this_lights, .ref h_this_currents, .ref h_this_buoys, .ref h_this_now, .ref h_this_rules, .ref h_this_reports, .int x_this_count, .int x_this_end, .int x_this_z]), (h_this_kinds, ia G 6 (upd f_this_kinds x_this_count.toNatClampNeg p0)), (h_this_lanes, ia G 6 f_this_lanes), (h_this_now, ob 6 [.ref h_this_now_off, .int x_this_now_watch, .int x_this_now_score, .int x_this_now_home]), (h_this_now_off, ia G 6 f_this_now_off), (h_this_trims, ia G 6 (upd f_this_trims x_this_count.toNatClampNeg p2))]) C h 5 rfl hi2 dX3_enlist_21 rfl (fun H locs h => ?_)
  refine lv_aload_n hx hb dX3_enlist_22 rfl (lv_at hl 1 rfl) ?_
  refine r_get C h fk_X3_18 0 rfl rfl dX3_enlist_23 ?_
  refine lv_iload hx hb dX3_enlist_26 (lv_at hl 0 rfl) ?_
  refine lv_iload hx hb dX3_enlist_28 (lv_at hl 5 rfl) ?_
  replace hf := chkI_inv hf
  obtain ⟨hi3, hf⟩ := hf
  refine r_iast (ws' := [(h_this, ob 3 [.ref h_this_kinds, .ref h_this_trims, .ref h_this_lanes, .ref h_this_lights, .ref h_this_currents, .ref h_this_buoys, .ref h_this_now, .ref h_this_rules, .ref h_this_reports, .int x_this_count, .int x_this_end, .int x_this_z]), (h_this_kinds, ia G 6 (upd f_this_kinds x_this_count.toNatClampNeg p0)), (h_this_lanes, ia G 6 (upd f_this_lanes x_this_count.toNatClampNeg p3)), (h_this_now, ob 6 [.ref h_this_now_off, .int x_this_now_watch, .int x_this_now_score, .int x_this_now_home]), (h_this_now_off, ia G 6 f_this_now_off), (h_this_trims, ia G 6 (upd f_this_trims x_this_count.toNatClampNeg p2))]) C h 2 rfl hi3 dX3_enlist_30 rfl (fun H locs h => ?_)
  refine lv_aload_n hx hb dX3_enlist_31 rfl (lv_at hl 1 rfl) ?_
  refine r_get C h fk_X3_33 0 rfl rfl dX3_enlist_32 ?_
  refine r_get C h fk_X3_86 3 rfl rfl dX3_enlist_35 ?_
  refine lv_iload hx hb dX3_enlist_38 (lv_at hl 0 rfl) ?_
  refine lv_iload_n hx hb dX3_enlist_40 rfl (lv_at hl 3 rfl) ?_
  replace hf := chkI_inv hf
  obtain ⟨hi4, hf⟩ := hf
  refine r_iast (ws' := [(h_this, ob 3 [.ref h_this_kinds, .ref h_this_trims, .ref h_this_lanes, .ref h_this_lights, .ref h_this_currents, .ref h_this_buoys, .ref h_this_now, .ref h_this_rules, .ref h_this_reports, .int x_this_count, .int x_this_end, .int x_this_z]), (h_this_kinds, ia G 6 (upd f_this_kinds x_this_count.toNatClampNeg p0)), (h_this_lanes, ia G 6 (upd f_this_lanes x_this_count.toNatClampNeg p3)), (h_this_now, ob 6 [.ref h_this_now_off, .int x_this_now_watch, .int x_this_now_score, .int x_this_now_home]), (h_this_now_off, ia G 6 (upd f_this_now_off x_this_count.toNatClampNeg p1)), (h_this_trims, ia G 6 (upd f_this_trims x_this_count.toNatClampNeg p2))]) C h 4 rfl hi4 dX3_enlist_41 rfl (fun H locs h => ?_)
  refine lv_aload_n hx hb dX3_enlist_42 rfl (lv_at hl 1 rfl) ?_
  refine r_get C h fk_X3_33 0 rfl rfl dX3_enlist_43 ?_
  refine lv_iload hx hb dX3_enlist_46 (lv_at hl 0 rfl) ?_
  refine lv_iconst (v := (0 : Int32)) hx hb dX3_enlist_48 rfl ?_
  replace hf := bd2_inv hf
  obtain ⟨r5, y6, hc7, hf⟩ := hf
  refine r_ciV (ws' := [(h_this, ob 3 [.ref h_this_kinds, .ref h_this_trims, .ref h_this_lanes, .ref h_this_lights, .ref h_this_currents, .ref h_this_buoys, .ref h_this_now, .ref h_this_rules, .ref h_this_reports, .int x_this_count, .int x_this_end, .int x_this_z]), (h_this_kinds, ia G 6 (upd f_this_kinds x_this_count.toNatClampNeg p0)), (h_this_lanes, ia G 6 (upd f_this_lanes x_this_count.toNatClampNeg p3)), (h_this_now, ob 6 [.ref h_this_now_off, .int x_this_now_watch, .int x_this_now_score, .int y6]), (h_this_now_off, ia G 6 (upd f_this_now_off x_this_count.toNatClampNeg p1)), (h_this_trims, ia G 6 (upd f_this_trims x_this_count.toNatClampNeg p2))]) C h (c_X6_bring hc7) mv_X3_89 rfl 3 rfl [3] rfl rfl rfl rfl rfl hl.1 rfl (Nat.le_of_ble_eq_true rfl) (rok (by decide)) dX3_enlist_49 (fun H locs h => ?_)
  refine lv_pop hx hb dX3_enlist_52 rfl ?_
  refine lv_aload_n hx hb dX3_enlist_53 rfl (lv_at hl 1 rfl) ?_
  refine lv_dup hx hb dX3_enlist_54 rfl ?_
  refine r_get C h fk_X3_51 0 rfl rfl dX3_enlist_55 ?_
  refine lv_iconst (v := (1 : Int32)) hx hb dX3_enlist_58 rfl ?_
  refine lv_iadd hx hb dX3_enlist_59 ?_
  refine lv_topi (fun t8 et8 => ?_)
  replace hf := lt1_inv et8 hf
  refine r_put (ws' := [(h_this, ob 3 [.ref h_this_kinds, .ref h_this_trims, .ref h_this_lanes, .ref h_this_lights, .ref h_this_currents, .ref h_this_buoys, .ref h_this_now, .ref h_this_rules, .ref h_this_reports, .int t8, .int x_this_end, .int x_this_z]), (h_this_kinds, ia G 6 (upd f_this_kinds x_this_count.toNatClampNeg p0)), (h_this_lanes, ia G 6 (upd f_this_lanes x_this_count.toNatClampNeg p3)), (h_this_now, ob 6 [.ref h_this_now_off, .int x_this_now_watch, .int x_this_now_score, .int y6]), (h_this_now_off, ia G 6 (upd f_this_now_off x_this_count.toNatClampNeg p1)), (h_this_trims, ia G 6 (upd f_this_trims x_this_count.toNatClampNeg p2))]) C h fw_X3_51 0 rfl rfl rfl (Nat.le_of_ble_eq_true rfl) dX3_enlist_60 rfl (fun H locs h => ?_)
  refine lv_iload hx hb dX3_enlist_63 (lv_at hl 0 rfl) ?_
  cases hf
  exact r_iret C h hr hlk rfl dX3_enlist_65
def f_X8_ship (p0 : Int32) (p1 : Int32) (p2 : Int32) (p3 : Int32) (x_this_rock_count : Int32) (f_this_rock_kinds : Nat → Int32) (f_this_rock_lanes : Nat → Int32) (x_this_rock_now_home : Int32) (f_this_rock_now_off : Nat → Int32) (f_this_rock_trims : Nat → Int32) : Option (Int32 × Int32 × (Nat → Int32) × (Nat → Int32) × Int32 × (Nat → Int32) × (Nat → Int32)) := bd1 (f_X8_within p0 (1 : Int32) (5 : Int32)) (fun r1 => (if r1 = 0 then some ((-1 : Int32), x_this_rock_count, f_this_rock_kinds, f_this_rock_lanes, x_this_rock_now_home, f_this_rock_now_off, f_this_rock_trims) else bd1 (f_X8_within p1 (0 : Int32) (99 : Int32)) (fun r4 => (if r4 = 0 then some ((-1 : Int32), x_this_rock_count, f_this_rock_kinds, f_this_rock_lanes, x_this_rock_now_home, f_this_rock_now_off, f_this_rock_trims) else bd1 (f_X8_within p2 (0 : Int32) (9 : Int32)) (fun r7 => (if r7 = 0 then some ((-1 : Int32), x_this_rock_count, f_this_rock_kinds, f_this_rock_lanes, x_this_rock_now_home, f_this_rock_now_off, f_this_rock_trims) else bd1 (f_X8_within p3 (0 : Int32) (5 : Int32)) (fun r10 => (if r10 = 0 then some ((-1 : Int32), x_this_rock_count, f_this_rock_kinds, f_this_rock_lanes, x_this_rock_now_home, f_this_rock_now_off, f_this_rock_trims) else (if x_this_rock_count < (6 : Int32) then bd7 (f_X3_enlist p0 p1 p2 p3 x_this_rock_count f_this_rock_kinds f_this_rock_lanes x_this_rock_now_home f_this_rock_now_off f_this_rock_trims) (fun r14 y15 g16 g17 y18 g19 g20 => some (r14, y15, g16, g17, y18, g19, g20)) else some ((-2 : Int32), x_this_rock_count, f_this_rock_kinds, f_this_rock_lanes, x_this_rock_now_home, f_this_rock_now_off, f_this_rock_trims))))))))))
set_option maxRecDepth 100000 in
set_option maxHeartbeats 4000000 in
theorem c_X8_ship {l : Launch} {G : Gt} {h_this h_this_rock h_this_kept h_this_trial h_this_planner h_this_reader h_this_draft h_this_host h_this_thing h_this_tape h_this_rows h_this_rock_kinds h_this_rock_trims h_this_rock_lanes h_this_rock_lights h_this_rock_currents h_this_rock_buoys h_this_rock_now h_this_rock_rules h_this_rock_reports h_this_rock_now_off : Nat} {p0 : Int32} {p1 : Int32} {p2 : Int32} {p3 : Int32} {x_this_tapeCount : Int32} {x_this_rowCount : Int32} {x_this_isKept : Int32} {x_this_rock_count : Int32} {x_this_rock_end : Int32} {x_this_rock_z : Int32} {f_this_rock_kinds : Nat → Int32} {f_this_rock_lanes : Nat → Int32} {x_this_rock_now_watch : Int32} {x_this_rock_now_score : Int32} {x_this_rock_now_home : Int32} {f_this_rock_now_off : Nat → Int32} {f_this_rock_trims : Nat → Int32} {r : Int32} {m_this_rock_count : Int32} {m_this_rock_kinds : Nat → Int32} {m_this_rock_lanes : Nat → Int32} {m_this_rock_now_home : Int32} {m_this_rock_now_off : Nat → Int32} {m_this_rock_trims : Nat → Int32} (hf : f_X8_ship p0 p1 p2 p3 x_this_rock_count f_this_rock_kinds f_this_rock_lanes x_this_rock_now_home f_this_rock_now_off f_this_rock_trims = some (r, m_this_rock_count, m_this_rock_kinds, m_this_rock_lanes, m_this_rock_now_home, m_this_rock_now_off, m_this_rock_trims)) : mFi l G yX8_ship cX8_ship 5 .int 2 [.ref h_this, .int p0, .int p1, .int p2, .int p3] [(h_this, ob 8 [.ref h_this_rock, .ref h_this_kept, .ref h_this_trial, .ref h_this_planner, .ref h_this_reader, .ref h_this_draft, .ref h_this_host, .ref h_this_thing, .ref h_this_tape, .ref h_this_rows, .int x_this_tapeCount, .int x_this_rowCount, .int x_this_isKept]), (h_this_rock, ob 3 [.ref h_this_rock_kinds, .ref h_this_rock_trims, .ref h_this_rock_lanes, .ref h_this_rock_lights, .ref h_this_rock_currents, .ref h_this_rock_buoys, .ref h_this_rock_now, .ref h_this_rock_rules, .ref h_this_rock_reports, .int x_this_rock_count, .int x_this_rock_end, .int x_this_rock_z]), (h_this_rock_kinds, ia G 6 f_this_rock_kinds), (h_this_rock_lanes, ia G 6 f_this_rock_lanes), (h_this_rock_now, ob 6 [.ref h_this_rock_now_off, .int x_this_rock_now_watch, .int x_this_rock_now_score, .int x_this_rock_now_home]), (h_this_rock_now_off, ia G 6 f_this_rock_now_off), (h_this_rock_trims, ia G 6 f_this_rock_trims)] r [(h_this, ob 8 [.ref h_this_rock, .ref h_this_kept, .ref h_this_trial, .ref h_this_planner, .ref h_this_reader, .ref h_this_draft, .ref h_this_host, .ref h_this_thing, .ref h_this_tape, .ref h_this_rows, .int x_this_tapeCount, .int x_this_rowCount, .int x_this_isKept]), (h_this_rock, ob 3 [.ref h_this_rock_kinds, .ref h_this_rock_trims, .ref h_this_rock_lanes, .ref h_this_rock_lights, .ref h_this_rock_currents, .ref h_this_rock_buoys, .ref h_this_rock_now, .ref h_this_rock_rules, .ref h_this_rock_reports, .int m_this_rock_count, .int x_this_rock_end, .int x_this_rock_z]), (h_this_rock_kinds, ia G 6 m_this_rock_kinds), (h_this_rock_lanes, ia G 6 m_this_rock_lanes), (h_this_rock_now, ob 6 [.ref h_this_rock_now_off, .int x_this_rock_now_watch, .int x_this_rock_now_score, .int m_this_rock_now_home]), (h_this_rock_now_off, ia G 6 m_this_rock_now_off), (h_this_rock_trims, ia G 6 m_this_rock_trims)] := by
  refine mFi.of (by decide +kernel) (Nat.le_of_ble_eq_true rfl) ?_
  intro p e s m below meth c A C hr hlk h ls hl
  obtain ⟨hx, hb, hml, hown, hts⟩ := id C
  replace hl : lv_has ls 5 [(0, .ref h_this), (1, .int p0), (2, .int p1), (3, .int p2), (4, .int p3)] := hl
  unfold f_X8_ship at hf
  refine lv_iload_n hx hb dX8_ship_0 rfl (lv_at hl 1 rfl) ?_
  refine lv_iconst (v := (1 : Int32)) hx hb dX8_ship_1 rfl ?_
  refine lv_iconst (v := (5 : Int32)) hx hb dX8_ship_2 rfl ?_
  replace hf := bd1_inv hf
  obtain ⟨r1, hc2, hf⟩ := hf
  refine r_ciS0 C h (c_X8_within hc2) ms_X8_79 rfl [] rfl rfl hl.1 rfl (Nat.le_of_ble_eq_true rfl) (rok (by decide)) dX8_ship_3 (fun H locs h => ?_)
  refine lv_if_eq (tgt := 19) hx hb dX8_ship_6 rfl (fun c3 => ?_) (fun c3 => ?_)
  · replace hf := ifp c3 hf
    refine lv_iconst (v := (-1 : Int32)) hx hb dX8_ship_19 rfl ?_
    cases hf
    exact r_iret C h hr hlk rfl dX8_ship_20
  · replace hf := ifn c3 hf
    refine lv_iload_n hx hb dX8_ship_9 rfl (lv_at hl 2 rfl) ?_
    refine lv_iconst (v := (0 : Int32)) hx hb dX8_ship_10 rfl ?_
    refine lv_bipush (v := (99 : Int32)) hx hb dX8_ship_11 rfl ?_
    replace hf := bd1_inv hf
    obtain ⟨r4, hc5, hf⟩ := hf
    refine r_ciS0 C h (c_X8_within hc5) ms_X8_79 rfl [] rfl rfl hl.1 rfl (Nat.le_of_ble_eq_true rfl) (rok (by decide)) dX8_ship_13 (fun H locs h => ?_)
    refine lv_if_ne (tgt := 21) hx hb dX8_ship_16 rfl (fun c6 => ?_) (fun c6 => ?_)
    · replace hf := ifn c6 hf
      refine lv_iload_n hx hb dX8_ship_21 rfl (lv_at hl 3 rfl) ?_
      refine lv_iconst (v := (0 : Int32)) hx hb dX8_ship_22 rfl ?_
      refine lv_bipush (v := (9 : Int32)) hx hb dX8_ship_23 rfl ?_
      replace hf := bd1_inv hf
      obtain ⟨r7, hc8, hf⟩ := hf
      refine r_ciS0 C h (c_X8_within hc8) ms_X8_79 rfl [] rfl rfl hl.1 rfl (Nat.le_of_ble_eq_true rfl) (rok (by decide)) dX8_ship_25 (fun H locs h => ?_)
      refine lv_if_eq (tgt := 41) hx hb dX8_ship_28 rfl (fun c9 => ?_) (fun c9 => ?_)
      · replace hf := ifp c9 hf
        refine lv_iconst (v := (-1 : Int32)) hx hb dX8_ship_41 rfl ?_
        cases hf
        exact r_iret C h hr hlk rfl dX8_ship_42
      · replace hf := ifn c9 hf
        refine lv_iload hx hb dX8_ship_31 (lv_at hl 4 rfl) ?_
        refine lv_iconst (v := (0 : Int32)) hx hb dX8_ship_33 rfl ?_
        refine lv_iconst (v := (5 : Int32)) hx hb dX8_ship_34 rfl ?_
        replace hf := bd1_inv hf
        obtain ⟨r10, hc11, hf⟩ := hf
        refine r_ciS0 C h (c_X8_within hc11) ms_X8_79 rfl [] rfl rfl hl.1 rfl (Nat.le_of_ble_eq_true rfl) (rok (by decide)) dX8_ship_35 (fun H locs h => ?_)
        refine lv_if_ne (tgt := 43) hx hb dX8_ship_38 rfl (fun c12 => ?_) (fun c12 => ?_)
        · replace hf := ifn c12 hf
          refine lv_aload_n hx hb dX8_ship_43 rfl (lv_at hl 0 rfl) ?_
          refine r_get C h fk_X8_10 0 rfl rfl dX8_ship_44 ?_
          refine r_get C h fk_X8_83 1 rfl rfl dX8_ship_47 ?_
          refine lv_bipush (v := (6 : Int32)) hx hb dX8_ship_50 rfl ?_
          refine lv_icmp_lt (tgt := 58) hx hb dX8_ship_52 rfl (fun c13 => ?_) (fun c13 => ?_)
          · replace hf := ifp c13 hf
            refine lv_aload_n hx hb dX8_ship_58 rfl (lv_at hl 0 rfl) ?_
            refine r_get C h fk_X8_10 0 rfl rfl dX8_ship_59 ?_
            refine lv_iload_n hx hb dX8_ship_62 rfl (lv_at hl 1 rfl) ?_
            refine lv_iload_n hx hb dX8_ship_63 rfl (lv_at hl 2 rfl) ?_
            refine lv_iload_n hx hb dX8_ship_64 rfl (lv_at hl 3 rfl) ?_
            refine lv_iload hx hb dX8_ship_65 (lv_at hl 4 rfl) ?_
            replace hf := bd7_inv hf
            obtain ⟨r14, y15, g16, g17, y18, g19, g20, hc21, hf⟩ := hf
            refine r_ciV (ws' := [(h_this, ob 8 [.ref h_this_rock, .ref h_this_kept, .ref h_this_trial, .ref h_this_planner, .ref h_this_reader, .ref h_this_draft, .ref h_this_host, .ref h_this_thing, .ref h_this_tape, .ref h_this_rows, .int x_this_tapeCount, .int x_this_rowCount, .int x_this_isKept]), (h_this_rock, ob 3 [.ref h_this_rock_kinds, .ref h_this_rock_trims, .ref h_this_rock_lanes, .ref h_this_rock_lights, .ref h_this_rock_currents, .ref h_this_rock_buoys, .ref h_this_rock_now, .ref h_this_rock_rules, .ref h_this_rock_reports, .int y15, .int x_this_rock_end, .int x_this_rock_z]), (h_this_rock_kinds, ia G 6 g16), (h_this_rock_lanes, ia G 6 g17), (h_this_rock_now, ob 6 [.ref h_this_rock_now_off, .int x_this_rock_now_watch, .int x_this_rock_now_score, .int y18]), (h_this_rock_now_off, ia G 6 g19), (h_this_rock_trims, ia G 6 g20)]) C h (c_X3_enlist hc21) mv_X8_86 rfl 1 rfl [1, 2, 3, 4, 5, 6] rfl rfl rfl rfl rfl hl.1 rfl (Nat.le_of_ble_eq_true rfl) (rok (by decide)) dX8_ship_67 (fun H locs h => ?_)
            cases hf
            exact r_iret C h hr hlk rfl dX8_ship_70
          · replace hf := ifn c13 hf
            refine lv_bipush (v := (-2 : Int32)) hx hb dX8_ship_55 rfl ?_
            cases hf
            exact r_iret C h hr hlk rfl dX8_ship_57
        · replace hf := ifp c12 hf
          refine lv_iconst (v := (-1 : Int32)) hx hb dX8_ship_41 rfl ?_
          cases hf
          exact r_iret C h hr hlk rfl dX8_ship_42
    · replace hf := ifp c6 hf
      refine lv_iconst (v := (-1 : Int32)) hx hb dX8_ship_19 rfl ?_
      cases hf
      exact r_iret C h hr hlk rfl dX8_ship_20
def f_X3_has (p0 : Int32) (x_this_count : Int32) : Option (Int32) := (if p0 < 0 then some (0 : Int32) else (if x_this_count ≤ p0 then some (0 : Int32) else some (1 : Int32)))
set_option maxRecDepth 100000 in
set_option maxHeartbeats 4000000 in
theorem c_X3_has {l : Launch} {G : Gt} {h_this h_this_kinds h_this_trims h_this_lanes h_this_lights h_this_currents h_this_buoys h_this_now h_this_rules h_this_reports : Nat} {p0 : Int32} {x_this_count : Int32} {x_this_end : Int32} {x_this_z : Int32} {r : Int32} (hf : f_X3_has p0 x_this_count = some r) : mFi l G yX3_has cX3_has 2 .boolean 0 [.ref h_this, .int p0] [(h_this, ob 3 [.ref h_this_kinds, .ref h_this_trims, .ref h_this_lanes, .ref h_this_lights, .ref h_this_currents, .ref h_this_buoys, .ref h_this_now, .ref h_this_rules, .ref h_this_reports, .int x_this_count, .int x_this_end, .int x_this_z])] r [(h_this, ob 3 [.ref h_this_kinds, .ref h_this_trims, .ref h_this_lanes, .ref h_this_lights, .ref h_this_currents, .ref h_this_buoys, .ref h_this_now, .ref h_this_rules, .ref h_this_reports, .int x_this_count, .int x_this_end, .int x_this_z])] := by
  refine mFi.of (by decide +kernel) (Nat.le_of_ble_eq_true rfl) ?_
  intro p e s m below meth c A C hr hlk h ls hl
  obtain ⟨hx, hb, hml, hown, hts⟩ := id C
  replace hl : lv_has ls 2 [(0, .ref h_this), (1, .int p0)] := hl
  unfold f_X3_has at hf
  refine lv_iload_n hx hb dX3_has_0 rfl (lv_at hl 1 rfl) ?_
  refine lv_if_lt (tgt := 16) hx hb dX3_has_1 rfl (fun c1 => ?_) (fun c1 => ?_)
  · replace hf := ifp c1 hf
    refine lv_iconst (v := (0 : Int32)) hx hb dX3_has_16 rfl ?_
    cases hf
    exact r_iret C h hr hlk rfl dX3_has_17
  · replace hf := ifn c1 hf
    refine lv_iload_n hx hb dX3_has_4 rfl (lv_at hl 1 rfl) ?_
    refine lv_aload_n hx hb dX3_has_5 rfl (lv_at hl 0 rfl) ?_
    refine r_get C h fk_X3_51 0 rfl rfl dX3_has_6 ?_
    refine lv_icmp_ge (tgt := 16) hx hb dX3_has_9 rfl (fun c2 => ?_) (fun c2 => ?_)
    · replace hf := ifp c2 hf
      refine lv_iconst (v := (0 : Int32)) hx hb dX3_has_16 rfl ?_
      cases hf
      exact r_iret C h hr hlk rfl dX3_has_17
    · replace hf := ifn c2 hf
      refine lv_iconst (v := (1 : Int32)) hx hb dX3_has_12 rfl ?_
      refine lv_goto (tgt := 17) hx hb dX3_has_13 rfl ?_
      cases hf
      exact r_iret C h hr hlk rfl dX3_has_17
def f_X6_isHome (p0 : Int32) (x_this_home : Int32) : Option (Int32) := (if ((x_this_home >>> (p0 &&& 31)) &&& (1 : Int32)) = (1 : Int32) then some (1 : Int32) else some (0 : Int32))
set_option maxRecDepth 100000 in
set_option maxHeartbeats 4000000 in
theorem c_X6_isHome {l : Launch} {G : Gt} {h_this h_this_off : Nat} {p0 : Int32} {x_this_watch : Int32} {x_this_score : Int32} {x_this_home : Int32} {r : Int32} (hf : f_X6_isHome p0 x_this_home = some r) : mFi l G yX6_isHome cX6_isHome 2 .boolean 0 [.ref h_this, .int p0] [(h_this, ob 6 [.ref h_this_off, .int x_this_watch, .int x_this_score, .int x_this_home])] r [(h_this, ob 6 [.ref h_this_off, .int x_this_watch, .int x_this_score, .int x_this_home])] := by
  refine mFi.of (by decide +kernel) (Nat.le_of_ble_eq_true rfl) ?_
  intro p e s m below meth c A C hr hlk h ls hl
  obtain ⟨hx, hb, hml, hown, hts⟩ := id C
  replace hl : lv_has ls 2 [(0, .ref h_this), (1, .int p0)] := hl
  unfold f_X6_isHome at hf
  refine lv_aload_n hx hb dX6_isHome_0 rfl (lv_at hl 0 rfl) ?_
  refine r_get C h fk_X6_22 0 rfl rfl dX6_isHome_1 ?_
  refine lv_iload_n hx hb dX6_isHome_4 rfl (lv_at hl 1 rfl) ?_
  refine lv_ishr hx hb dX6_isHome_5 ?_
  refine lv_iconst (v := (1 : Int32)) hx hb dX6_isHome_6 rfl ?_
  refine lv_iand hx hb dX6_isHome_7 ?_
  refine lv_iconst (v := (1 : Int32)) hx hb dX6_isHome_8 rfl ?_
  refine lv_icmp_ne (tgt := 16) hx hb dX6_isHome_9 rfl (fun c1 => ?_) (fun c1 => ?_)
  · replace hf := ifn c1 hf
    refine lv_iconst (v := (0 : Int32)) hx hb dX6_isHome_16 rfl ?_
    cases hf
    exact r_iret C h hr hlk rfl dX6_isHome_17
  · replace hf := ifp c1 hf
    refine lv_iconst (v := (1 : Int32)) hx hb dX6_isHome_12 rfl ?_
    refine lv_goto (tgt := 17) hx hb dX6_isHome_13 rfl ?_
    cases hf
    exact r_iret C h hr hlk rfl dX6_isHome_17
def f_X3_lightAt (p0 : Int32) (f_this_lights : Nat → Int32) : Option (Int32) := (if p0 < 0 then some (0 : Int32) else (if (16 : Int32) ≤ p0 then some (0 : Int32) else chkI p0 16 (some (f_this_lights p0.toNatClampNeg))))
set_option maxRecDepth 100000 in
set_option maxHeartbeats 4000000 in
theorem c_X3_lightAt {l : Launch} {G : Gt} {h_this h_this_kinds h_this_trims h_this_lanes h_this_lights h_this_currents h_this_buoys h_this_now h_this_rules h_this_reports : Nat} {p0 : Int32} {x_this_count : Int32} {x_this_end : Int32} {x_this_z : Int32} {f_this_lights : Nat → Int32} {r : Int32} (hf : f_X3_lightAt p0 f_this_lights = some r) : mFi l G yX3_lightAt cX3_lightAt 2 .int 0 [.ref h_this, .int p0] [(h_this, ob 3 [.ref h_this_kinds, .ref h_this_trims, .ref h_this_lanes, .ref h_this_lights, .ref h_this_currents, .ref h_this_buoys, .ref h_this_now, .ref h_this_rules, .ref h_this_reports, .int x_this_count, .int x_this_end, .int x_this_z]), (h_this_lights, ia G 16 f_this_lights)] r [(h_this, ob 3 [.ref h_this_kinds, .ref h_this_trims, .ref h_this_lanes, .ref h_this_lights, .ref h_this_currents, .ref h_this_buoys, .ref h_this_now, .ref h_this_rules, .ref h_this_reports, .int x_this_count, .int x_this_end, .int x_this_z]), (h_this_lights, ia G 16 f_this_lights)] := by
  refine mFi.of (by decide +kernel) (Nat.le_of_ble_eq_true rfl) ?_
  intro p e s m below meth c A C hr hlk h ls hl
  obtain ⟨hx, hb, hml, hown, hts⟩ := id C
  replace hl : lv_has ls 2 [(0, .ref h_this), (1, .int p0)] := hl
  unfold f_X3_lightAt at hf
  refine lv_iload_n hx hb dX3_lightAt_0 rfl (lv_at hl 1 rfl) ?_
  refine lv_if_lt (tgt := 19) hx hb dX3_lightAt_1 rfl (fun c1 => ?_) (fun c1 => ?_)
  · replace hf := ifp c1 hf
    refine lv_iconst (v := (0 : Int32)) hx hb dX3_lightAt_19 rfl ?_
    cases hf
    exact r_iret C h hr hlk rfl dX3_lightAt_20
  · replace hf := ifn c1 hf
    refine lv_iload_n hx hb dX3_lightAt_4 rfl (lv_at hl 1 rfl) ?_
    refine lv_bipush (v := (16 : Int32)) hx hb dX3_lightAt_5 rfl ?_
    refine lv_icmp_ge (tgt := 19) hx hb dX3_lightAt_7 rfl (fun c2 => ?_) (fun c2 => ?_)
    · replace hf := ifp c2 hf
      refine lv_iconst (v := (0 : Int32)) hx hb dX3_lightAt_19 rfl ?_
      cases hf
      exact r_iret C h hr hlk rfl dX3_lightAt_20
    · replace hf := ifn c2 hf
      refine lv_aload_n hx hb dX3_lightAt_10 rfl (lv_at hl 0 rfl) ?_
      refine r_get C h fk_X3_21 0 rfl rfl dX3_lightAt_11 ?_
      refine lv_iload_n hx hb dX3_lightAt_14 rfl (lv_at hl 1 rfl) ?_
      replace hf := chkI_inv hf
      obtain ⟨hi3, hf⟩ := hf
      refine r_iald C h 1 rfl hi3 dX3_lightAt_15 ?_
      refine lv_goto (tgt := 20) hx hb dX3_lightAt_16 rfl ?_
      cases hf
      exact r_iret C h hr hlk rfl dX3_lightAt_20
def f_X8_nearsAlone (p0 : Int32) (p1 : Int32) (p2 : Int32) : Option (Int32) := lt1 (p1 >>> ((2 : Int32) &&& 31)) (fun (t1 : Int32) => lt1 (p1 &&& (3 : Int32)) (fun (t2 : Int32) => (if p0 = (1 : Int32) then some (t1 * t2) else (if p0 = (2 : Int32) then some ((2 : Int32) * t1) else (if p0 = (3 : Int32) then some (((2 : Int32) * t1) + t2) else (if p0 = (4 : Int32) then some ((3 : Int32) + t2) else (if p0 = (5 : Int32) then (if (p2 - p2 / (3 : Int32) * (3 : Int32)) = 0 then some (0 : Int32) else some ((3 : Int32) + t2)) else some ((2 : Int32) + t1))))))))
set_option maxRecDepth 100000 in
set_option maxHeartbeats 4000000 in
theorem c_X8_nearsAlone {l : Launch} {G : Gt} {p0 : Int32} {p1 : Int32} {p2 : Int32} {r : Int32} (hf : f_X8_nearsAlone p0 p1 p2 = some r) : mFi l G yX8_nearsAlone cX8_nearsAlone 5 .int 0 [.int p0, .int p1, .int p2] ([] : va_W) r ([] : va_W) := by
  refine mFi.of (by decide +kernel) (Nat.le_of_ble_eq_true rfl) ?_
  intro p e s m below meth c A C hr hlk h ls hl
  obtain ⟨hx, hb, hml, hown, hts⟩ := id C
  replace hl : lv_has ls 5 [(0, .int p0), (1, .int p1), (2, .int p2)] := hl
  unfold f_X8_nearsAlone at hf
  refine lv_iload_n hx hb dX8_nearsAlone_0 rfl (lv_at hl 1 rfl) ?_
  refine lv_iconst (v := (2 : Int32)) hx hb dX8_nearsAlone_1 rfl ?_
  refine lv_ishr hx hb dX8_nearsAlone_2 ?_
  refine lv_topi (fun t1 et1 => ?_)
  replace hf := lt1_inv et1 hf
  refine lv_istore_n (lv' := [(3, .int t1), (0, .int p0), (1, .int p1), (2, .int p2)]) hx hb dX8_nearsAlone_3 rfl hl (by decide) rfl (fun ls hl => ?_)
  refine lv_iload_n hx hb dX8_nearsAlone_4 rfl (lv_at hl 2 rfl) ?_
  refine lv_iconst (v := (3 : Int32)) hx hb dX8_nearsAlone_5 rfl ?_
  refine lv_iand hx hb dX8_nearsAlone_6 ?_
  refine lv_topi (fun t2 et2 => ?_)
  replace hf := lt1_inv et2 hf
  refine lv_istore (lv' := [(4, .int t2), (3, .int t1), (0, .int p0), (1, .int p1), (2, .int p2)]) hx hb dX8_nearsAlone_7 hl (by decide) rfl (fun ls hl => ?_)
  refine lv_iload_n hx hb dX8_nearsAlone_9 rfl (lv_at hl 2 rfl) ?_
  by_cases c3 : p0 = (1 : Int32)
  · replace hf := ifp c3 hf
    refine r_tab (tgt := 44) C dX8_nearsAlone_10 (1 : Int32) c3 (by decide) rfl rfl ?_
    refine lv_iload_n hx hb dX8_nearsAlone_44 rfl (lv_at hl 1 rfl) ?_
    refine lv_iload hx hb dX8_nearsAlone_45 (lv_at hl 0 rfl) ?_
    refine lv_imul hx hb dX8_nearsAlone_47 ?_
    cases hf
    exact r_iret C h hr hlk rfl dX8_nearsAlone_48
  · replace hf := ifn c3 hf
    by_cases c4 : p0 = (2 : Int32)
    · replace hf := ifp c4 hf
      refine r_tab (tgt := 49) C dX8_nearsAlone_10 (2 : Int32) c4 (by decide) rfl rfl ?_
      refine lv_iconst (v := (2 : Int32)) hx hb dX8_nearsAlone_49 rfl ?_
      refine lv_iload_n hx hb dX8_nearsAlone_50 rfl (lv_at hl 1 rfl) ?_
      refine lv_imul hx hb dX8_nearsAlone_51 ?_
      cases hf
      exact r_iret C h hr hlk rfl dX8_nearsAlone_52
    · replace hf := ifn c4 hf
      by_cases c5 : p0 = (3 : Int32)
      · replace hf := ifp c5 hf
        refine r_tab (tgt := 53) C dX8_nearsAlone_10 (3 : Int32) c5 (by decide) rfl rfl ?_
        refine lv_iconst (v := (2 : Int32)) hx hb dX8_nearsAlone_53 rfl ?_
        refine lv_iload_n hx hb dX8_nearsAlone_54 rfl (lv_at hl 1 rfl) ?_
        refine lv_imul hx hb dX8_nearsAlone_55 ?_
        refine lv_iload hx hb dX8_nearsAlone_56 (lv_at hl 0 rfl) ?_
        refine lv_iadd hx hb dX8_nearsAlone_58 ?_
        cases hf
        exact r_iret C h hr hlk rfl dX8_nearsAlone_59
      · replace hf := ifn c5 hf
        by_cases c6 : p0 = (4 : Int32)
        · replace hf := ifp c6 hf
          refine r_tab (tgt := 60) C dX8_nearsAlone_10 (4 : Int32) c6 (by decide) rfl rfl ?_
          refine lv_iconst (v := (3 : Int32)) hx hb dX8_nearsAlone_60 rfl ?_
          refine lv_iload hx hb dX8_nearsAlone_61 (lv_at hl 0 rfl) ?_
          refine lv_iadd hx hb dX8_nearsAlone_63 ?_
          cases hf
          exact r_iret C h hr hlk rfl dX8_nearsAlone_64
        · replace hf := ifn c6 hf
          by_cases c7 : p0 = (5 : Int32)
          · replace hf := ifp c7 hf
            refine r_tab (tgt := 65) C dX8_nearsAlone_10 (5 : Int32) c7 (by decide) rfl rfl ?_
            refine lv_iload_n hx hb dX8_nearsAlone_65 rfl (lv_at hl 4 rfl) ?_
            refine lv_iconst (v := (3 : Int32)) hx hb dX8_nearsAlone_66 rfl ?_
            refine lv_irem hx hb dX8_nearsAlone_67 (by decide) ?_
            refine lv_if_ne (tgt := 75) hx hb dX8_nearsAlone_68 rfl (fun c8 => ?_) (fun c8 => ?_)
            · replace hf := ifn c8 hf
              refine lv_iconst (v := (3 : Int32)) hx hb dX8_nearsAlone_75 rfl ?_
              refine lv_iload hx hb dX8_nearsAlone_76 (lv_at hl 0 rfl) ?_
              refine lv_iadd hx hb dX8_nearsAlone_78 ?_
              cases hf
              exact r_iret C h hr hlk rfl dX8_nearsAlone_79
            · replace hf := ifp c8 hf
              refine lv_iconst (v := (0 : Int32)) hx hb dX8_nearsAlone_71 rfl ?_
              refine lv_goto (tgt := 79) hx hb dX8_nearsAlone_72 rfl ?_
              cases hf
              exact r_iret C h hr hlk rfl dX8_nearsAlone_79
          · replace hf := ifn c7 hf
            refine r_tabD (tgt := 80) C dX8_nearsAlone_10 [(1 : Int32), (2 : Int32), (3 : Int32), (4 : Int32), (5 : Int32)] (by decide) (nel_c c3 (nel_c c4 (nel_c c5 (nel_c c6 (nel_c c7 nel_0))))) rfl ?_
            refine lv_iconst (v := (2 : Int32)) hx hb dX8_nearsAlone_80 rfl ?_
            refine lv_iload_n hx hb dX8_nearsAlone_81 rfl (lv_at hl 1 rfl) ?_
            refine lv_iadd hx hb dX8_nearsAlone_82 ?_
            cases hf
            exact r_iret C h hr hlk rfl dX8_nearsAlone_83
def f_X3_nears_L37 (p1 : Int32) (x_a0_home : Int32) (x_this_count : Int32) (f_this_lanes : Nat → Int32) : Nat → Int32 → Int32 → Option (Int32)
  | 0, _, _ => none
  | n + 1, v3, v4 => (if x_this_count ≤ v4 then some (imax (0 : Int32) v3) else (if v4 = p1 then lt1 (v4 + (1 : Int32)) (fun (t11 : Int32) => (f_X3_nears_L37 p1 x_a0_home x_this_count f_this_lanes n) v3 t11) else chkI v4 6 (chkI p1 6 ((if (f_this_lanes v4.toNatClampNeg) = (f_this_lanes p1.toNatClampNeg) then bd1 (f_X6_isHome v4 x_a0_home) (fun r16 => (if r16 = 0 then lt1 (v3 + (-1 : Int32)) (fun (t20 : Int32) => lt1 (v4 + (1 : Int32)) (fun (t21 : Int32) => (f_X3_nears_L37 p1 x_a0_home x_this_count f_this_lanes n) t20 t21)) else lt1 (v4 + (1 : Int32)) (fun (t19 : Int32) => (f_X3_nears_L37 p1 x_a0_home x_this_count f_this_lanes n) v3 t19))) else lt1 (v4 + (1 : Int32)) (fun (t15 : Int32) => (f_X3_nears_L37 p1 x_a0_home x_this_count f_this_lanes n) v3 t15))))))
def f_X3_nears (p1 : Int32) (x_a0_watch : Int32) (x_a0_home : Int32) (x_this_count : Int32) (f_this_currents : Nat → Int32) (f_this_kinds : Nat → Int32) (f_this_lanes : Nat → Int32) (f_this_lights : Nat → Int32) : Option (Int32) := chkI p1 6 (bd1 (f_X3_lightAt x_a0_watch f_this_lights) (fun r2 => bd1 (f_X8_nearsAlone (f_this_kinds p1.toNatClampNeg) r2 x_a0_watch) (fun r4 => chkI p1 6 (chkI (f_this_lanes p1.toNatClampNeg) 6 (lt1 (r4 + (f_this_currents (f_this_lanes p1.toNatClampNeg).toNatClampNeg)) (fun (t8 : Int32) => f_X3_nears_L37 p1 x_a0_home x_this_count f_this_lanes 1000 t8 (0 : Int32)))))))
set_option maxRecDepth 100000 in
set_option maxHeartbeats 4000000 in
theorem c_X3_nears {l : Launch} {G : Gt} {h_a0 h_a0_off h_this h_this_kinds h_this_trims h_this_lanes h_this_lights h_this_currents h_this_buoys h_this_now h_this_rules h_this_reports : Nat} {p1 : Int32} {x_a0_watch : Int32} {x_a0_score : Int32} {x_a0_home : Int32} {x_this_count : Int32} {x_this_end : Int32} {x_this_z : Int32} {f_this_currents : Nat → Int32} {f_this_kinds : Nat → Int32} {f_this_lanes : Nat → Int32} {f_this_lights : Nat → Int32} {r : Int32} (hf : f_X3_nears p1 x_a0_watch x_a0_home x_this_count f_this_currents f_this_kinds f_this_lanes f_this_lights = some r) : mFi l G yX3_nears cX3_nears 5 .int 1 [.ref h_this, .ref h_a0, .int p1] [(h_a0, ob 6 [.ref h_a0_off, .int x_a0_watch, .int x_a0_score, .int x_a0_home]), (h_this, ob 3 [.ref h_this_kinds, .ref h_this_trims, .ref h_this_lanes, .ref h_this_lights, .ref h_this_currents, .ref h_this_buoys, .ref h_this_now, .ref h_this_rules, .ref h_this_reports, .int x_this_count, .int x_this_end, .int x_this_z]), (h_this_currents, ia G 6 f_this_currents), (h_this_kinds, ia G 6 f_this_kinds), (h_this_lanes, ia G 6 f_this_lanes), (h_this_lights, ia G 16 f_this_lights)] r [(h_a0, ob 6 [.ref h_a0_off, .int x_a0_watch, .int x_a0_score, .int x_a0_home]), (h_this, ob 3 [.ref h_this_kinds, .ref h_this_trims, .ref h_this_lanes, .ref h_this_lights, .ref h_this_currents, .ref h_this_buoys, .ref h_this_now, .ref h_this_rules, .ref h_this_reports, .int x_this_count, .int x_this_end, .int x_this_z]), (h_this_currents, ia G 6 f_this_currents), (h_this_kinds, ia G 6 f_this_kinds), (h_this_lanes, ia G 6 f_this_lanes), (h_this_lights, ia G 16 f_this_lights)] := by
  refine mFi.of (by decide +kernel) (Nat.le_of_ble_eq_true rfl) ?_
  intro p e s m below meth c A C hr hlk h ls hl
  obtain ⟨hx, hb, hml, hown, hts⟩ := id C
  replace hl : lv_has ls 5 [(0, .ref h_this), (1, .ref h_a0), (2, .int p1)] := hl
  unfold f_X3_nears at hf
  refine with_K G A 5 (fun K hK1 hK2 => ?_)
  have L37 : ∀ (n : Nat) (v3 : Int32) (v4 : Int32), f_X3_nears_L37 p1 x_a0_home x_this_count f_this_lanes n v3 v4 = some r → K 37 ([] : List Value) [(h_a0, ob 6 [.ref h_a0_off, .int x_a0_watch, .int x_a0_score, .int x_a0_home]), (h_this, ob 3 [.ref h_this_kinds, .ref h_this_trims, .ref h_this_lanes, .ref h_this_lights, .ref h_this_currents, .ref h_this_buoys, .ref h_this_now, .ref h_this_rules, .ref h_this_reports, .int x_this_count, .int x_this_end, .int x_this_z]), (h_this_currents, ia G 6 f_this_currents), (h_this_kinds, ia G 6 f_this_kinds), (h_this_lanes, ia G 6 f_this_lanes), (h_this_lights, ia G 16 f_this_lights)] [(0, .ref h_this), (1, .ref h_a0), (2, .int p1), (3, .int v3), (4, .int v4)] := by
    intro n
    induction n with
    | zero =>
      intro v3 v4 hf
      replace hf : (none : Option _) = some _ := hf
      cases hf
    | succ n ih =>
      intro v3 v4 hf
      rw [f_X3_nears_L37] at hf
      refine hK1 _ _ _ _ (fun H locs ls h hl => ?_)
      refine lv_iload hx hb dX3_nears_37 (lv_at hl 4 rfl) ?_
      refine lv_aload_n hx hb dX3_nears_39 rfl (lv_at hl 0 rfl) ?_
      refine r_get C h fk_X3_51 1 rfl rfl dX3_nears_40 ?_
      refine lv_icmp_ge (tgt := 86) hx hb dX3_nears_43 rfl (fun c9 => ?_) (fun c9 => ?_)
      · replace hf := ifp c9 hf
        refine lv_iconst (v := (0 : Int32)) hx hb dX3_nears_86 rfl ?_
        refine lv_iload_n hx hb dX3_nears_87 rfl (lv_at hl 3 rfl) ?_
        refine r_imax C mx_X3_108 hl.1 (Nat.le_of_ble_eq_true rfl) (Nat.le_of_ble_eq_true rfl) dX3_nears_88 ?_
        cases hf
        exact r_iret C h hr hlk rfl dX3_nears_91
      · replace hf := ifn c9 hf
        refine lv_iload hx hb dX3_nears_46 (lv_at hl 4 rfl) ?_
        refine lv_iload_n hx hb dX3_nears_48 rfl (lv_at hl 2 rfl) ?_
        refine lv_icmp_eq (tgt := 80) hx hb dX3_nears_49 rfl (fun c10 => ?_) (fun c10 => ?_)
        · replace hf := ifp c10 hf
          obtain ⟨t11, et11⟩ : ∃ y : Int32, y = v4 + (1 : Int32) := ⟨_, rfl⟩
          replace hf := lt1_inv et11 hf
          refine lv_iinc (v := t11) (lv' := [(4, .int t11), (0, .ref h_this), (1, .ref h_a0), (2, .int p1), (3, .int v3)]) hx hb dX3_nears_80 hl (k := 4) rfl (by rw [et11]; rfl) (by decide) rfl (fun ls hl => ?_)
          refine lv_goto (tgt := 37) hx hb dX3_nears_83 rfl ?_
          exact hK2 _ _ _ _ (ih v3 t11 hf) _ _ _ h (lv_sub hl [1, 2, 3, 4, 0] rfl)
        · replace hf := ifn c10 hf
          refine lv_aload_n hx hb dX3_nears_52 rfl (lv_at hl 0 rfl) ?_
          refine r_get C h fk_X3_18 1 rfl rfl dX3_nears_53 ?_
          refine lv_iload hx hb dX3_nears_56 (lv_at hl 4 rfl) ?_
          replace hf := chkI_inv hf
          obtain ⟨hi12, hf⟩ := hf
          refine r_iald C h 4 rfl hi12 dX3_nears_58 ?_
          refine lv_aload_n hx hb dX3_nears_59 rfl (lv_at hl 0 rfl) ?_
          refine r_get C h fk_X3_18 1 rfl rfl dX3_nears_60 ?_
          refine lv_iload_n hx hb dX3_nears_63 rfl (lv_at hl 2 rfl) ?_
          replace hf := chkI_inv hf
          obtain ⟨hi13, hf⟩ := hf
          refine r_iald C h 4 rfl hi13 dX3_nears_64 ?_
          refine lv_icmp_ne (tgt := 80) hx hb dX3_nears_65 rfl (fun c14 => ?_) (fun c14 => ?_)
          · replace hf := ifn c14 hf
            obtain ⟨t15, et15⟩ : ∃ y : Int32, y = v4 + (1 : Int32) := ⟨_, rfl⟩
            replace hf := lt1_inv et15 hf
            refine lv_iinc (v := t15) (lv' := [(4, .int t15), (0, .ref h_this), (1, .ref h_a0), (2, .int p1), (3, .int v3)]) hx hb dX3_nears_80 hl (k := 4) rfl (by rw [et15]; rfl) (by decide) rfl (fun ls hl => ?_)
            refine lv_goto (tgt := 37) hx hb dX3_nears_83 rfl ?_
            exact hK2 _ _ _ _ (ih v3 t15 hf) _ _ _ h (lv_sub hl [1, 2, 3, 4, 0] rfl)
          · replace hf := ifp c14 hf
            refine lv_aload_n hx hb dX3_nears_68 rfl (lv_at hl 1 rfl) ?_
            refine lv_iload hx hb dX3_nears_69 (lv_at hl 4 rfl) ?_
            replace hf := bd1_inv hf
            obtain ⟨r16, hc17, hf⟩ := hf
            refine r_ciV0 C h (c_X6_isHome hc17) mv_X3_105 rfl 0 rfl [0] rfl rfl hl.1 rfl (Nat.le_of_ble_eq_true rfl) (rok (by decide)) dX3_nears_71 (fun H locs h => ?_)
            refine lv_if_ne (tgt := 80) hx hb dX3_nears_74 rfl (fun c18 => ?_) (fun c18 => ?_)
            · replace hf := ifn c18 hf
              obtain ⟨t19, et19⟩ : ∃ y : Int32, y = v4 + (1 : Int32) := ⟨_, rfl⟩
              replace hf := lt1_inv et19 hf
              refine lv_iinc (v := t19) (lv' := [(4, .int t19), (0, .ref h_this), (1, .ref h_a0), (2, .int p1), (3, .int v3)]) hx hb dX3_nears_80 hl (k := 4) rfl (by rw [et19]; rfl) (by decide) rfl (fun ls hl => ?_)
              refine lv_goto (tgt := 37) hx hb dX3_nears_83 rfl ?_
              exact hK2 _ _ _ _ (ih v3 t19 hf) _ _ _ h (lv_sub hl [1, 2, 3, 4, 0] rfl)
            · replace hf := ifp c18 hf
              obtain ⟨t20, et20⟩ : ∃ y : Int32, y = v3 + (-1 : Int32) := ⟨_, rfl⟩
              replace hf := lt1_inv et20 hf
              refine lv_iinc (v := t20) (lv' := [(3, .int t20), (0, .ref h_this), (1, .ref h_a0), (2, .int p1), (4, .int v4)]) hx hb dX3_nears_77 hl (k := 3) rfl (by rw [et20]; rfl) (by decide) rfl (fun ls hl => ?_)
              obtain ⟨t21, et21⟩ : ∃ y : Int32, y = v4 + (1 : Int32) := ⟨_, rfl⟩
              replace hf := lt1_inv et21 hf
              refine lv_iinc (v := t21) (lv' := [(4, .int t21), (3, .int t20), (0, .ref h_this), (1, .ref h_a0), (2, .int p1)]) hx hb dX3_nears_80 hl (k := 4) rfl (by rw [et21]; rfl) (by decide) rfl (fun ls hl => ?_)
              refine lv_goto (tgt := 37) hx hb dX3_nears_83 rfl ?_
              exact hK2 _ _ _ _ (ih t20 t21 hf) _ _ _ h (lv_sub hl [2, 3, 4, 1, 0] rfl)
  refine lv_aload_n hx hb dX3_nears_0 rfl (lv_at hl 0 rfl) ?_
  refine r_get C h fk_X3_9 1 rfl rfl dX3_nears_1 ?_
  refine lv_iload_n hx hb dX3_nears_4 rfl (lv_at hl 2 rfl) ?_
  replace hf := chkI_inv hf
  obtain ⟨hi1, hf⟩ := hf
  refine r_iald C h 3 rfl hi1 dX3_nears_5 ?_
  refine lv_aload_n hx hb dX3_nears_6 rfl (lv_at hl 0 rfl) ?_
  refine lv_aload_n hx hb dX3_nears_7 rfl (lv_at hl 1 rfl) ?_
  refine r_get C h fk_X3_83 0 rfl rfl dX3_nears_8 ?_
  replace hf := bd1_inv hf
  obtain ⟨r2, hc3, hf⟩ := hf
  refine r_ciV0 C h (c_X3_lightAt hc3) mv_X3_97 rfl 1 rfl [1, 5] rfl rfl hl.1 rfl (Nat.le_of_ble_eq_true rfl) (rok (by decide)) dX3_nears_11 (fun H locs h => ?_)
  refine lv_aload_n hx hb dX3_nears_14 rfl (lv_at hl 1 rfl) ?_
  refine r_get C h fk_X3_83 0 rfl rfl dX3_nears_15 ?_
  replace hf := bd1_inv hf
  obtain ⟨r4, hc5, hf⟩ := hf
  refine r_ciN0 C h (c_X8_nearsAlone hc5) mn_X3_101 rfl [] rfl rfl hl.1 rfl (Nat.le_of_ble_eq_true rfl) (rok (by decide)) dX3_nears_18 (fun H locs h => ?_)
  refine lv_aload_n hx hb dX3_nears_21 rfl (lv_at hl 0 rfl) ?_
  refine r_get C h fk_X3_24 1 rfl rfl dX3_nears_22 ?_
  refine lv_aload_n hx hb dX3_nears_25 rfl (lv_at hl 0 rfl) ?_
  refine r_get C h fk_X3_18 1 rfl rfl dX3_nears_26 ?_
  refine lv_iload_n hx hb dX3_nears_29 rfl (lv_at hl 2 rfl) ?_
  replace hf := chkI_inv hf
  obtain ⟨hi6, hf⟩ := hf
  refine r_iald C h 4 rfl hi6 dX3_nears_30 ?_
  replace hf := chkI_inv hf
  obtain ⟨hi7, hf⟩ := hf
  refine r_iald C h 2 rfl hi7 dX3_nears_31 ?_
  refine lv_iadd hx hb dX3_nears_32 ?_
  refine lv_topi (fun t8 et8 => ?_)
  replace hf := lt1_inv et8 hf
  refine lv_istore_n (lv' := [(3, .int t8), (0, .ref h_this), (1, .ref h_a0), (2, .int p1)]) hx hb dX3_nears_33 rfl hl (by decide) rfl (fun ls hl => ?_)
  refine lv_iconst (v := (0 : Int32)) hx hb dX3_nears_34 rfl ?_
  refine lv_istore (lv' := [(4, .int (0 : Int32)), (3, .int t8), (0, .ref h_this), (1, .ref h_a0), (2, .int p1)]) hx hb dX3_nears_35 hl (by decide) rfl (fun ls hl => ?_)
  exact hK2 _ _ _ _ (L37 1000 t8 (0 : Int32) hf) _ _ _ h (lv_sub hl [2, 3, 4, 1, 0] rfl)
def f_X8_reachesAlone (p0 : Int32) (p1 : Int32) (p2 : Int32) : Option (Int32) := lt1 (p2 >>> ((2 : Int32) &&& 31)) (fun (t1 : Int32) => lt1 ((10 : Int32) + ((2 : Int32) * p1)) (fun (t2 : Int32) => (if p0 = (1 : Int32) then some (20 : Int32) else (if p0 = (2 : Int32) then some (t2 + (5 : Int32)) else (if p0 = (3 : Int32) then some (imax (0 : Int32) ((t2 + (5 : Int32)) - ((3 : Int32) * t1))) else (if p0 = (4 : Int32) then some (t2 + ((3 : Int32) * t1)) else (if p0 = (5 : Int32) then some ((t2 + ((3 : Int32) * t1)) / (2 : Int32)) else some t2)))))))
set_option maxRecDepth 100000 in
set_option maxHeartbeats 4000000 in
theorem c_X8_reachesAlone {l : Launch} {G : Gt} {p0 : Int32} {p1 : Int32} {p2 : Int32} {r : Int32} (hf : f_X8_reachesAlone p0 p1 p2 = some r) : mFi l G yX8_reachesAlone cX8_reachesAlone 5 .int 1 [.int p0, .int p1, .int p2] ([] : va_W) r ([] : va_W) := by
  refine mFi.of (by decide +kernel) (Nat.le_of_ble_eq_true rfl) ?_
  intro p e s m below meth c A C hr hlk h ls hl
  obtain ⟨hx, hb, hml, hown, hts⟩ := id C
  replace hl : lv_has ls 5 [(0, .int p0), (1, .int p1), (2, .int p2)] := hl
  unfold f_X8_reachesAlone at hf
  refine lv_iload_n hx hb dX8_reachesAlone_0 rfl (lv_at hl 2 rfl) ?_
  refine lv_iconst (v := (2 : Int32)) hx hb dX8_reachesAlone_1 rfl ?_
  refine lv_ishr hx hb dX8_reachesAlone_2 ?_
  refine lv_topi (fun t1 et1 => ?_)
  replace hf := lt1_inv et1 hf
  refine lv_istore_n (lv' := [(3, .int t1), (0, .int p0), (1, .int p1), (2, .int p2)]) hx hb dX8_reachesAlone_3 rfl hl (by decide) rfl (fun ls hl => ?_)
  refine lv_bipush (v := (10 : Int32)) hx hb dX8_reachesAlone_4 rfl ?_
  refine lv_iconst (v := (2 : Int32)) hx hb dX8_reachesAlone_6 rfl ?_
  refine lv_iload_n hx hb dX8_reachesAlone_7 rfl (lv_at hl 2 rfl) ?_
  refine lv_imul hx hb dX8_reachesAlone_8 ?_
  refine lv_iadd hx hb dX8_reachesAlone_9 ?_
  refine lv_topi (fun t2 et2 => ?_)
  replace hf := lt1_inv et2 hf
  refine lv_istore (lv' := [(4, .int t2), (3, .int t1), (0, .int p0), (1, .int p1), (2, .int p2)]) hx hb dX8_reachesAlone_10 hl (by decide) rfl (fun ls hl => ?_)
  refine lv_iload_n hx hb dX8_reachesAlone_12 rfl (lv_at hl 2 rfl) ?_
  by_cases c3 : p0 = (1 : Int32)
  · replace hf := ifp c3 hf
    refine r_tab (tgt := 48) C dX8_reachesAlone_13 (1 : Int32) c3 (by decide) rfl rfl ?_
    refine lv_bipush (v := (20 : Int32)) hx hb dX8_reachesAlone_48 rfl ?_
    cases hf
    exact r_iret C h hr hlk rfl dX8_reachesAlone_50
  · replace hf := ifn c3 hf
    by_cases c4 : p0 = (2 : Int32)
    · replace hf := ifp c4 hf
      refine r_tab (tgt := 51) C dX8_reachesAlone_13 (2 : Int32) c4 (by decide) rfl rfl ?_
      refine lv_iload hx hb dX8_reachesAlone_51 (lv_at hl 0 rfl) ?_
      refine lv_iconst (v := (5 : Int32)) hx hb dX8_reachesAlone_53 rfl ?_
      refine lv_iadd hx hb dX8_reachesAlone_54 ?_
      cases hf
      exact r_iret C h hr hlk rfl dX8_reachesAlone_55
    · replace hf := ifn c4 hf
      by_cases c5 : p0 = (3 : Int32)
      · replace hf := ifp c5 hf
        refine r_tab (tgt := 56) C dX8_reachesAlone_13 (3 : Int32) c5 (by decide) rfl rfl ?_
        refine lv_iconst (v := (0 : Int32)) hx hb dX8_reachesAlone_56 rfl ?_
        refine lv_iload hx hb dX8_reachesAlone_57 (lv_at hl 0 rfl) ?_
        refine lv_iconst (v := (5 : Int32)) hx hb dX8_reachesAlone_59 rfl ?_
        refine lv_iadd hx hb dX8_reachesAlone_60 ?_
        refine lv_iconst (v := (3 : Int32)) hx hb dX8_reachesAlone_61 rfl ?_
        refine lv_iload_n hx hb dX8_reachesAlone_62 rfl (lv_at hl 1 rfl) ?_
        refine lv_imul hx hb dX8_reachesAlone_63 ?_
        refine lv_isub hx hb dX8_reachesAlone_64 ?_
        refine r_imax C mx_X8_378 hl.1 (Nat.le_of_ble_eq_true rfl) (Nat.le_of_ble_eq_true rfl) dX8_reachesAlone_65 ?_
        cases hf
        exact r_iret C h hr hlk rfl dX8_reachesAlone_68
      · replace hf := ifn c5 hf
        by_cases c6 : p0 = (4 : Int32)
        · replace hf := ifp c6 hf
          refine r_tab (tgt := 69) C dX8_reachesAlone_13 (4 : Int32) c6 (by decide) rfl rfl ?_
          refine lv_iload hx hb dX8_reachesAlone_69 (lv_at hl 0 rfl) ?_
          refine lv_iconst (v := (3 : Int32)) hx hb dX8_reachesAlone_71 rfl ?_
          refine lv_iload_n hx hb dX8_reachesAlone_72 rfl (lv_at hl 1 rfl) ?_
          refine lv_imul hx hb dX8_reachesAlone_73 ?_
          refine lv_iadd hx hb dX8_reachesAlone_74 ?_
          cases hf
          exact r_iret C h hr hlk rfl dX8_reachesAlone_75
        · replace hf := ifn c6 hf
          by_cases c7 : p0 = (5 : Int32)
          · replace hf := ifp c7 hf
            refine r_tab (tgt := 76) C dX8_reachesAlone_13 (5 : Int32) c7 (by decide) rfl rfl ?_
            refine lv_iload hx hb dX8_reachesAlone_76 (lv_at hl 0 rfl) ?_
            refine lv_iconst (v := (3 : Int32)) hx hb dX8_reachesAlone_78 rfl ?_
            refine lv_iload_n hx hb dX8_reachesAlone_79 rfl (lv_at hl 1 rfl) ?_
            refine lv_imul hx hb dX8_reachesAlone_80 ?_
            refine lv_iadd hx hb dX8_reachesAlone_81 ?_
            refine lv_iconst (v := (2 : Int32)) hx hb dX8_reachesAlone_82 rfl ?_
            refine lv_idiv hx hb dX8_reachesAlone_83 (by decide) ?_
            cases hf
            exact r_iret C h hr hlk rfl dX8_reachesAlone_84
          · replace hf := ifn c7 hf
            refine r_tabD (tgt := 85) C dX8_reachesAlone_13 [(1 : Int32), (2 : Int32), (3 : Int32), (4 : Int32), (5 : Int32)] (by decide) (nel_c c3 (nel_c c4 (nel_c c5 (nel_c c6 (nel_c c7 nel_0))))) rfl ?_
            refine lv_iload hx hb dX8_reachesAlone_85 (lv_at hl 0 rfl) ?_
            cases hf
            exact r_iret C h hr hlk rfl dX8_reachesAlone_87
def f_X3_reaches (p1 : Int32) (p2 : Int32) (x_a0_watch : Int32) (f_this_buoys : Nat → Int32) (f_this_kinds : Nat → Int32) (f_this_lanes : Nat → Int32) (f_this_lights : Nat → Int32) : Option (Int32) := chkI p1 6 (bd1 (f_X3_lightAt x_a0_watch f_this_lights) (fun r2 => bd1 (f_X8_reachesAlone (f_this_kinds p1.toNatClampNeg) p2 r2) (fun r4 => chkI p1 6 (chkI (f_this_lanes p1.toNatClampNeg) 6 (some (r4 + (f_this_buoys (f_this_lanes p1.toNatClampNeg).toNatClampNeg)))))))
set_option maxRecDepth 100000 in
set_option maxHeartbeats 4000000 in
theorem c_X3_reaches {l : Launch} {G : Gt} {h_a0 h_a0_off h_this h_this_kinds h_this_trims h_this_lanes h_this_lights h_this_currents h_this_buoys h_this_now h_this_rules h_this_reports : Nat} {p1 : Int32} {p2 : Int32} {x_a0_watch : Int32} {x_a0_score : Int32} {x_a0_home : Int32} {x_this_count : Int32} {x_this_end : Int32} {x_this_z : Int32} {f_this_buoys : Nat → Int32} {f_this_kinds : Nat → Int32} {f_this_lanes : Nat → Int32} {f_this_lights : Nat → Int32} {r : Int32} (hf : f_X3_reaches p1 p2 x_a0_watch f_this_buoys f_this_kinds f_this_lanes f_this_lights = some r) : mFi l G yX3_reaches cX3_reaches 4 .int 2 [.ref h_this, .ref h_a0, .int p1, .int p2] [(h_a0, ob 6 [.ref h_a0_off, .int x_a0_watch, .int x_a0_score, .int x_a0_home]), (h_this, ob 3 [.ref h_this_kinds, .ref h_this_trims, .ref h_this_lanes, .ref h_this_lights, .ref h_this_currents, .ref h_this_buoys, .ref h_this_now, .ref h_this_rules, .ref h_this_reports, .int x_this_count, .int x_this_end, .int x_this_z]), (h_this_buoys, ia G 6 f_this_buoys), (h_this_kinds, ia G 6 f_this_kinds), (h_this_lanes, ia G 6 f_this_lanes), (h_this_lights, ia G 16 f_this_lights)] r [(h_a0, ob 6 [.ref h_a0_off, .int x_a0_watch, .int x_a0_score, .int x_a0_home]), (h_this, ob 3 [.ref h_this_kinds, .ref h_this_trims, .ref h_this_lanes, .ref h_this_lights, .ref h_this_currents, .ref h_this_buoys, .ref h_this_now, .ref h_this_rules, .ref h_this_reports, .int x_this_count, .int x_this_end, .int x_this_z]), (h_this_buoys, ia G 6 f_this_buoys), (h_this_kinds, ia G 6 f_this_kinds), (h_this_lanes, ia G 6 f_this_lanes), (h_this_lights, ia G 16 f_this_lights)] := by
  refine mFi.of (by decide +kernel) (Nat.le_of_ble_eq_true rfl) ?_
  intro p e s m below meth c A C hr hlk h ls hl
  obtain ⟨hx, hb, hml, hown, hts⟩ := id C
  replace hl : lv_has ls 4 [(0, .ref h_this), (1, .ref h_a0), (2, .int p1), (3, .int p2)] := hl
  unfold f_X3_reaches at hf
  refine lv_aload_n hx hb dX3_reaches_0 rfl (lv_at hl 0 rfl) ?_
  refine r_get C h fk_X3_9 1 rfl rfl dX3_reaches_1 ?_
  refine lv_iload_n hx hb dX3_reaches_4 rfl (lv_at hl 2 rfl) ?_
  replace hf := chkI_inv hf
  obtain ⟨hi1, hf⟩ := hf
  refine r_iald C h 3 rfl hi1 dX3_reaches_5 ?_
  refine lv_iload_n hx hb dX3_reaches_6 rfl (lv_at hl 3 rfl) ?_
  refine lv_aload_n hx hb dX3_reaches_7 rfl (lv_at hl 0 rfl) ?_
  refine lv_aload_n hx hb dX3_reaches_8 rfl (lv_at hl 1 rfl) ?_
  refine r_get C h fk_X3_83 0 rfl rfl dX3_reaches_9 ?_
  replace hf := bd1_inv hf
  obtain ⟨r2, hc3, hf⟩ := hf
  refine r_ciV0 C h (c_X3_lightAt hc3) mv_X3_97 rfl 1 rfl [1, 5] rfl rfl hl.1 rfl (Nat.le_of_ble_eq_true rfl) (rok (by decide)) dX3_reaches_12 (fun H locs h => ?_)
  replace hf := bd1_inv hf
  obtain ⟨r4, hc5, hf⟩ := hf
  refine r_ciN0 C h (c_X8_reachesAlone hc5) mn_X3_113 rfl [] rfl rfl hl.1 rfl (Nat.le_of_ble_eq_true rfl) (rok (by decide)) dX3_reaches_15 (fun H locs h => ?_)
  refine lv_aload_n hx hb dX3_reaches_18 rfl (lv_at hl 0 rfl) ?_
  refine r_get C h fk_X3_27 1 rfl rfl dX3_reaches_19 ?_
  refine lv_aload_n hx hb dX3_reaches_22 rfl (lv_at hl 0 rfl) ?_
  refine r_get C h fk_X3_18 1 rfl rfl dX3_reaches_23 ?_
  refine lv_iload_n hx hb dX3_reaches_26 rfl (lv_at hl 2 rfl) ?_
  replace hf := chkI_inv hf
  obtain ⟨hi6, hf⟩ := hf
  refine r_iald C h 4 rfl hi6 dX3_reaches_27 ?_
  replace hf := chkI_inv hf
  obtain ⟨hi7, hf⟩ := hf
  refine r_iald C h 2 rfl hi7 dX3_reaches_28 ?_
  refine lv_iadd hx hb dX3_reaches_29 ?_
  cases hf
  exact r_iret C h hr hlk rfl dX3_reaches_30
def f_X3_inReach (p1 : Int32) (p2 : Int32) (x_a0_watch : Int32) (x_a0_home : Int32) (f_a0_off : Nat → Int32) (f_this_buoys : Nat → Int32) (f_this_kinds : Nat → Int32) (f_this_lanes : Nat → Int32) (f_this_lights : Nat → Int32) : Option (Int32) := bd1 (f_X6_isHome p1 x_a0_home) (fun r1 => (if r1 = 0 then chkI p1 6 ((if (f_a0_off p1.toNatClampNeg) = 0 then some (0 : Int32) else chkI p1 6 (chkI p1 6 (bd1 (f_X3_lightAt x_a0_watch f_this_lights) (fun r8 => bd1 (f_X8_reachesAlone (f_this_kinds p1.toNatClampNeg) p2 r8) (fun r10 => chkI p1 6 (chkI (f_this_lanes p1.toNatClampNeg) 6 ((if (r10 + (f_this_buoys (f_this_lanes p1.toNatClampNeg).toNatClampNeg)) < (f_a0_off p1.toNatClampNeg) then some (0 : Int32) else some (1 : Int32)))))))))) else some (0 : Int32)))
set_option maxRecDepth 100000 in
set_option maxHeartbeats 4000000 in
theorem c_X3_inReach {l : Launch} {G : Gt} {h_a0 h_a0_off h_this h_this_kinds h_this_trims h_this_lanes h_this_lights h_this_currents h_this_buoys h_this_now h_this_rules h_this_reports : Nat} {p1 : Int32} {p2 : Int32} {x_a0_watch : Int32} {x_a0_score : Int32} {x_a0_home : Int32} {f_a0_off : Nat → Int32} {x_this_count : Int32} {x_this_end : Int32} {x_this_z : Int32} {f_this_buoys : Nat → Int32} {f_this_kinds : Nat → Int32} {f_this_lanes : Nat → Int32} {f_this_lights : Nat → Int32} {r : Int32} (hf : f_X3_inReach p1 p2 x_a0_watch x_a0_home f_a0_off f_this_buoys f_this_kinds f_this_lanes f_this_lights = some r) : mFi l G yX3_inReach cX3_inReach 4 .boolean 2 [.ref h_this, .ref h_a0, .int p1, .int p2] [(h_a0, ob 6 [.ref h_a0_off, .int x_a0_watch, .int x_a0_score, .int x_a0_home]), (h_a0_off, ia G 6 f_a0_off), (h_this, ob 3 [.ref h_this_kinds, .ref h_this_trims, .ref h_this_lanes, .ref h_this_lights, .ref h_this_currents, .ref h_this_buoys, .ref h_this_now, .ref h_this_rules, .ref h_this_reports, .int x_this_count, .int x_this_end, .int x_this_z]), (h_this_buoys, ia G 6 f_this_buoys), (h_this_kinds, ia G 6 f_this_kinds), (h_this_lanes, ia G 6 f_this_lanes), (h_this_lights, ia G 16 f_this_lights)] r [(h_a0, ob 6 [.ref h_a0_off, .int x_a0_watch, .int x_a0_score, .int x_a0_home]), (h_a0_off, ia G 6 f_a0_off), (h_this, ob 3 [.ref h_this_kinds, .ref h_this_trims, .ref h_this_lanes, .ref h_this_lights, .ref h_this_currents, .ref h_this_buoys, .ref h_this_now, .ref h_this_rules, .ref h_this_reports, .int x_this_count, .int x_this_end, .int x_this_z]), (h_this_buoys, ia G 6 f_this_buoys), (h_this_kinds, ia G 6 f_this_kinds), (h_this_lanes, ia G 6 f_this_lanes), (h_this_lights, ia G 16 f_this_lights)] := by
  refine mFi.of (by decide +kernel) (Nat.le_of_ble_eq_true rfl) ?_
  intro p e s m below meth c A C hr hlk h ls hl
  obtain ⟨hx, hb, hml, hown, hts⟩ := id C
  replace hl : lv_has ls 4 [(0, .ref h_this), (1, .ref h_a0), (2, .int p1), (3, .int p2)] := hl
  unfold f_X3_inReach at hf
  refine lv_aload_n hx hb dX3_inReach_0 rfl (lv_at hl 1 rfl) ?_
  refine lv_iload_n hx hb dX3_inReach_1 rfl (lv_at hl 2 rfl) ?_
  replace hf := bd1_inv hf
  obtain ⟨r1, hc2, hf⟩ := hf
  refine r_ciV0 C h (c_X6_isHome hc2) mv_X3_105 rfl 0 rfl [0] rfl rfl hl.1 rfl (Nat.le_of_ble_eq_true rfl) (rok (by decide)) dX3_inReach_2 (fun H locs h => ?_)
  refine lv_if_ne (tgt := 17) hx hb dX3_inReach_5 rfl (fun c3 => ?_) (fun c3 => ?_)
  · replace hf := ifn c3 hf
    refine lv_iconst (v := (0 : Int32)) hx hb dX3_inReach_17 rfl ?_
    cases hf
    exact r_iret C h hr hlk rfl dX3_inReach_18
  · replace hf := ifp c3 hf
    refine lv_aload_n hx hb dX3_inReach_8 rfl (lv_at hl 1 rfl) ?_
    refine r_get C h fk_X3_86 0 rfl rfl dX3_inReach_9 ?_
    refine lv_iload_n hx hb dX3_inReach_12 rfl (lv_at hl 2 rfl) ?_
    replace hf := chkI_inv hf
    obtain ⟨hi4, hf⟩ := hf
    refine r_iald C h 1 rfl hi4 dX3_inReach_13 ?_
    refine lv_if_ne (tgt := 19) hx hb dX3_inReach_14 rfl (fun c5 => ?_) (fun c5 => ?_)
    · replace hf := ifn c5 hf
      refine lv_aload_n hx hb dX3_inReach_19 rfl (lv_at hl 1 rfl) ?_
      refine r_get C h fk_X3_86 0 rfl rfl dX3_inReach_20 ?_
      refine lv_iload_n hx hb dX3_inReach_23 rfl (lv_at hl 2 rfl) ?_
      replace hf := chkI_inv hf
      obtain ⟨hi6, hf⟩ := hf
      refine r_iald C h 1 rfl hi6 dX3_inReach_24 ?_
      refine lv_aload_n hx hb dX3_inReach_25 rfl (lv_at hl 0 rfl) ?_
      refine r_get C h fk_X3_9 2 rfl rfl dX3_inReach_26 ?_
      refine lv_iload_n hx hb dX3_inReach_29 rfl (lv_at hl 2 rfl) ?_
      replace hf := chkI_inv hf
      obtain ⟨hi7, hf⟩ := hf
      refine r_iald C h 4 rfl hi7 dX3_inReach_30 ?_
      refine lv_iload_n hx hb dX3_inReach_31 rfl (lv_at hl 3 rfl) ?_
      refine lv_aload_n hx hb dX3_inReach_32 rfl (lv_at hl 0 rfl) ?_
      refine lv_aload_n hx hb dX3_inReach_33 rfl (lv_at hl 1 rfl) ?_
      refine r_get C h fk_X3_83 0 rfl rfl dX3_inReach_34 ?_
      replace hf := bd1_inv hf
      obtain ⟨r8, hc9, hf⟩ := hf
      refine r_ciV0 C h (c_X3_lightAt hc9) mv_X3_97 rfl 2 rfl [2, 6] rfl rfl hl.1 rfl (Nat.le_of_ble_eq_true rfl) (rok (by decide)) dX3_inReach_37 (fun H locs h => ?_)
      replace hf := bd1_inv hf
      obtain ⟨r10, hc11, hf⟩ := hf
      refine r_ciN0 C h (c_X8_reachesAlone hc11) mn_X3_113 rfl [] rfl rfl hl.1 rfl (Nat.le_of_ble_eq_true rfl) (rok (by decide)) dX3_inReach_40 (fun H locs h => ?_)
      refine lv_aload_n hx hb dX3_inReach_43 rfl (lv_at hl 0 rfl) ?_
      refine r_get C h fk_X3_27 2 rfl rfl dX3_inReach_44 ?_
      refine lv_aload_n hx hb dX3_inReach_47 rfl (lv_at hl 0 rfl) ?_
      refine r_get C h fk_X3_18 2 rfl rfl dX3_inReach_48 ?_
      refine lv_iload_n hx hb dX3_inReach_51 rfl (lv_at hl 2 rfl) ?_
      replace hf := chkI_inv hf
      obtain ⟨hi12, hf⟩ := hf
      refine r_iald C h 5 rfl hi12 dX3_inReach_52 ?_
      replace hf := chkI_inv hf
      obtain ⟨hi13, hf⟩ := hf
      refine r_iald C h 3 rfl hi13 dX3_inReach_53 ?_
      refine lv_iadd hx hb dX3_inReach_54 ?_
      refine lv_icmp_gt (tgt := 62) hx hb dX3_inReach_55 rfl (fun c14 => ?_) (fun c14 => ?_)
      · replace hf := ifp c14 hf
        refine lv_iconst (v := (0 : Int32)) hx hb dX3_inReach_62 rfl ?_
        cases hf
        exact r_iret C h hr hlk rfl dX3_inReach_63
      · replace hf := ifn c14 hf
        refine lv_iconst (v := (1 : Int32)) hx hb dX3_inReach_58 rfl ?_
        refine lv_goto (tgt := 63) hx hb dX3_inReach_59 rfl ?_
        cases hf
        exact r_iret C h hr hlk rfl dX3_inReach_63
    · replace hf := ifp c5 hf
      refine lv_iconst (v := (0 : Int32)) hx hb dX3_inReach_17 rfl ?_
      cases hf
      exact r_iret C h hr hlk rfl dX3_inReach_18
def f_X3_pays (p1 : Int32) (x_a0_watch : Int32) (x_a0_home : Int32) (f_a0_off : Nat → Int32) (f_this_buoys : Nat → Int32) (f_this_kinds : Nat → Int32) (f_this_lanes : Nat → Int32) (f_this_lights : Nat → Int32) (f_this_trims : Nat → Int32) : Option (Int32) := chkI p1 6 (bd1 (f_X3_inReach p1 (f_this_trims p1.toNatClampNeg) x_a0_watch x_a0_home f_a0_off f_this_buoys f_this_kinds f_this_lanes f_this_lights) (fun r2 => (if r2 = 0 then some (0 : Int32) else chkI p1 6 (some ((6 : Int32) + (f_this_trims p1.toNatClampNeg))))))
set_option maxRecDepth 100000 in
set_option maxHeartbeats 4000000 in
theorem c_X3_pays {l : Launch} {G : Gt} {h_a0 h_a0_off h_this h_this_kinds h_this_trims h_this_lanes h_this_lights h_this_currents h_this_buoys h_this_now h_this_rules h_this_reports : Nat} {p1 : Int32} {x_a0_watch : Int32} {x_a0_score : Int32} {x_a0_home : Int32} {f_a0_off : Nat → Int32} {x_this_count : Int32} {x_this_end : Int32} {x_this_z : Int32} {f_this_buoys : Nat → Int32} {f_this_kinds : Nat → Int32} {f_this_lanes : Nat → Int32} {f_this_lights : Nat → Int32} {f_this_trims : Nat → Int32} {r : Int32} (hf : f_X3_pays p1 x_a0_watch x_a0_home f_a0_off f_this_buoys f_this_kinds f_this_lanes f_this_lights f_this_trims = some r) : mFi l G yX3_pays cX3_pays 3 .int 3 [.ref h_this, .ref h_a0, .int p1] [(h_a0, ob 6 [.ref h_a0_off, .int x_a0_watch, .int x_a0_score, .int x_a0_home]), (h_a0_off, ia G 6 f_a0_off), (h_this, ob 3 [.ref h_this_kinds, .ref h_this_trims, .ref h_this_lanes, .ref h_this_lights, .ref h_this_currents, .ref h_this_buoys, .ref h_this_now, .ref h_this_rules, .ref h_this_reports, .int x_this_count, .int x_this_end, .int x_this_z]), (h_this_buoys, ia G 6 f_this_buoys), (h_this_kinds, ia G 6 f_this_kinds), (h_this_lanes, ia G 6 f_this_lanes), (h_this_lights, ia G 16 f_this_lights), (h_this_trims, ia G 6 f_this_trims)] r [(h_a0, ob 6 [.ref h_a0_off, .int x_a0_watch, .int x_a0_score, .int x_a0_home]), (h_a0_off, ia G 6 f_a0_off), (h_this, ob 3 [.ref h_this_kinds, .ref h_this_trims, .ref h_this_lanes, .ref h_this_lights, .ref h_this_currents, .ref h_this_buoys, .ref h_this_now, .ref h_this_rules, .ref h_this_reports, .int x_this_count, .int x_this_end, .int x_this_z]), (h_this_buoys, ia G 6 f_this_buoys), (h_this_kinds, ia G 6 f_this_kinds), (h_this_lanes, ia G 6 f_this_lanes), (h_this_lights, ia G 16 f_this_lights), (h_this_trims, ia G 6 f_this_trims)] := by
  refine mFi.of (by decide +kernel) (Nat.le_of_ble_eq_true rfl) ?_
  intro p e s m below meth c A C hr hlk h ls hl
  obtain ⟨hx, hb, hml, hown, hts⟩ := id C
  replace hl : lv_has ls 3 [(0, .ref h_this), (1, .ref h_a0), (2, .int p1)] := hl
  unfold f_X3_pays at hf
  refine lv_aload_n hx hb dX3_pays_0 rfl (lv_at hl 0 rfl) ?_
  refine lv_aload_n hx hb dX3_pays_1 rfl (lv_at hl 1 rfl) ?_
  refine lv_iload_n hx hb dX3_pays_2 rfl (lv_at hl 2 rfl) ?_
  refine lv_aload_n hx hb dX3_pays_3 rfl (lv_at hl 0 rfl) ?_
  refine r_get C h fk_X3_15 2 rfl rfl dX3_pays_4 ?_
  refine lv_iload_n hx hb dX3_pays_7 rfl (lv_at hl 2 rfl) ?_
  replace hf := chkI_inv hf
  obtain ⟨hi1, hf⟩ := hf
  refine r_iald C h 7 rfl hi1 dX3_pays_8 ?_
  replace hf := bd1_inv hf
  obtain ⟨r2, hc3, hf⟩ := hf
  refine r_ciV0 C h (c_X3_inReach hc3) mv_X3_116 rfl 2 rfl [0, 1, 2, 3, 4, 5, 6] rfl rfl hl.1 rfl (Nat.le_of_ble_eq_true rfl) (rok (by decide)) dX3_pays_9 (fun H locs h => ?_)
  refine lv_if_eq (tgt := 27) hx hb dX3_pays_12 rfl (fun c4 => ?_) (fun c4 => ?_)
  · replace hf := ifp c4 hf
    refine lv_iconst (v := (0 : Int32)) hx hb dX3_pays_27 rfl ?_
    cases hf
    exact r_iret C h hr hlk rfl dX3_pays_28
  · replace hf := ifn c4 hf
    refine lv_bipush (v := (6 : Int32)) hx hb dX3_pays_15 rfl ?_
    refine lv_aload_n hx hb dX3_pays_17 rfl (lv_at hl 0 rfl) ?_
    refine r_get C h fk_X3_15 2 rfl rfl dX3_pays_18 ?_
    refine lv_iload_n hx hb dX3_pays_21 rfl (lv_at hl 2 rfl) ?_
    replace hf := chkI_inv hf
    obtain ⟨hi5, hf⟩ := hf
    refine r_iald C h 7 rfl hi5 dX3_pays_22 ?_
    refine lv_iadd hx hb dX3_pays_23 ?_
    refine lv_goto (tgt := 28) hx hb dX3_pays_24 rfl ?_
    cases hf
    exact r_iret C h hr hlk rfl dX3_pays_28
def f_X5_learn (p0 : Int32) (p1 : Int32) (p2 : Int32) (p3 : Int32) (p4 : Int32) (f_this_facts : Nat → Int32) : Option ((Nat → Int32)) := some (upd (upd (upd (upd (upd f_this_facts 0 p0) 1 p1) 2 p2) 3 p3) 4 p4)
set_option maxRecDepth 100000 in
set_option maxHeartbeats 4000000 in
theorem c_X5_learn {l : Launch} {G : Gt} {h_this h_this_kinds h_this_deeds h_this_begins h_this_steps h_this_lefts h_this_rights h_this_facts : Nat} {p0 : Int32} {p1 : Int32} {p2 : Int32} {p3 : Int32} {p4 : Int32} {x_this_count : Int32} {x_this_size : Int32} {f_this_facts : Nat → Int32} {m_this_facts : Nat → Int32} (hf : f_X5_learn p0 p1 p2 p3 p4 f_this_facts = some m_this_facts) : mFv l G yX5_learn cX5_learn 6 0 [.ref h_this, .int p0, .int p1, .int p2, .int p3, .int p4] [(h_this, ob 5 [.ref h_this_kinds, .ref h_this_deeds, .ref h_this_begins, .ref h_this_steps, .ref h_this_lefts, .ref h_this_rights, .ref h_this_facts, .int x_this_count, .int x_this_size]), (h_this_facts, ia G 5 f_this_facts)] [(h_this, ob 5 [.ref h_this_kinds, .ref h_this_deeds, .ref h_this_begins, .ref h_this_steps, .ref h_this_lefts, .ref h_this_rights, .ref h_this_facts, .int x_this_count, .int x_this_size]), (h_this_facts, ia G 5 m_this_facts)] := by
  refine mFv.of (by decide +kernel) (Nat.le_of_ble_eq_true rfl) ?_
  intro p e s m below meth c A C hr hlk h ls hl
  obtain ⟨hx, hb, hml, hown, hts⟩ := id C
  replace hl : lv_has ls 6 [(0, .ref h_this), (1, .int p0), (2, .int p1), (3, .int p2), (4, .int p3), (5, .int p4)] := hl
  unfold f_X5_learn at hf
  refine lv_aload_n hx hb dX5_learn_0 rfl (lv_at hl 0 rfl) ?_
  refine r_get C h fk_X5_30 0 rfl rfl dX5_learn_1 ?_
  refine lv_iconst (v := (0 : Int32)) hx hb dX5_learn_4 rfl ?_
  refine lv_iload_n hx hb dX5_learn_5 rfl (lv_at hl 1 rfl) ?_
  refine r_iastL (ws' := [(h_this, ob 5 [.ref h_this_kinds, .ref h_this_deeds, .ref h_this_begins, .ref h_this_steps, .ref h_this_lefts, .ref h_this_rights, .ref h_this_facts, .int x_this_count, .int x_this_size]), (h_this_facts, ia G 5 (upd f_this_facts 0 p0))]) C h 1 rfl (vlit rfl) 0 rfl dX5_learn_6 rfl (fun H locs h => ?_)
  refine lv_aload_n hx hb dX5_learn_7 rfl (lv_at hl 0 rfl) ?_
  refine r_get C h fk_X5_30 0 rfl rfl dX5_learn_8 ?_
  refine lv_iconst (v := (1 : Int32)) hx hb dX5_learn_11 rfl ?_
  refine lv_iload_n hx hb dX5_learn_12 rfl (lv_at hl 2 rfl) ?_
  refine r_iastL (ws' := [(h_this, ob 5 [.ref h_this_kinds, .ref h_this_deeds, .ref h_this_begins, .ref h_this_steps, .ref h_this_lefts, .ref h_this_rights, .ref h_this_facts, .int x_this_count, .int x_this_size]), (h_this_facts, ia G 5 (upd (upd f_this_facts 0 p0) 1 p1))]) C h 1 rfl (vlit rfl) 1 rfl dX5_learn_13 rfl (fun H locs h => ?_)
  refine lv_aload_n hx hb dX5_learn_14 rfl (lv_at hl 0 rfl) ?_
  refine r_get C h fk_X5_30 0 rfl rfl dX5_learn_15 ?_
  refine lv_iconst (v := (2 : Int32)) hx hb dX5_learn_18 rfl ?_
  refine lv_iload_n hx hb dX5_learn_19 rfl (lv_at hl 3 rfl) ?_
  refine r_iastL (ws' := [(h_this, ob 5 [.ref h_this_kinds, .ref h_this_deeds, .ref h_this_begins, .ref h_this_steps, .ref h_this_lefts, .ref h_this_rights, .ref h_this_facts, .int x_this_count, .int x_this_size]), (h_this_facts, ia G 5 (upd (upd (upd f_this_facts 0 p0) 1 p1) 2 p2))]) C h 1 rfl (vlit rfl) 2 rfl dX5_learn_20 rfl (fun H locs h => ?_)
  refine lv_aload_n hx hb dX5_learn_21 rfl (lv_at hl 0 rfl) ?_
  refine r_get C h fk_X5_30 0 rfl rfl dX5_learn_22 ?_
  refine lv_iconst (v := (3 : Int32)) hx hb dX5_learn_25 rfl ?_
  refine lv_iload hx hb dX5_learn_26 (lv_at hl 4 rfl) ?_
  refine r_iastL (ws' := [(h_this, ob 5 [.ref h_this_kinds, .ref h_this_deeds, .ref h_this_begins, .ref h_this_steps, .ref h_this_lefts, .ref h_this_rights, .ref h_this_facts, .int x_this_count, .int x_this_size]), (h_this_facts, ia G 5 (upd (upd (upd (upd f_this_facts 0 p0) 1 p1) 2 p2) 3 p3))]) C h 1 rfl (vlit rfl) 3 rfl dX5_learn_28 rfl (fun H locs h => ?_)
  refine lv_aload_n hx hb dX5_learn_29 rfl (lv_at hl 0 rfl) ?_
  refine r_get C h fk_X5_30 0 rfl rfl dX5_learn_30 ?_
  refine lv_iconst (v := (4 : Int32)) hx hb dX5_learn_33 rfl ?_
  refine lv_iload hx hb dX5_learn_34 (lv_at hl 5 rfl) ?_
  refine r_iastL (ws' := [(h_this, ob 5 [.ref h_this_kinds, .ref h_this_deeds, .ref h_this_begins, .ref h_this_steps, .ref h_this_lefts, .ref h_this_rights, .ref h_this_facts, .int x_this_count, .int x_this_size]), (h_this_facts, ia G 5 (upd (upd (upd (upd (upd f_this_facts 0 p0) 1 p1) 2 p2) 3 p3) 4 p4))]) C h 1 rfl (vlit rfl) 4 rfl dX5_learn_36 rfl (fun H locs h => ?_)
  cases hf
  exact r_vret C h hr hlk dX5_learn_37
def f_X8_isOrUnder (p0 : Int32) (p1 : Int32) : Option (Int32) := chkI p0 6 ((if (((tb_SA p0.toNatClampNeg) >>> (p1 &&& 31)) &&& (1 : Int32)) = (1 : Int32) then some (1 : Int32) else some (0 : Int32)))
set_option maxRecDepth 100000 in
set_option maxHeartbeats 4000000 in
theorem c_X8_isOrUnder {l : Launch} {G : Gt} {p0 : Int32} {p1 : Int32} {r : Int32} (hf : f_X8_isOrUnder p0 p1 = some r) : mFi l G yX8_isOrUnder cX8_isOrUnder 2 .boolean 0 [.int p0, .int p1] ([] : va_W) r ([] : va_W) := by
  refine mFi.of (by decide +kernel) (Nat.le_of_ble_eq_true rfl) ?_
  intro p e s m below meth c A C hr hlk h ls hl
  obtain ⟨hx, hb, hml, hown, hts⟩ := id C
  replace hl : lv_has ls 2 [(0, .int p0), (1, .int p1)] := hl
  unfold f_X8_isOrUnder at hf
  refine r_getSA C h sw_X8_375 dX8_isOrUnder_0 (fun aS hSA => ?_)
  refine lv_iload_n hx hb dX8_isOrUnder_3 rfl (lv_at hl 0 rfl) ?_
  replace hf := chkI_inv hf
  obtain ⟨hi1, hf⟩ := hf
  refine r_ldSA C h hSA hi1 dX8_isOrUnder_4 ?_
  refine lv_iload_n hx hb dX8_isOrUnder_5 rfl (lv_at hl 1 rfl) ?_
  refine lv_ishr hx hb dX8_isOrUnder_6 ?_
  refine lv_iconst (v := (1 : Int32)) hx hb dX8_isOrUnder_7 rfl ?_
  refine lv_iand hx hb dX8_isOrUnder_8 ?_
  refine lv_iconst (v := (1 : Int32)) hx hb dX8_isOrUnder_9 rfl ?_
  refine lv_icmp_ne (tgt := 17) hx hb dX8_isOrUnder_10 rfl (fun c2 => ?_) (fun c2 => ?_)
  · replace hf := ifn c2 hf
    refine lv_iconst (v := (0 : Int32)) hx hb dX8_isOrUnder_17 rfl ?_
    cases hf
    exact r_iret C h hr hlk rfl dX8_isOrUnder_18
  · replace hf := ifp c2 hf
    refine lv_iconst (v := (1 : Int32)) hx hb dX8_isOrUnder_13 rfl ?_
    refine lv_goto (tgt := 18) hx hb dX8_isOrUnder_14 rfl ?_
    cases hf
    exact r_iret C h hr hlk rfl dX8_isOrUnder_18
def f_X5_holds_b253 (v2 : Int32) : Option (Int32) := (if (v2 &&& (1 : Int32)) = (1 : Int32) then some (1 : Int32) else some (0 : Int32))
def f_X5_holds_b116 (rec30 : Int32 → Int32 → Option (Int32)) (f_this_steps : Nat → Int32) (v2 : Int32) (v3 : Int32) (v4 : Int32) (s0 : Int32) : Option (Int32) := chkI v3 200 ((if (f_this_steps v3.toNatClampNeg) = (1 : Int32) then lt1 ((v2 >>> ((1 : Int32) &&& 31)) ||| (v2 &&& (1 : Int32))) (fun (t23 : Int32) => lt1 (v3 + (1 : Int32)) (fun (t24 : Int32) => rec30 t23 t24)) else (if (f_this_steps v3.toNatClampNeg) = (2 : Int32) then lt1 ((v2 >>> ((1 : Int32) &&& 31)) &&& (v2 ||| (-2 : Int32))) (fun (t25 : Int32) => lt1 (v3 + (1 : Int32)) (fun (t26 : Int32) => rec30 t25 t26)) else (if (f_this_steps v3.toNatClampNeg) = (3 : Int32) then lt1 (v2 ^^^ (1 : Int32)) (fun (t27 : Int32) => lt1 (v3 + (1 : Int32)) (fun (t28 : Int32) => rec30 t27 t28)) else (if (f_this_steps v3.toNatClampNeg) = (4 : Int32) then (if s0 ≤ v4 then lt1 ((v2 <<< ((1 : Int32) &&& 31)) ||| (0 : Int32)) (fun (t30 : Int32) => lt1 (v3 + (1 : Int32)) (fun (t31 : Int32) => rec30 t30 t31)) else lt1 ((v2 <<< ((1 : Int32) &&& 31)) ||| (1 : Int32)) (fun (t32 : Int32) => lt1 (v3 + (1 : Int32)) (fun (t33 : Int32) => rec30 t32 t33))) else (if (f_this_steps v3.toNatClampNeg) = (5 : Int32) then (if v4 = s0 then lt1 ((v2 <<< ((1 : Int32) &&& 31)) ||| (1 : Int32)) (fun (t37 : Int32) => lt1 (v3 + (1 : Int32)) (fun (t38 : Int32) => rec30 t37 t38)) else lt1 ((v2 <<< ((1 : Int32) &&& 31)) ||| (0 : Int32)) (fun (t35 : Int32) => lt1 (v3 + (1 : Int32)) (fun (t36 : Int32) => rec30 t35 t36))) else (if v4 ≤ s0 then lt1 ((v2 <<< ((1 : Int32) &&& 31)) ||| (0 : Int32)) (fun (t40 : Int32) => lt1 (v3 + (1 : Int32)) (fun (t41 : Int32) => rec30 t40 t41)) else lt1 ((v2 <<< ((1 : Int32) &&& 31)) ||| (1 : Int32)) (fun (t42 : Int32) => lt1 (v3 + (1 : Int32)) (fun (t43 : Int32) => rec30 t42 t43)))))))))
def f_X5_holds_b78 (rec30 : Int32 → Int32 → Option (Int32)) (f_this_facts : Nat → Int32) (f_this_rights : Nat → Int32) (f_this_steps : Nat → Int32) (v2 : Int32) (v3 : Int32) (s0 : Int32) : Option (Int32) := chkI v3 200 ((if (10000 : Int32) ≤ (f_this_rights v3.toNatClampNeg) then chkI v3 200 (chkI ((f_this_rights v3.toNatClampNeg) - (10000 : Int32)) 5 (f_X5_holds_b116 rec30 f_this_steps v2 v3 s0 (f_this_facts ((f_this_rights v3.toNatClampNeg) - (10000 : Int32)).toNatClampNeg))) else chkI v3 200 (f_X5_holds_b116 rec30 f_this_steps v2 v3 s0 (f_this_rights v3.toNatClampNeg))))
def f_X5_holds_L30 (p0 : Int32) (f_this_begins : Nat → Int32) (f_this_facts : Nat → Int32) (f_this_lefts : Nat → Int32) (f_this_rights : Nat → Int32) (f_this_steps : Nat → Int32) : Nat → Int32 → Int32 → Option (Int32)
  | 0, _, _ => none
  | n + 1, v2, v3 => chkI (p0 + (1 : Int32)) 9 ((if (f_this_begins (p0 + (1 : Int32)).toNatClampNeg) ≤ v3 then f_X5_holds_b253 v2 else chkI v3 200 ((if (10000 : Int32) ≤ (f_this_lefts v3.toNatClampNeg) then chkI v3 200 (chkI ((f_this_lefts v3.toNatClampNeg) - (10000 : Int32)) 5 (f_X5_holds_b78 (f_X5_holds_L30 p0 f_this_begins f_this_facts f_this_lefts f_this_rights f_this_steps n) f_this_facts f_this_rights f_this_steps v2 v3 (f_this_facts ((f_this_lefts v3.toNatClampNeg) - (10000 : Int32)).toNatClampNeg))) else chkI v3 200 (f_X5_holds_b78 (f_X5_holds_L30 p0 f_this_begins f_this_facts f_this_lefts f_this_rights f_this_steps n) f_this_facts f_this_rights f_this_steps v2 v3 (f_this_lefts v3.toNatClampNeg))))))
def f_X5_holds_b22 (p0 : Int32) (f_this_begins : Nat → Int32) (f_this_facts : Nat → Int32) (f_this_lefts : Nat → Int32) (f_this_rights : Nat → Int32) (f_this_steps : Nat → Int32) (s0 : Int32) : Option (Int32) := chkI p0 9 (lt1 (f_this_begins p0.toNatClampNeg) (fun (t5 : Int32) => f_X5_holds_L30 p0 f_this_begins f_this_facts f_this_lefts f_this_rights f_this_steps 1000 s0 t5))
def f_X5_holds (p0 : Int32) (f_this_begins : Nat → Int32) (f_this_facts : Nat → Int32) (f_this_lefts : Nat → Int32) (f_this_rights : Nat → Int32) (f_this_steps : Nat → Int32) : Option (Int32) := chkI p0 9 (chkI (p0 + (1 : Int32)) 9 ((if (f_this_begins p0.toNatClampNeg) = (f_this_begins (p0 + (1 : Int32)).toNatClampNeg) then f_X5_holds_b22 p0 f_this_begins f_this_facts f_this_lefts f_this_rights f_this_steps (1 : Int32) else f_X5_holds_b22 p0 f_this_begins f_this_facts f_this_lefts f_this_rights f_this_steps (0 : Int32))))
set_option maxRecDepth 100000 in
set_option maxHeartbeats 4000000 in
theorem c_X5_holds {l : Launch} {G : Gt} {h_this h_this_kinds h_this_deeds h_this_begins h_this_steps h_this_lefts h_this_rights h_this_facts : Nat} {p0 : Int32} {x_this_count : Int32} {x_this_size : Int32} {f_this_begins : Nat → Int32} {f_this_facts : Nat → Int32} {f_this_lefts : Nat → Int32} {f_this_rights : Nat → Int32} {f_this_steps : Nat → Int32} {r : Int32} (hf : f_X5_holds p0 f_this_begins f_this_facts f_this_lefts f_this_rights f_this_steps = some r) : mFi l G yX5_holds cX5_holds 6 .boolean 0 [.ref h_this, .int p0] [(h_this, ob 5 [.ref h_this_kinds, .ref h_this_deeds, .ref h_this_begins, .ref h_this_steps, .ref h_this_lefts, .ref h_this_rights, .ref h_this_facts, .int x_this_count, .int x_this_size]), (h_this_begins, ia G 9 f_this_begins), (h_this_facts, ia G 5 f_this_facts), (h_this_lefts, ia G 200 f_this_lefts), (h_this_rights, ia G 200 f_this_rights), (h_this_steps, ia G 200 f_this_steps)] r [(h_this, ob 5 [.ref h_this_kinds, .ref h_this_deeds, .ref h_this_begins, .ref h_this_steps, .ref h_this_lefts, .ref h_this_rights, .ref h_this_facts, .int x_this_count, .int x_this_size]), (h_this_begins, ia G 9 f_this_begins), (h_this_facts, ia G 5 f_this_facts), (h_this_lefts, ia G 200 f_this_lefts), (h_this_rights, ia G 200 f_this_rights), (h_this_steps, ia G 200 f_this_steps)] := by
  refine mFi.of (by decide +kernel) (Nat.le_of_ble_eq_true rfl) ?_
  intro p e s m below meth c A C hr hlk h ls hl
  obtain ⟨hx, hb, hml, hown, hts⟩ := id C
  replace hl : lv_has ls 6 [(0, .ref h_this), (1, .int p0)] := hl
  unfold f_X5_holds at hf
  refine with_K G A 6 (fun K hK1 hK2 => ?_)
  have B253 : ∀ (v2 : Int32), f_X5_holds_b253 v2 = some r → K 253 ([] : List Value) [(h_this, ob 5 [.ref h_this_kinds, .ref h_this_deeds, .ref h_this_begins, .ref h_this_steps, .ref h_this_lefts, .ref h_this_rights, .ref h_this_facts, .int x_this_count, .int x_this_size]), (h_this_begins, ia G 9 f_this_begins), (h_this_facts, ia G 5 f_this_facts), (h_this_lefts, ia G 200 f_this_lefts), (h_this_rights, ia G 200 f_this_rights), (h_this_steps, ia G 200 f_this_steps)] [(2, .int v2)] := by
    intro v2 hf
    unfold f_X5_holds_b253 at hf
    refine hK1 _ _ _ _ (fun H locs ls h hl => ?_)
    refine lv_iload_n hx hb dX5_holds_253 rfl (lv_at hl 0 rfl) ?_
    refine lv_iconst (v := (1 : Int32)) hx hb dX5_holds_254 rfl ?_
    refine lv_iand hx hb dX5_holds_255 ?_
    refine lv_iconst (v := (1 : Int32)) hx hb dX5_holds_256 rfl ?_
    refine lv_icmp_ne (tgt := 264) hx hb dX5_holds_257 rfl (fun c8 => ?_) (fun c8 => ?_)
    · replace hf := ifn c8 hf
      refine lv_iconst (v := (0 : Int32)) hx hb dX5_holds_264 rfl ?_
      cases hf
      exact r_iret C h hr hlk rfl dX5_holds_265
    · replace hf := ifp c8 hf
      refine lv_iconst (v := (1 : Int32)) hx hb dX5_holds_260 rfl ?_
      refine lv_goto (tgt := 265) hx hb dX5_holds_261 rfl ?_
      cases hf
      exact r_iret C h hr hlk rfl dX5_holds_265
  have B116 : ∀ (rec30 : Int32 → Int32 → Option (Int32)) (hrec30 : ∀ (v2 : Int32) (v3 : Int32), rec30 v2 v3 = some r → K 30 ([] : List Value) [(h_this, ob 5 [.ref h_this_kinds, .ref h_this_deeds, .ref h_this_begins, .ref h_this_steps, .ref h_this_lefts, .ref h_this_rights, .ref h_this_facts, .int x_this_count, .int x_this_size]), (h_this_begins, ia G 9 f_this_begins), (h_this_facts, ia G 5 f_this_facts), (h_this_lefts, ia G 200 f_this_lefts), (h_this_rights, ia G 200 f_this_rights), (h_this_steps, ia G 200 f_this_steps)] [(0, .ref h_this), (1, .int p0), (2, .int v2), (3, .int v3)]) (v2 : Int32) (v3 : Int32) (v4 : Int32) (s0 : Int32), f_X5_holds_b116 rec30 f_this_steps v2 v3 v4 s0 = some r → K 116 [.int s0] [(h_this, ob 5 [.ref h_this_kinds, .ref h_this_deeds, .ref h_this_begins, .ref h_this_steps, .ref h_this_lefts, .ref h_this_rights, .ref h_this_facts, .int x_this_count, .int x_this_size]), (h_this_begins, ia G 9 f_this_begins), (h_this_facts, ia G 5 f_this_facts), (h_this_lefts, ia G 200 f_this_lefts), (h_this_rights, ia G 200 f_this_rights), (h_this_steps, ia G 200 f_this_steps)] [(0, .ref h_this), (1, .int p0), (2, .int v2), (3, .int v3), (4, .int v4)] := by
    intro rec30 hrec30 v2 v3 v4 s0 hf
    unfold f_X5_holds_b116 at hf
    refine hK1 _ _ _ _ (fun H locs ls h hl => ?_)
    refine lv_istore (lv' := [(5, .int s0), (0, .ref h_this), (1, .int p0), (2, .int v2), (3, .int v3), (4, .int v4)]) hx hb dX5_holds_116 hl (by decide) rfl (fun ls hl => ?_)
    refine lv_aload_n hx hb dX5_holds_118 rfl (lv_at hl 1 rfl) ?_
    refine r_get C h fk_X5_21 0 rfl rfl dX5_holds_119 ?_
    refine lv_iload_n hx hb dX5_holds_122 rfl (lv_at hl 4 rfl) ?_
    replace hf := chkI_inv hf
    obtain ⟨hi17, hf⟩ := hf
    refine r_iald C h 5 rfl hi17 dX5_holds_123 ?_
    by_cases c18 : (f_this_steps v3.toNatClampNeg) = (1 : Int32)
    · replace hf := ifp c18 hf
      refine r_tab (tgt := 179) C dX5_holds_124 (1 : Int32) c18 (by decide) rfl rfl ?_
      refine lv_iload_n hx hb dX5_holds_179 rfl (lv_at hl 3 rfl) ?_
      refine lv_iconst (v := (1 : Int32)) hx hb dX5_holds_180 rfl ?_
      refine lv_ishr hx hb dX5_holds_181 ?_
      refine lv_iload_n hx hb dX5_holds_182 rfl (lv_at hl 3 rfl) ?_
      refine lv_iconst (v := (1 : Int32)) hx hb dX5_holds_183 rfl ?_
      refine lv_iand hx hb dX5_holds_184 ?_
      refine lv_ior hx hb dX5_holds_185 ?_
      refine lv_topi (fun t23 et23 => ?_)
      replace hf := lt1_inv et23 hf
      refine lv_istore_n (lv' := [(2, .int t23), (5, .int s0), (0, .ref h_this), (1, .int p0), (3, .int v3), (4, .int v4)]) hx hb dX5_holds_186 rfl hl (by decide) rfl (fun ls hl => ?_)
      refine lv_goto (tgt := 247) hx hb dX5_holds_187 rfl ?_
      obtain ⟨t24, et24⟩ : ∃ y : Int32, y = v3 + (1 : Int32) := ⟨_, rfl⟩
      replace hf := lt1_inv et24 hf
      refine lv_iinc (v := t24) (lv' := [(3, .int t24), (2, .int t23), (5, .int s0), (0, .ref h_this), (1, .int p0), (4, .int v4)]) hx hb dX5_holds_247 hl (k := 4) rfl (by rw [et24]; rfl) (by decide) rfl (fun ls hl => ?_)
      refine lv_goto (tgt := 30) hx hb dX5_holds_250 rfl ?_
      exact hK2 _ _ _ _ (hrec30 t23 t24 hf) _ _ _ h (lv_sub hl [3, 4, 1, 0] rfl)
    · replace hf := ifn c18 hf
      by_cases c19 : (f_this_steps v3.toNatClampNeg) = (2 : Int32)
      · replace hf := ifp c19 hf
        refine r_tab (tgt := 167) C dX5_holds_124 (2 : Int32) c19 (by decide) rfl rfl ?_
        refine lv_iload_n hx hb dX5_holds_167 rfl (lv_at hl 3 rfl) ?_
        refine lv_iconst (v := (1 : Int32)) hx hb dX5_holds_168 rfl ?_
        refine lv_ishr hx hb dX5_holds_169 ?_
        refine lv_iload_n hx hb dX5_holds_170 rfl (lv_at hl 3 rfl) ?_
        refine lv_bipush (v := (-2 : Int32)) hx hb dX5_holds_171 rfl ?_
        refine lv_ior hx hb dX5_holds_173 ?_
        refine lv_iand hx hb dX5_holds_174 ?_
        refine lv_topi (fun t25 et25 => ?_)
        replace hf := lt1_inv et25 hf
        refine lv_istore_n (lv' := [(2, .int t25), (5, .int s0), (0, .ref h_this), (1, .int p0), (3, .int v3), (4, .int v4)]) hx hb dX5_holds_175 rfl hl (by decide) rfl (fun ls hl => ?_)
        refine lv_goto (tgt := 247) hx hb dX5_holds_176 rfl ?_
        obtain ⟨t26, et26⟩ : ∃ y : Int32, y = v3 + (1 : Int32) := ⟨_, rfl⟩
        replace hf := lt1_inv et26 hf
        refine lv_iinc (v := t26) (lv' := [(3, .int t26), (2, .int t25), (5, .int s0), (0, .ref h_this), (1, .int p0), (4, .int v4)]) hx hb dX5_holds_247 hl (k := 4) rfl (by rw [et26]; rfl) (by decide) rfl (fun ls hl => ?_)
        refine lv_goto (tgt := 30) hx hb dX5_holds_250 rfl ?_
        exact hK2 _ _ _ _ (hrec30 t25 t26 hf) _ _ _ h (lv_sub hl [3, 4, 1, 0] rfl)
      · replace hf := ifn c19 hf
        by_cases c20 : (f_this_steps v3.toNatClampNeg) = (3 : Int32)
        · replace hf := ifp c20 hf
          refine r_tab (tgt := 160) C dX5_holds_124 (3 : Int32) c20 (by decide) rfl rfl ?_
          refine lv_iload_n hx hb dX5_holds_160 rfl (lv_at hl 3 rfl) ?_
          refine lv_iconst (v := (1 : Int32)) hx hb dX5_holds_161 rfl ?_
          refine lv_ixor hx hb dX5_holds_162 ?_
          refine lv_topi (fun t27 et27 => ?_)
          replace hf := lt1_inv et27 hf
          refine lv_istore_n (lv' := [(2, .int t27), (5, .int s0), (0, .ref h_this), (1, .int p0), (3, .int v3), (4, .int v4)]) hx hb dX5_holds_163 rfl hl (by decide) rfl (fun ls hl => ?_)
          refine lv_goto (tgt := 247) hx hb dX5_holds_164 rfl ?_
          obtain ⟨t28, et28⟩ : ∃ y : Int32, y = v3 + (1 : Int32) := ⟨_, rfl⟩
          replace hf := lt1_inv et28 hf
          refine lv_iinc (v := t28) (lv' := [(3, .int t28), (2, .int t27), (5, .int s0), (0, .ref h_this), (1, .int p0), (4, .int v4)]) hx hb dX5_holds_247 hl (k := 4) rfl (by rw [et28]; rfl) (by decide) rfl (fun ls hl => ?_)
          refine lv_goto (tgt := 30) hx hb dX5_holds_250 rfl ?_
          exact hK2 _ _ _ _ (hrec30 t27 t28 hf) _ _ _ h (lv_sub hl [3, 4, 1, 0] rfl)
        · replace hf := ifn c20 hf
          by_cases c21 : (f_this_steps v3.toNatClampNeg) = (4 : Int32)
          · replace hf := ifp c21 hf
            refine r_tab (tgt := 190) C dX5_holds_124 (4 : Int32) c21 (by decide) rfl rfl ?_
            refine lv_iload_n hx hb dX5_holds_190 rfl (lv_at hl 3 rfl) ?_
            refine lv_iconst (v := (1 : Int32)) hx hb dX5_holds_191 rfl ?_
            refine lv_ishl hx hb dX5_holds_192 ?_
            refine lv_iload hx hb dX5_holds_193 (lv_at hl 5 rfl) ?_
            refine lv_iload hx hb dX5_holds_195 (lv_at hl 0 rfl) ?_
            refine lv_icmp_ge (tgt := 204) hx hb dX5_holds_197 rfl (fun c29 => ?_) (fun c29 => ?_)
            · replace hf := ifp c29 hf
              refine lv_iconst (v := (0 : Int32)) hx hb dX5_holds_204 rfl ?_
              refine lv_ior hx hb dX5_holds_205 ?_
              refine lv_topi (fun t30 et30 => ?_)
              replace hf := lt1_inv et30 hf
              refine lv_istore_n (lv' := [(2, .int t30), (5, .int s0), (0, .ref h_this), (1, .int p0), (3, .int v3), (4, .int v4)]) hx hb dX5_holds_206 rfl hl (by decide) rfl (fun ls hl => ?_)
              refine lv_goto (tgt := 247) hx hb dX5_holds_207 rfl ?_
              obtain ⟨t31, et31⟩ : ∃ y : Int32, y = v3 + (1 : Int32) := ⟨_, rfl⟩
              replace hf := lt1_inv et31 hf
              refine lv_iinc (v := t31) (lv' := [(3, .int t31), (2, .int t30), (5, .int s0), (0, .ref h_this), (1, .int p0), (4, .int v4)]) hx hb dX5_holds_247 hl (k := 4) rfl (by rw [et31]; rfl) (by decide) rfl (fun ls hl => ?_)
              refine lv_goto (tgt := 30) hx hb dX5_holds_250 rfl ?_
              exact hK2 _ _ _ _ (hrec30 t30 t31 hf) _ _ _ h (lv_sub hl [3, 4, 1, 0] rfl)
            · replace hf := ifn c29 hf
              refine lv_iconst (v := (1 : Int32)) hx hb dX5_holds_200 rfl ?_
              refine lv_goto (tgt := 205) hx hb dX5_holds_201 rfl ?_
              refine lv_ior hx hb dX5_holds_205 ?_
              refine lv_topi (fun t32 et32 => ?_)
              replace hf := lt1_inv et32 hf
              refine lv_istore_n (lv' := [(2, .int t32), (5, .int s0), (0, .ref h_this), (1, .int p0), (3, .int v3), (4, .int v4)]) hx hb dX5_holds_206 rfl hl (by decide) rfl (fun ls hl => ?_)
              refine lv_goto (tgt := 247) hx hb dX5_holds_207 rfl ?_
              obtain ⟨t33, et33⟩ : ∃ y : Int32, y = v3 + (1 : Int32) := ⟨_, rfl⟩
              replace hf := lt1_inv et33 hf
              refine lv_iinc (v := t33) (lv' := [(3, .int t33), (2, .int t32), (5, .int s0), (0, .ref h_this), (1, .int p0), (4, .int v4)]) hx hb dX5_holds_247 hl (k := 4) rfl (by rw [et33]; rfl) (by decide) rfl (fun ls hl => ?_)
              refine lv_goto (tgt := 30) hx hb dX5_holds_250 rfl ?_
              exact hK2 _ _ _ _ (hrec30 t32 t33 hf) _ _ _ h (lv_sub hl [3, 4, 1, 0] rfl)
          · replace hf := ifn c21 hf
            by_cases c22 : (f_this_steps v3.toNatClampNeg) = (5 : Int32)
            · replace hf := ifp c22 hf
              refine r_tab (tgt := 210) C dX5_holds_124 (5 : Int32) c22 (by decide) rfl rfl ?_
              refine lv_iload_n hx hb dX5_holds_210 rfl (lv_at hl 3 rfl) ?_
              refine lv_iconst (v := (1 : Int32)) hx hb dX5_holds_211 rfl ?_
              refine lv_ishl hx hb dX5_holds_212 ?_
              refine lv_iload hx hb dX5_holds_213 (lv_at hl 5 rfl) ?_
              refine lv_iload hx hb dX5_holds_215 (lv_at hl 0 rfl) ?_
              refine lv_icmp_ne (tgt := 224) hx hb dX5_holds_217 rfl (fun c34 => ?_) (fun c34 => ?_)
              · replace hf := ifn c34 hf
                refine lv_iconst (v := (0 : Int32)) hx hb dX5_holds_224 rfl ?_
                refine lv_ior hx hb dX5_holds_225 ?_
                refine lv_topi (fun t35 et35 => ?_)
                replace hf := lt1_inv et35 hf
                refine lv_istore_n (lv' := [(2, .int t35), (5, .int s0), (0, .ref h_this), (1, .int p0), (3, .int v3), (4, .int v4)]) hx hb dX5_holds_226 rfl hl (by decide) rfl (fun ls hl => ?_)
                refine lv_goto (tgt := 247) hx hb dX5_holds_227 rfl ?_
                obtain ⟨t36, et36⟩ : ∃ y : Int32, y = v3 + (1 : Int32) := ⟨_, rfl⟩
                replace hf := lt1_inv et36 hf
                refine lv_iinc (v := t36) (lv' := [(3, .int t36), (2, .int t35), (5, .int s0), (0, .ref h_this), (1, .int p0), (4, .int v4)]) hx hb dX5_holds_247 hl (k := 4) rfl (by rw [et36]; rfl) (by decide) rfl (fun ls hl => ?_)
                refine lv_goto (tgt := 30) hx hb dX5_holds_250 rfl ?_
                exact hK2 _ _ _ _ (hrec30 t35 t36 hf) _ _ _ h (lv_sub hl [3, 4, 1, 0] rfl)
              · replace hf := ifp c34 hf
                refine lv_iconst (v := (1 : Int32)) hx hb dX5_holds_220 rfl ?_
                refine lv_goto (tgt := 225) hx hb dX5_holds_221 rfl ?_
                refine lv_ior hx hb dX5_holds_225 ?_
                refine lv_topi (fun t37 et37 => ?_)
                replace hf := lt1_inv et37 hf
                refine lv_istore_n (lv' := [(2, .int t37), (5, .int s0), (0, .ref h_this), (1, .int p0), (3, .int v3), (4, .int v4)]) hx hb dX5_holds_226 rfl hl (by decide) rfl (fun ls hl => ?_)
                refine lv_goto (tgt := 247) hx hb dX5_holds_227 rfl ?_
                obtain ⟨t38, et38⟩ : ∃ y : Int32, y = v3 + (1 : Int32) := ⟨_, rfl⟩
                replace hf := lt1_inv et38 hf
                refine lv_iinc (v := t38) (lv' := [(3, .int t38), (2, .int t37), (5, .int s0), (0, .ref h_this), (1, .int p0), (4, .int v4)]) hx hb dX5_holds_247 hl (k := 4) rfl (by rw [et38]; rfl) (by decide) rfl (fun ls hl => ?_)
                refine lv_goto (tgt := 30) hx hb dX5_holds_250 rfl ?_
                exact hK2 _ _ _ _ (hrec30 t37 t38 hf) _ _ _ h (lv_sub hl [3, 4, 1, 0] rfl)
            · replace hf := ifn c22 hf
              refine r_tabD (tgt := 230) C dX5_holds_124 [(1 : Int32), (2 : Int32), (3 : Int32), (4 : Int32), (5 : Int32)] (by decide) (nel_c c18 (nel_c c19 (nel_c c20 (nel_c c21 (nel_c c22 nel_0))))) rfl ?_
              refine lv_iload_n hx hb dX5_holds_230 rfl (lv_at hl 3 rfl) ?_
              refine lv_iconst (v := (1 : Int32)) hx hb dX5_holds_231 rfl ?_
              refine lv_ishl hx hb dX5_holds_232 ?_
              refine lv_iload hx hb dX5_holds_233 (lv_at hl 5 rfl) ?_
              refine lv_iload hx hb dX5_holds_235 (lv_at hl 0 rfl) ?_
              refine lv_icmp_le (tgt := 244) hx hb dX5_holds_237 rfl (fun c39 => ?_) (fun c39 => ?_)
              · replace hf := ifp c39 hf
                refine lv_iconst (v := (0 : Int32)) hx hb dX5_holds_244 rfl ?_
                refine lv_ior hx hb dX5_holds_245 ?_
                refine lv_topi (fun t40 et40 => ?_)
                replace hf := lt1_inv et40 hf
                refine lv_istore_n (lv' := [(2, .int t40), (5, .int s0), (0, .ref h_this), (1, .int p0), (3, .int v3), (4, .int v4)]) hx hb dX5_holds_246 rfl hl (by decide) rfl (fun ls hl => ?_)
                obtain ⟨t41, et41⟩ : ∃ y : Int32, y = v3 + (1 : Int32) := ⟨_, rfl⟩
                replace hf := lt1_inv et41 hf
                refine lv_iinc (v := t41) (lv' := [(3, .int t41), (2, .int t40), (5, .int s0), (0, .ref h_this), (1, .int p0), (4, .int v4)]) hx hb dX5_holds_247 hl (k := 4) rfl (by rw [et41]; rfl) (by decide) rfl (fun ls hl => ?_)
                refine lv_goto (tgt := 30) hx hb dX5_holds_250 rfl ?_
                exact hK2 _ _ _ _ (hrec30 t40 t41 hf) _ _ _ h (lv_sub hl [3, 4, 1, 0] rfl)
              · replace hf := ifn c39 hf
                refine lv_iconst (v := (1 : Int32)) hx hb dX5_holds_240 rfl ?_
                refine lv_goto (tgt := 245) hx hb dX5_holds_241 rfl ?_
                refine lv_ior hx hb dX5_holds_245 ?_
                refine lv_topi (fun t42 et42 => ?_)
                replace hf := lt1_inv et42 hf
                refine lv_istore_n (lv' := [(2, .int t42), (5, .int s0), (0, .ref h_this), (1, .int p0), (3, .int v3), (4, .int v4)]) hx hb dX5_holds_246 rfl hl (by decide) rfl (fun ls hl => ?_)
                obtain ⟨t43, et43⟩ : ∃ y : Int32, y = v3 + (1 : Int32) := ⟨_, rfl⟩
                replace hf := lt1_inv et43 hf
                refine lv_iinc (v := t43) (lv' := [(3, .int t43), (2, .int t42), (5, .int s0), (0, .ref h_this), (1, .int p0), (4, .int v4)]) hx hb dX5_holds_247 hl (k := 4) rfl (by rw [et43]; rfl) (by decide) rfl (fun ls hl => ?_)
                refine lv_goto (tgt := 30) hx hb dX5_holds_250 rfl ?_
                exact hK2 _ _ _ _ (hrec30 t42 t43 hf) _ _ _ h (lv_sub hl [3, 4, 1, 0] rfl)
  have B78 : ∀ (rec30 : Int32 → Int32 → Option (Int32)) (hrec30 : ∀ (v2 : Int32) (v3 : Int32), rec30 v2 v3 = some r → K 30 ([] : List Value) [(h_this, ob 5 [.ref h_this_kinds, .ref h_this_deeds, .ref h_this_begins, .ref h_this_steps, .ref h_this_lefts, .ref h_this_rights, .ref h_this_facts, .int x_this_count, .int x_this_size]), (h_this_begins, ia G 9 f_this_begins), (h_this_facts, ia G 5 f_this_facts), (h_this_lefts, ia G 200 f_this_lefts), (h_this_rights, ia G 200 f_this_rights), (h_this_steps, ia G 200 f_this_steps)] [(0, .ref h_this), (1, .int p0), (2, .int v2), (3, .int v3)]) (v2 : Int32) (v3 : Int32) (s0 : Int32), f_X5_holds_b78 rec30 f_this_facts f_this_rights f_this_steps v2 v3 s0 = some r → K 78 [.int s0] [(h_this, ob 5 [.ref h_this_kinds, .ref h_this_deeds, .ref h_this_begins, .ref h_this_steps, .ref h_this_lefts, .ref h_this_rights, .ref h_this_facts, .int x_this_count, .int x_this_size]), (h_this_begins, ia G 9 f_this_begins), (h_this_facts, ia G 5 f_this_facts), (h_this_lefts, ia G 200 f_this_lefts), (h_this_rights, ia G 200 f_this_rights), (h_this_steps, ia G 200 f_this_steps)] [(0, .ref h_this), (1, .int p0), (2, .int v2), (3, .int v3)] := by
    intro rec30 hrec30 v2 v3 s0 hf
    unfold f_X5_holds_b78 at hf
    refine hK1 _ _ _ _ (fun H locs ls h hl => ?_)
    refine lv_istore (lv' := [(4, .int s0), (0, .ref h_this), (1, .int p0), (2, .int v2), (3, .int v3)]) hx hb dX5_holds_78 hl (by decide) rfl (fun ls hl => ?_)
    refine lv_aload_n hx hb dX5_holds_80 rfl (lv_at hl 1 rfl) ?_
    refine r_get C h fk_X5_27 0 rfl rfl dX5_holds_81 ?_
    refine lv_iload_n hx hb dX5_holds_84 rfl (lv_at hl 4 rfl) ?_
    replace hf := chkI_inv hf
    obtain ⟨hi13, hf⟩ := hf
    refine r_iald C h 4 rfl hi13 dX5_holds_85 ?_
    refine lv_sipush (v := (10000 : Int32)) hx hb dX5_holds_86 rfl ?_
    refine lv_icmp_ge (tgt := 101) hx hb dX5_holds_89 rfl (fun c14 => ?_) (fun c14 => ?_)
    · replace hf := ifp c14 hf
      refine lv_aload_n hx hb dX5_holds_101 rfl (lv_at hl 1 rfl) ?_
      refine r_get C h fk_X5_30 0 rfl rfl dX5_holds_102 ?_
      refine lv_aload_n hx hb dX5_holds_105 rfl (lv_at hl 1 rfl) ?_
      refine r_get C h fk_X5_27 0 rfl rfl dX5_holds_106 ?_
      refine lv_iload_n hx hb dX5_holds_109 rfl (lv_at hl 4 rfl) ?_
      replace hf := chkI_inv hf
      obtain ⟨hi15, hf⟩ := hf
      refine r_iald C h 4 rfl hi15 dX5_holds_110 ?_
      refine lv_sipush (v := (10000 : Int32)) hx hb dX5_holds_111 rfl ?_
      refine lv_isub hx hb dX5_holds_114 ?_
      replace hf := chkI_inv hf
      obtain ⟨hi16, hf⟩ := hf
      refine r_iald C h 2 rfl hi16 dX5_holds_115 ?_
      exact hK2 _ _ _ _ (B116 _ hrec30 v2 v3 s0 (f_this_facts ((f_this_rights v3.toNatClampNeg) - (10000 : Int32)).toNatClampNeg) hf) _ _ _ h (lv_sub hl [1, 2, 3, 4, 0] rfl)
    · replace hf := ifn c14 hf
      refine lv_aload_n hx hb dX5_holds_92 rfl (lv_at hl 1 rfl) ?_
      refine r_get C h fk_X5_27 0 rfl rfl dX5_holds_93 ?_
      refine lv_iload_n hx hb dX5_holds_96 rfl (lv_at hl 4 rfl) ?_
      replace hf := chkI_inv hf
      obtain ⟨hi44, hf⟩ := hf
      refine r_iald C h 4 rfl hi44 dX5_holds_97 ?_
      refine lv_goto (tgt := 116) hx hb dX5_holds_98 rfl ?_
      exact hK2 _ _ _ _ (B116 _ hrec30 v2 v3 s0 (f_this_rights v3.toNatClampNeg) hf) _ _ _ h (lv_sub hl [1, 2, 3, 4, 0] rfl)
  have L30 : ∀ (n : Nat) (v2 : Int32) (v3 : Int32), f_X5_holds_L30 p0 f_this_begins f_this_facts f_this_lefts f_this_rights f_this_steps n v2 v3 = some r → K 30 ([] : List Value) [(h_this, ob 5 [.ref h_this_kinds, .ref h_this_deeds, .ref h_this_begins, .ref h_this_steps, .ref h_this_lefts, .ref h_this_rights, .ref h_this_facts, .int x_this_count, .int x_this_size]), (h_this_begins, ia G 9 f_this_begins), (h_this_facts, ia G 5 f_this_facts), (h_this_lefts, ia G 200 f_this_lefts), (h_this_rights, ia G 200 f_this_rights), (h_this_steps, ia G 200 f_this_steps)] [(0, .ref h_this), (1, .int p0), (2, .int v2), (3, .int v3)] := by
    intro n
    induction n with
    | zero =>
      intro v2 v3 hf
      replace hf : (none : Option _) = some _ := hf
      cases hf
    | succ n ih =>
      intro v2 v3 hf
      rw [f_X5_holds_L30] at hf
      refine hK1 _ _ _ _ (fun H locs ls h hl => ?_)
      refine lv_iload_n hx hb dX5_holds_30 rfl (lv_at hl 3 rfl) ?_
      refine lv_aload_n hx hb dX5_holds_31 rfl (lv_at hl 0 rfl) ?_
      refine r_get C h fk_X5_18 0 rfl rfl dX5_holds_32 ?_
      refine lv_iload_n hx hb dX5_holds_35 rfl (lv_at hl 1 rfl) ?_
      refine lv_iconst (v := (1 : Int32)) hx hb dX5_holds_36 rfl ?_
      refine lv_iadd hx hb dX5_holds_37 ?_
      replace hf := chkI_inv hf
      obtain ⟨hi6, hf⟩ := hf
      refine r_iald C h 1 rfl hi6 dX5_holds_38 ?_
      refine lv_icmp_ge (tgt := 253) hx hb dX5_holds_39 rfl (fun c7 => ?_) (fun c7 => ?_)
      · replace hf := ifp c7 hf
        exact hK2 _ _ _ _ (B253 v2 hf) _ _ _ h (lv_sub hl [2] rfl)
      · replace hf := ifn c7 hf
        refine lv_aload_n hx hb dX5_holds_42 rfl (lv_at hl 0 rfl) ?_
        refine r_get C h fk_X5_24 0 rfl rfl dX5_holds_43 ?_
        refine lv_iload_n hx hb dX5_holds_46 rfl (lv_at hl 3 rfl) ?_
        replace hf := chkI_inv hf
        obtain ⟨hi9, hf⟩ := hf
        refine r_iald C h 3 rfl hi9 dX5_holds_47 ?_
        refine lv_sipush (v := (10000 : Int32)) hx hb dX5_holds_48 rfl ?_
        refine lv_icmp_ge (tgt := 63) hx hb dX5_holds_51 rfl (fun c10 => ?_) (fun c10 => ?_)
        · replace hf := ifp c10 hf
          refine lv_aload_n hx hb dX5_holds_63 rfl (lv_at hl 0 rfl) ?_
          refine r_get C h fk_X5_30 0 rfl rfl dX5_holds_64 ?_
          refine lv_aload_n hx hb dX5_holds_67 rfl (lv_at hl 0 rfl) ?_
          refine r_get C h fk_X5_24 0 rfl rfl dX5_holds_68 ?_
          refine lv_iload_n hx hb dX5_holds_71 rfl (lv_at hl 3 rfl) ?_
          replace hf := chkI_inv hf
          obtain ⟨hi11, hf⟩ := hf
          refine r_iald C h 3 rfl hi11 dX5_holds_72 ?_
          refine lv_sipush (v := (10000 : Int32)) hx hb dX5_holds_73 rfl ?_
          refine lv_isub hx hb dX5_holds_76 ?_
          replace hf := chkI_inv hf
          obtain ⟨hi12, hf⟩ := hf
          refine r_iald C h 2 rfl hi12 dX5_holds_77 ?_
          exact hK2 _ _ _ _ (B78 _ ih v2 v3 (f_this_facts ((f_this_lefts v3.toNatClampNeg) - (10000 : Int32)).toNatClampNeg) hf) _ _ _ h (lv_sub hl [0, 1, 2, 3] rfl)
        · replace hf := ifn c10 hf
          refine lv_aload_n hx hb dX5_holds_54 rfl (lv_at hl 0 rfl) ?_
          refine r_get C h fk_X5_24 0 rfl rfl dX5_holds_55 ?_
          refine lv_iload_n hx hb dX5_holds_58 rfl (lv_at hl 3 rfl) ?_
          replace hf := chkI_inv hf
          obtain ⟨hi45, hf⟩ := hf
          refine r_iald C h 3 rfl hi45 dX5_holds_59 ?_
          refine lv_goto (tgt := 78) hx hb dX5_holds_60 rfl ?_
          exact hK2 _ _ _ _ (B78 _ ih v2 v3 (f_this_lefts v3.toNatClampNeg) hf) _ _ _ h (lv_sub hl [0, 1, 2, 3] rfl)
  have B22 : ∀ (s0 : Int32), f_X5_holds_b22 p0 f_this_begins f_this_facts f_this_lefts f_this_rights f_this_steps s0 = some r → K 22 [.int s0] [(h_this, ob 5 [.ref h_this_kinds, .ref h_this_deeds, .ref h_this_begins, .ref h_this_steps, .ref h_this_lefts, .ref h_this_rights, .ref h_this_facts, .int x_this_count, .int x_this_size]), (h_this_begins, ia G 9 f_this_begins), (h_this_facts, ia G 5 f_this_facts), (h_this_lefts, ia G 200 f_this_lefts), (h_this_rights, ia G 200 f_this_rights), (h_this_steps, ia G 200 f_this_steps)] [(0, .ref h_this), (1, .int p0)] := by
    intro s0 hf
    unfold f_X5_holds_b22 at hf
    refine hK1 _ _ _ _ (fun H locs ls h hl => ?_)
    refine lv_istore_n (lv' := [(2, .int s0), (0, .ref h_this), (1, .int p0)]) hx hb dX5_holds_22 rfl hl (by decide) rfl (fun ls hl => ?_)
    refine lv_aload_n hx hb dX5_holds_23 rfl (lv_at hl 1 rfl) ?_
    refine r_get C h fk_X5_18 0 rfl rfl dX5_holds_24 ?_
    refine lv_iload_n hx hb dX5_holds_27 rfl (lv_at hl 2 rfl) ?_
    replace hf := chkI_inv hf
    obtain ⟨hi4, hf⟩ := hf
    refine r_iald C h 1 rfl hi4 dX5_holds_28 ?_
    refine lv_topi (fun t5 et5 => ?_)
    replace hf := lt1_inv et5 hf
    refine lv_istore_n (lv' := [(3, .int t5), (2, .int s0), (0, .ref h_this), (1, .int p0)]) hx hb dX5_holds_29 rfl hl (by decide) rfl (fun ls hl => ?_)
    exact hK2 _ _ _ _ (L30 1000 s0 t5 hf) _ _ _ h (lv_sub hl [2, 3, 1, 0] rfl)
  refine lv_aload_n hx hb dX5_holds_0 rfl (lv_at hl 0 rfl) ?_
  refine r_get C h fk_X5_18 0 rfl rfl dX5_holds_1 ?_
  refine lv_iload_n hx hb dX5_holds_4 rfl (lv_at hl 1 rfl) ?_
  replace hf := chkI_inv hf
  obtain ⟨hi1, hf⟩ := hf
  refine r_iald C h 1 rfl hi1 dX5_holds_5 ?_
  refine lv_aload_n hx hb dX5_holds_6 rfl (lv_at hl 0 rfl) ?_
  refine r_get C h fk_X5_18 0 rfl rfl dX5_holds_7 ?_
  refine lv_iload_n hx hb dX5_holds_10 rfl (lv_at hl 1 rfl) ?_
  refine lv_iconst (v := (1 : Int32)) hx hb dX5_holds_11 rfl ?_
  refine lv_iadd hx hb dX5_holds_12 ?_
  replace hf := chkI_inv hf
  obtain ⟨hi2, hf⟩ := hf
  refine r_iald C h 1 rfl hi2 dX5_holds_13 ?_
  refine lv_icmp_ne (tgt := 21) hx hb dX5_holds_14 rfl (fun c3 => ?_) (fun c3 => ?_)
  · replace hf := ifn c3 hf
    refine lv_iconst (v := (0 : Int32)) hx hb dX5_holds_21 rfl ?_
    exact hK2 _ _ _ _ (B22 (0 : Int32) hf) _ _ _ h (lv_sub hl [0, 1] rfl)
  · replace hf := ifp c3 hf
    refine lv_iconst (v := (1 : Int32)) hx hb dX5_holds_17 rfl ?_
    refine lv_goto (tgt := 22) hx hb dX5_holds_18 rfl ?_
    exact hK2 _ _ _ _ (B22 (1 : Int32) hf) _ _ _ h (lv_sub hl [0, 1] rfl)
def f_X3_will_L36 (p1 : Int32) (f_this_kinds : Nat → Int32) (x_this_rules_count : Int32) (f_this_rules_begins : Nat → Int32) (f_this_rules_deeds : Nat → Int32) (f_this_rules_kinds : Nat → Int32) (f_this_rules_lefts : Nat → Int32) (f_this_rules_rights : Nat → Int32) (f_this_rules_steps : Nat → Int32) : Nat → Int32 → (Nat → Int32) → Option (Int32 × (Nat → Int32))
  | 0, _, _ => none
  | n + 1, v3, g_this_rules_facts => (if x_this_rules_count ≤ v3 then some ((0 : Int32), g_this_rules_facts) else chkI p1 6 (chkI v3 8 (bd1 (f_X8_isOrUnder (f_this_kinds p1.toNatClampNeg) (f_this_rules_kinds v3.toNatClampNeg)) (fun r10 => (if r10 = 0 then lt1 (v3 + (1 : Int32)) (fun (t13 : Int32) => (f_X3_will_L36 p1 f_this_kinds x_this_rules_count f_this_rules_begins f_this_rules_deeds f_this_rules_kinds f_this_rules_lefts f_this_rules_rights f_this_rules_steps n) t13 g_this_rules_facts) else bd1 (f_X5_holds v3 f_this_rules_begins g_this_rules_facts f_this_rules_lefts f_this_rules_rights f_this_rules_steps) (fun r14 => (if r14 = 0 then lt1 (v3 + (1 : Int32)) (fun (t17 : Int32) => (f_X3_will_L36 p1 f_this_kinds x_this_rules_count f_this_rules_begins f_this_rules_deeds f_this_rules_kinds f_this_rules_lefts f_this_rules_rights f_this_rules_steps n) t17 g_this_rules_facts) else chkI v3 8 (some (f_this_rules_deeds v3.toNatClampNeg, g_this_rules_facts)))))))))
def f_X3_will (p1 : Int32) (x_a0_watch : Int32) (f_a0_off : Nat → Int32) (f_this_kinds : Nat → Int32) (f_this_lights : Nat → Int32) (x_this_rules_count : Int32) (f_this_rules_begins : Nat → Int32) (f_this_rules_deeds : Nat → Int32) (f_this_rules_facts : Nat → Int32) (f_this_rules_kinds : Nat → Int32) (f_this_rules_lefts : Nat → Int32) (f_this_rules_rights : Nat → Int32) (f_this_rules_steps : Nat → Int32) (f_this_trims : Nat → Int32) : Option (Int32 × (Nat → Int32)) := chkI p1 6 (chkI p1 6 (bd1 (f_X3_lightAt x_a0_watch f_this_lights) (fun r3 => bd1 (f_X5_learn x_a0_watch (f_a0_off p1.toNatClampNeg) (f_this_trims p1.toNatClampNeg) (r3 >>> ((2 : Int32) &&& 31)) p1 f_this_rules_facts) (fun g5 => f_X3_will_L36 p1 f_this_kinds x_this_rules_count f_this_rules_begins f_this_rules_deeds f_this_rules_kinds f_this_rules_lefts f_this_rules_rights f_this_rules_steps 1000 (0 : Int32) g5))))
set_option maxRecDepth 100000 in
set_option maxHeartbeats 4000000 in
theorem c_X3_will {l : Launch} {G : Gt} {h_a0 h_a0_off h_this h_this_kinds h_this_trims h_this_lanes h_this_lights h_this_currents h_this_buoys h_this_now h_this_rules h_this_reports h_this_rules_kinds h_this_rules_deeds h_this_rules_begins h_this_rules_steps h_this_rules_lefts h_this_rules_rights h_this_rules_facts : Nat} {p1 : Int32} {x_a0_watch : Int32} {x_a0_score : Int32} {x_a0_home : Int32} {f_a0_off : Nat → Int32} {x_this_count : Int32} {x_this_end : Int32} {x_this_z : Int32} {f_this_kinds : Nat → Int32} {f_this_lights : Nat → Int32} {x_this_rules_count : Int32} {x_this_rules_size : Int32} {f_this_rules_begins : Nat → Int32} {f_this_rules_deeds : Nat → Int32} {f_this_rules_facts : Nat → Int32} {f_this_rules_kinds : Nat → Int32} {f_this_rules_lefts : Nat → Int32} {f_this_rules_rights : Nat → Int32} {f_this_rules_steps : Nat → Int32} {f_this_trims : Nat → Int32} {r : Int32} {m_this_rules_facts : Nat → Int32} (hf : f_X3_will p1 x_a0_watch f_a0_off f_this_kinds f_this_lights x_this_rules_count f_this_rules_begins f_this_rules_deeds f_this_rules_facts f_this_rules_kinds f_this_rules_lefts f_this_rules_rights f_this_rules_steps f_this_trims = some (r, m_this_rules_facts)) : mFi l G yX3_will cX3_will 4 .int 1 [.ref h_this, .ref h_a0, .int p1] [(h_a0, ob 6 [.ref h_a0_off, .int x_a0_watch, .int x_a0_score, .int x_a0_home]), (h_a0_off, ia G 6 f_a0_off), (h_this, ob 3 [.ref h_this_kinds, .ref h_this_trims, .ref h_this_lanes, .ref h_this_lights, .ref h_this_currents, .ref h_this_buoys, .ref h_this_now, .ref h_this_rules, .ref h_this_reports, .int x_this_count, .int x_this_end, .int x_this_z]), (h_this_kinds, ia G 6 f_this_kinds), (h_this_lights, ia G 16 f_this_lights), (h_this_rules, ob 5 [.ref h_this_rules_kinds, .ref h_this_rules_deeds, .ref h_this_rules_begins, .ref h_this_rules_steps, .ref h_this_rules_lefts, .ref h_this_rules_rights, .ref h_this_rules_facts, .int x_this_rules_count, .int x_this_rules_size]), (h_this_rules_begins, ia G 9 f_this_rules_begins), (h_this_rules_deeds, ia G 8 f_this_rules_deeds), (h_this_rules_facts, ia G 5 f_this_rules_facts), (h_this_rules_kinds, ia G 8 f_this_rules_kinds), (h_this_rules_lefts, ia G 200 f_this_rules_lefts), (h_this_rules_rights, ia G 200 f_this_rules_rights), (h_this_rules_steps, ia G 200 f_this_rules_steps), (h_this_trims, ia G 6 f_this_trims)] r [(h_a0, ob 6 [.ref h_a0_off, .int x_a0_watch, .int x_a0_score, .int x_a0_home]), (h_a0_off, ia G 6 f_a0_off), (h_this, ob 3 [.ref h_this_kinds, .ref h_this_trims, .ref h_this_lanes, .ref h_this_lights, .ref h_this_currents, .ref h_this_buoys, .ref h_this_now, .ref h_this_rules, .ref h_this_reports, .int x_this_count, .int x_this_end, .int x_this_z]), (h_this_kinds, ia G 6 f_this_kinds), (h_this_lights, ia G 16 f_this_lights), (h_this_rules, ob 5 [.ref h_this_rules_kinds, .ref h_this_rules_deeds, .ref h_this_rules_begins, .ref h_this_rules_steps, .ref h_this_rules_lefts, .ref h_this_rules_rights, .ref h_this_rules_facts, .int x_this_rules_count, .int x_this_rules_size]), (h_this_rules_begins, ia G 9 f_this_rules_begins), (h_this_rules_deeds, ia G 8 f_this_rules_deeds), (h_this_rules_facts, ia G 5 m_this_rules_facts), (h_this_rules_kinds, ia G 8 f_this_rules_kinds), (h_this_rules_lefts, ia G 200 f_this_rules_lefts), (h_this_rules_rights, ia G 200 f_this_rules_rights), (h_this_rules_steps, ia G 200 f_this_rules_steps), (h_this_trims, ia G 6 f_this_trims)] := by
  refine mFi.of (by decide +kernel) (Nat.le_of_ble_eq_true rfl) ?_
  intro p e s m below meth c A C hr hlk h ls hl
  obtain ⟨hx, hb, hml, hown, hts⟩ := id C
  replace hl : lv_has ls 4 [(0, .ref h_this), (1, .ref h_a0), (2, .int p1)] := hl
  unfold f_X3_will at hf
  refine with_K G A 4 (fun K hK1 hK2 => ?_)
  have L36 : ∀ (n : Nat) (v3 : Int32) (g_this_rules_facts : Nat → Int32), f_X3_will_L36 p1 f_this_kinds x_this_rules_count f_this_rules_begins f_this_rules_deeds f_this_rules_kinds f_this_rules_lefts f_this_rules_rights f_this_rules_steps n v3 g_this_rules_facts = some (r, m_this_rules_facts) → K 36 ([] : List Value) [(h_a0, ob 6 [.ref h_a0_off, .int x_a0_watch, .int x_a0_score, .int x_a0_home]), (h_a0_off, ia G 6 f_a0_off), (h_this, ob 3 [.ref h_this_kinds, .ref h_this_trims, .ref h_this_lanes, .ref h_this_lights, .ref h_this_currents, .ref h_this_buoys, .ref h_this_now, .ref h_this_rules, .ref h_this_reports, .int x_this_count, .int x_this_end, .int x_this_z]), (h_this_kinds, ia G 6 f_this_kinds), (h_this_lights, ia G 16 f_this_lights), (h_this_rules, ob 5 [.ref h_this_rules_kinds, .ref h_this_rules_deeds, .ref h_this_rules_begins, .ref h_this_rules_steps, .ref h_this_rules_lefts, .ref h_this_rules_rights, .ref h_this_rules_facts, .int x_this_rules_count, .int x_this_rules_size]), (h_this_rules_begins, ia G 9 f_this_rules_begins), (h_this_rules_deeds, ia G 8 f_this_rules_deeds), (h_this_rules_facts, ia G 5 g_this_rules_facts), (h_this_rules_kinds, ia G 8 f_this_rules_kinds), (h_this_rules_lefts, ia G 200 f_this_rules_lefts), (h_this_rules_rights, ia G 200 f_this_rules_rights), (h_this_rules_steps, ia G 200 f_this_rules_steps), (h_this_trims, ia G 6 f_this_trims)] [(0, .ref h_this), (2, .int p1), (3, .int v3)] := by
    intro n
    induction n with
    | zero =>
      intro v3 g_this_rules_facts hf
      replace hf : (none : Option _) = some _ := hf
      cases hf
    | succ n ih =>
      intro v3 g_this_rules_facts hf
      rw [f_X3_will_L36] at hf
      refine hK1 _ _ _ _ (fun H locs ls h hl => ?_)
      refine lv_iload_n hx hb dX3_will_36 rfl (lv_at hl 2 rfl) ?_
      refine lv_aload_n hx hb dX3_will_37 rfl (lv_at hl 0 rfl) ?_
      refine r_get C h fk_X3_40 2 rfl rfl dX3_will_38 ?_
      refine r_get C h fk_X3_124 5 rfl rfl dX3_will_41 ?_
      refine lv_icmp_ge (tgt := 95) hx hb dX3_will_44 rfl (fun c7 => ?_) (fun c7 => ?_)
      · replace hf := ifp c7 hf
        refine lv_iconst (v := (0 : Int32)) hx hb dX3_will_95 rfl ?_
        cases hf
        exact r_iret C h hr hlk rfl dX3_will_96
      · replace hf := ifn c7 hf
        refine lv_aload_n hx hb dX3_will_47 rfl (lv_at hl 0 rfl) ?_
        refine r_get C h fk_X3_9 2 rfl rfl dX3_will_48 ?_
        refine lv_iload_n hx hb dX3_will_51 rfl (lv_at hl 1 rfl) ?_
        replace hf := chkI_inv hf
        obtain ⟨hi8, hf⟩ := hf
        refine r_iald C h 3 rfl hi8 dX3_will_52 ?_
        refine lv_aload_n hx hb dX3_will_53 rfl (lv_at hl 0 rfl) ?_
        refine r_get C h fk_X3_40 2 rfl rfl dX3_will_54 ?_
        refine r_get C h fk_X3_125 5 rfl rfl dX3_will_57 ?_
        refine lv_iload_n hx hb dX3_will_60 rfl (lv_at hl 2 rfl) ?_
        replace hf := chkI_inv hf
        obtain ⟨hi9, hf⟩ := hf
        refine r_iald C h 9 rfl hi9 dX3_will_61 ?_
        replace hf := bd1_inv hf
        obtain ⟨r10, hc11, hf⟩ := hf
        refine r_ciN0 C h (c_X8_isOrUnder hc11) mn_X3_126 rfl [] rfl rfl hl.1 rfl (Nat.le_of_ble_eq_true rfl) (rok (by decide)) dX3_will_62 (fun H locs h => ?_)
        refine lv_if_eq (tgt := 89) hx hb dX3_will_65 rfl (fun c12 => ?_) (fun c12 => ?_)
        · replace hf := ifp c12 hf
          obtain ⟨t13, et13⟩ : ∃ y : Int32, y = v3 + (1 : Int32) := ⟨_, rfl⟩
          replace hf := lt1_inv et13 hf
          refine lv_iinc (v := t13) (lv' := [(3, .int t13), (0, .ref h_this), (2, .int p1)]) hx hb dX3_will_89 hl (k := 2) rfl (by rw [et13]; rfl) (by decide) rfl (fun ls hl => ?_)
          refine lv_goto (tgt := 36) hx hb dX3_will_92 rfl ?_
          exact hK2 _ _ _ _ (ih t13 g_this_rules_facts hf) _ _ _ h (lv_sub hl [1, 2, 0] rfl)
        · replace hf := ifn c12 hf
          refine lv_aload_n hx hb dX3_will_68 rfl (lv_at hl 0 rfl) ?_
          refine r_get C h fk_X3_40 2 rfl rfl dX3_will_69 ?_
          refine lv_iload_n hx hb dX3_will_72 rfl (lv_at hl 2 rfl) ?_
          replace hf := bd1_inv hf
          obtain ⟨r14, hc15, hf⟩ := hf
          refine r_ciV0 C h (c_X5_holds hc15) mv_X3_130 rfl 5 rfl [5, 6, 8, 10, 11, 12] rfl rfl hl.1 rfl (Nat.le_of_ble_eq_true rfl) (rok (by decide)) dX3_will_73 (fun H locs h => ?_)
          refine lv_if_eq (tgt := 89) hx hb dX3_will_76 rfl (fun c16 => ?_) (fun c16 => ?_)
          · replace hf := ifp c16 hf
            obtain ⟨t17, et17⟩ : ∃ y : Int32, y = v3 + (1 : Int32) := ⟨_, rfl⟩
            replace hf := lt1_inv et17 hf
            refine lv_iinc (v := t17) (lv' := [(3, .int t17), (0, .ref h_this), (2, .int p1)]) hx hb dX3_will_89 hl (k := 2) rfl (by rw [et17]; rfl) (by decide) rfl (fun ls hl => ?_)
            refine lv_goto (tgt := 36) hx hb dX3_will_92 rfl ?_
            exact hK2 _ _ _ _ (ih t17 g_this_rules_facts hf) _ _ _ h (lv_sub hl [1, 2, 0] rfl)
          · replace hf := ifn c16 hf
            refine lv_aload_n hx hb dX3_will_79 rfl (lv_at hl 0 rfl) ?_
            refine r_get C h fk_X3_40 2 rfl rfl dX3_will_80 ?_
            refine r_get C h fk_X3_133 5 rfl rfl dX3_will_83 ?_
            refine lv_iload_n hx hb dX3_will_86 rfl (lv_at hl 2 rfl) ?_
            replace hf := chkI_inv hf
            obtain ⟨hi18, hf⟩ := hf
            refine r_iald C h 7 rfl hi18 dX3_will_87 ?_
            cases hf
            exact r_iret C h hr hlk rfl dX3_will_88
  refine lv_aload_n hx hb dX3_will_0 rfl (lv_at hl 0 rfl) ?_
  refine r_get C h fk_X3_40 2 rfl rfl dX3_will_1 ?_
  refine lv_aload_n hx hb dX3_will_4 rfl (lv_at hl 1 rfl) ?_
  refine r_get C h fk_X3_83 0 rfl rfl dX3_will_5 ?_
  refine lv_aload_n hx hb dX3_will_8 rfl (lv_at hl 1 rfl) ?_
  refine r_get C h fk_X3_86 0 rfl rfl dX3_will_9 ?_
  refine lv_iload_n hx hb dX3_will_12 rfl (lv_at hl 2 rfl) ?_
  replace hf := chkI_inv hf
  obtain ⟨hi1, hf⟩ := hf
  refine r_iald C h 1 rfl hi1 dX3_will_13 ?_
  refine lv_aload_n hx hb dX3_will_14 rfl (lv_at hl 0 rfl) ?_
  refine r_get C h fk_X3_15 2 rfl rfl dX3_will_15 ?_
  refine lv_iload_n hx hb dX3_will_18 rfl (lv_at hl 2 rfl) ?_
  replace hf := chkI_inv hf
  obtain ⟨hi2, hf⟩ := hf
  refine r_iald C h 13 rfl hi2 dX3_will_19 ?_
  refine lv_aload_n hx hb dX3_will_20 rfl (lv_at hl 0 rfl) ?_
  refine lv_aload_n hx hb dX3_will_21 rfl (lv_at hl 1 rfl) ?_
  refine r_get C h fk_X3_83 0 rfl rfl dX3_will_22 ?_
  replace hf := bd1_inv hf
  obtain ⟨r3, hc4, hf⟩ := hf
  refine r_ciV0 C h (c_X3_lightAt hc4) mv_X3_97 rfl 2 rfl [2, 4] rfl rfl hl.1 rfl (Nat.le_of_ble_eq_true rfl) (rok (by decide)) dX3_will_25 (fun H locs h => ?_)
  refine lv_iconst (v := (2 : Int32)) hx hb dX3_will_28 rfl ?_
  refine lv_ishr hx hb dX3_will_29 ?_
  refine lv_iload_n hx hb dX3_will_30 rfl (lv_at hl 2 rfl) ?_
  replace hf := bd1_inv hf
  obtain ⟨g5, hc6, hf⟩ := hf
  refine r_cvV (ws' := [(h_a0, ob 6 [.ref h_a0_off, .int x_a0_watch, .int x_a0_score, .int x_a0_home]), (h_a0_off, ia G 6 f_a0_off), (h_this, ob 3 [.ref h_this_kinds, .ref h_this_trims, .ref h_this_lanes, .ref h_this_lights, .ref h_this_currents, .ref h_this_buoys, .ref h_this_now, .ref h_this_rules, .ref h_this_reports, .int x_this_count, .int x_this_end, .int x_this_z]), (h_this_kinds, ia G 6 f_this_kinds), (h_this_lights, ia G 16 f_this_lights), (h_this_rules, ob 5 [.ref h_this_rules_kinds, .ref h_this_rules_deeds, .ref h_this_rules_begins, .ref h_this_rules_steps, .ref h_this_rules_lefts, .ref h_this_rules_rights, .ref h_this_rules_facts, .int x_this_rules_count, .int x_this_rules_size]), (h_this_rules_begins, ia G 9 f_this_rules_begins), (h_this_rules_deeds, ia G 8 f_this_rules_deeds), (h_this_rules_facts, ia G 5 g5), (h_this_rules_kinds, ia G 8 f_this_rules_kinds), (h_this_rules_lefts, ia G 200 f_this_rules_lefts), (h_this_rules_rights, ia G 200 f_this_rules_rights), (h_this_rules_steps, ia G 200 f_this_rules_steps), (h_this_trims, ia G 6 f_this_trims)]) C h (c_X5_learn hc6) mv_X3_120 rfl 5 rfl [5, 8] rfl rfl rfl rfl rfl hl.1 rfl (Nat.le_of_ble_eq_true rfl) (rok (by decide)) dX3_will_31 (fun H locs h => ?_)
  refine lv_iconst (v := (0 : Int32)) hx hb dX3_will_34 rfl ?_
  refine lv_istore_n (lv' := [(3, .int (0 : Int32)), (0, .ref h_this), (1, .ref h_a0), (2, .int p1)]) hx hb dX3_will_35 rfl hl (by decide) rfl (fun ls hl => ?_)
  exact hK2 _ _ _ _ (L36 1000 (0 : Int32) g5 hf) _ _ _ h (lv_sub hl [1, 3, 0] rfl)
def f_X3_mayEnter (p1 : Int32) (x_a0_watch : Int32) (x_a0_home : Int32) (f_a0_off : Nat → Int32) (f_this_buoys : Nat → Int32) (f_this_kinds : Nat → Int32) (f_this_lanes : Nat → Int32) (f_this_lights : Nat → Int32) (x_this_rules_count : Int32) (f_this_rules_begins : Nat → Int32) (f_this_rules_deeds : Nat → Int32) (f_this_rules_facts : Nat → Int32) (f_this_rules_kinds : Nat → Int32) (f_this_rules_lefts : Nat → Int32) (f_this_rules_rights : Nat → Int32) (f_this_rules_steps : Nat → Int32) (f_this_trims : Nat → Int32) : Option (Int32 × (Nat → Int32)) := chkI p1 6 (bd1 (f_X3_inReach p1 (f_this_trims p1.toNatClampNeg) x_a0_watch x_a0_home f_a0_off f_this_buoys f_this_kinds f_this_lanes f_this_lights) (fun r2 => (if r2 = 0 then some ((0 : Int32), f_this_rules_facts) else bd2 (f_X3_will p1 x_a0_watch f_a0_off f_this_kinds f_this_lights x_this_rules_count f_this_rules_begins f_this_rules_deeds f_this_rules_facts f_this_rules_kinds f_this_rules_lefts f_this_rules_rights f_this_rules_steps f_this_trims) (fun r5 g6 => (if r5 = 0 then some ((1 : Int32), g6) else some ((0 : Int32), g6))))))
set_option maxRecDepth 100000 in
set_option maxHeartbeats 4000000 in
theorem c_X3_mayEnter {l : Launch} {G : Gt} {h_a0 h_a0_off h_this h_this_kinds h_this_trims h_this_lanes h_this_lights h_this_currents h_this_buoys h_this_now h_this_rules h_this_reports h_this_rules_kinds h_this_rules_deeds h_this_rules_begins h_this_rules_steps h_this_rules_lefts h_this_rules_rights h_this_rules_facts : Nat} {p1 : Int32} {x_a0_watch : Int32} {x_a0_score : Int32} {x_a0_home : Int32} {f_a0_off : Nat → Int32} {x_this_count : Int32} {x_this_end : Int32} {x_this_z : Int32} {f_this_buoys : Nat → Int32} {f_this_kinds : Nat → Int32} {f_this_lanes : Nat → Int32} {f_this_lights : Nat → Int32} {x_this_rules_count : Int32} {x_this_rules_size : Int32} {f_this_rules_begins : Nat → Int32} {f_this_rules_deeds : Nat → Int32} {f_this_rules_facts : Nat → Int32} {f_this_rules_kinds : Nat → Int32} {f_this_rules_lefts : Nat → Int32} {f_this_rules_rights : Nat → Int32} {f_this_rules_steps : Nat → Int32} {f_this_trims : Nat → Int32} {r : Int32} {m_this_rules_facts : Nat → Int32} (hf : f_X3_mayEnter p1 x_a0_watch x_a0_home f_a0_off f_this_buoys f_this_kinds f_this_lanes f_this_lights x_this_rules_count f_this_rules_begins f_this_rules_deeds f_this_rules_facts f_this_rules_kinds f_this_rules_lefts f_this_rules_rights f_this_rules_steps f_this_trims = some (r, m_this_rules_facts)) : mFi l G yX3_mayEnter cX3_mayEnter 3 .boolean 3 [.ref h_this, .ref h_a0, .int p1] [(h_a0, ob 6 [.ref h_a0_off, .int x_a0_watch, .int x_a0_score, .int x_a0_home]), (h_a0_off, ia G 6 f_a0_off), (h_this, ob 3 [.ref h_this_kinds, .ref h_this_trims, .ref h_this_lanes, .ref h_this_lights, .ref h_this_currents, .ref h_this_buoys, .ref h_this_now, .ref h_this_rules, .ref h_this_reports, .int x_this_count, .int x_this_end, .int x_this_z]), (h_this_buoys, ia G 6 f_this_buoys), (h_this_kinds, ia G 6 f_this_kinds), (h_this_lanes, ia G 6 f_this_lanes), (h_this_lights, ia G 16 f_this_lights), (h_this_rules, ob 5 [.ref h_this_rules_kinds, .ref h_this_rules_deeds, .ref h_this_rules_begins, .ref h_this_rules_steps, .ref h_this_rules_lefts, .ref h_this_rules_rights, .ref h_this_rules_facts, .int x_this_rules_count, .int x_this_rules_size]), (h_this_rules_begins, ia G 9 f_this_rules_begins), (h_this_rules_deeds, ia G 8 f_this_rules_deeds), (h_this_rules_facts, ia G 5 f_this_rules_facts), (h_this_rules_kinds, ia G 8 f_this_rules_kinds), (h_this_rules_lefts, ia G 200 f_this_rules_lefts), (h_this_rules_rights, ia G 200 f_this_rules_rights), (h_this_rules_steps, ia G 200 f_this_rules_steps), (h_this_trims, ia G 6 f_this_trims)] r [(h_a0, ob 6 [.ref h_a0_off, .int x_a0_watch, .int x_a0_score, .int x_a0_home]), (h_a0_off, ia G 6 f_a0_off), (h_this, ob 3 [.ref h_this_kinds, .ref h_this_trims, .ref h_this_lanes, .ref h_this_lights, .ref h_this_currents, .ref h_this_buoys, .ref h_this_now, .ref h_this_rules, .ref h_this_reports, .int x_this_count, .int x_this_end, .int x_this_z]), (h_this_buoys, ia G 6 f_this_buoys), (h_this_kinds, ia G 6 f_this_kinds), (h_this_lanes, ia G 6 f_this_lanes), (h_this_lights, ia G 16 f_this_lights), (h_this_rules, ob 5 [.ref h_this_rules_kinds, .ref h_this_rules_deeds, .ref h_this_rules_begins, .ref h_this_rules_steps, .ref h_this_rules_lefts, .ref h_this_rules_rights, .ref h_this_rules_facts, .int x_this_rules_count, .int x_this_rules_size]), (h_this_rules_begins, ia G 9 f_this_rules_begins), (h_this_rules_deeds, ia G 8 f_this_rules_deeds), (h_this_rules_facts, ia G 5 m_this_rules_facts), (h_this_rules_kinds, ia G 8 f_this_rules_kinds), (h_this_rules_lefts, ia G 200 f_this_rules_lefts), (h_this_rules_rights, ia G 200 f_this_rules_rights), (h_this_rules_steps, ia G 200 f_this_rules_steps), (h_this_trims, ia G 6 f_this_trims)] := by
  refine mFi.of (by decide +kernel) (Nat.le_of_ble_eq_true rfl) ?_
  intro p e s m below meth c A C hr hlk h ls hl
  obtain ⟨hx, hb, hml, hown, hts⟩ := id C
  replace hl : lv_has ls 3 [(0, .ref h_this), (1, .ref h_a0), (2, .int p1)] := hl
  unfold f_X3_mayEnter at hf
  refine lv_aload_n hx hb dX3_mayEnter_0 rfl (lv_at hl 0 rfl) ?_
  refine lv_aload_n hx hb dX3_mayEnter_1 rfl (lv_at hl 1 rfl) ?_
  refine lv_iload_n hx hb dX3_mayEnter_2 rfl (lv_at hl 2 rfl) ?_
  refine lv_aload_n hx hb dX3_mayEnter_3 rfl (lv_at hl 0 rfl) ?_
  refine r_get C h fk_X3_15 2 rfl rfl dX3_mayEnter_4 ?_
  refine lv_iload_n hx hb dX3_mayEnter_7 rfl (lv_at hl 2 rfl) ?_
  replace hf := chkI_inv hf
  obtain ⟨hi1, hf⟩ := hf
  refine r_iald C h 15 rfl hi1 dX3_mayEnter_8 ?_
  replace hf := bd1_inv hf
  obtain ⟨r2, hc3, hf⟩ := hf
  refine r_ciV0 C h (c_X3_inReach hc3) mv_X3_116 rfl 2 rfl [0, 1, 2, 3, 4, 5, 6] rfl rfl hl.1 rfl (Nat.le_of_ble_eq_true rfl) (rok (by decide)) dX3_mayEnter_9 (fun H locs h => ?_)
  refine lv_if_eq (tgt := 28) hx hb dX3_mayEnter_12 rfl (fun c4 => ?_) (fun c4 => ?_)
  · replace hf := ifp c4 hf
    refine lv_iconst (v := (0 : Int32)) hx hb dX3_mayEnter_28 rfl ?_
    cases hf
    exact r_iret C h hr hlk rfl dX3_mayEnter_29
  · replace hf := ifn c4 hf
    refine lv_aload_n hx hb dX3_mayEnter_15 rfl (lv_at hl 0 rfl) ?_
    refine lv_aload_n hx hb dX3_mayEnter_16 rfl (lv_at hl 1 rfl) ?_
    refine lv_iload_n hx hb dX3_mayEnter_17 rfl (lv_at hl 2 rfl) ?_
    replace hf := bd2_inv hf
    obtain ⟨r5, g6, hc7, hf⟩ := hf
    refine r_ciV (ws' := [(h_a0, ob 6 [.ref h_a0_off, .int x_a0_watch, .int x_a0_score, .int x_a0_home]), (h_a0_off, ia G 6 f_a0_off), (h_this, ob 3 [.ref h_this_kinds, .ref h_this_trims, .ref h_this_lanes, .ref h_this_lights, .ref h_this_currents, .ref h_this_buoys, .ref h_this_now, .ref h_this_rules, .ref h_this_reports, .int x_this_count, .int x_this_end, .int x_this_z]), (h_this_buoys, ia G 6 f_this_buoys), (h_this_kinds, ia G 6 f_this_kinds), (h_this_lanes, ia G 6 f_this_lanes), (h_this_lights, ia G 16 f_this_lights), (h_this_rules, ob 5 [.ref h_this_rules_kinds, .ref h_this_rules_deeds, .ref h_this_rules_begins, .ref h_this_rules_steps, .ref h_this_rules_lefts, .ref h_this_rules_rights, .ref h_this_rules_facts, .int x_this_rules_count, .int x_this_rules_size]), (h_this_rules_begins, ia G 9 f_this_rules_begins), (h_this_rules_deeds, ia G 8 f_this_rules_deeds), (h_this_rules_facts, ia G 5 g6), (h_this_rules_kinds, ia G 8 f_this_rules_kinds), (h_this_rules_lefts, ia G 200 f_this_rules_lefts), (h_this_rules_rights, ia G 200 f_this_rules_rights), (h_this_rules_steps, ia G 200 f_this_rules_steps), (h_this_trims, ia G 6 f_this_trims)]) C h (c_X3_will hc7) mv_X3_136 rfl 2 rfl [0, 1, 2, 4, 6, 7, 8, 9, 10, 11, 12, 13, 14, 15] rfl rfl rfl rfl rfl hl.1 rfl (Nat.le_of_ble_eq_true rfl) (rok (by decide)) dX3_mayEnter_18 (fun H locs h => ?_)
    refine lv_if_ne (tgt := 28) hx hb dX3_mayEnter_21 rfl (fun c8 => ?_) (fun c8 => ?_)
    · replace hf := ifn c8 hf
      refine lv_iconst (v := (0 : Int32)) hx hb dX3_mayEnter_28 rfl ?_
      cases hf
      exact r_iret C h hr hlk rfl dX3_mayEnter_29
    · replace hf := ifp c8 hf
      refine lv_iconst (v := (1 : Int32)) hx hb dX3_mayEnter_24 rfl ?_
      refine lv_goto (tgt := 29) hx hb dX3_mayEnter_25 rfl ?_
      cases hf
      exact r_iret C h hr hlk rfl dX3_mayEnter_29
def f_X8_shipOf (p0 : Int32) (p1 : Int32) (x_this_rock_count : Int32) (f_this_rock_buoys : Nat → Int32) (f_this_rock_currents : Nat → Int32) (f_this_rock_kinds : Nat → Int32) (f_this_rock_lanes : Nat → Int32) (f_this_rock_lights : Nat → Int32) (x_this_rock_now_watch : Int32) (x_this_rock_now_home : Int32) (f_this_rock_now_off : Nat → Int32) (x_this_rock_rules_count : Int32) (f_this_rock_rules_begins : Nat → Int32) (f_this_rock_rules_deeds : Nat → Int32) (f_this_rock_rules_facts : Nat → Int32) (f_this_rock_rules_kinds : Nat → Int32) (f_this_rock_rules_lefts : Nat → Int32) (f_this_rock_rules_rights : Nat → Int32) (f_this_rock_rules_steps : Nat → Int32) (f_this_rock_trims : Nat → Int32) : Option (Int32 × (Nat → Int32)) := bd1 (f_X3_has p0 x_this_rock_count) (fun r1 => (if r1 = 0 then some ((-1 : Int32), f_this_rock_rules_facts) else (if p1 = (0 : Int32) then chkI p0 6 (some (f_this_rock_kinds p0.toNatClampNeg, f_this_rock_rules_facts)) else (if p1 = (1 : Int32) then chkI p0 6 (some (f_this_rock_now_off p0.toNatClampNeg, f_this_rock_rules_facts)) else (if p1 = (2 : Int32) then chkI p0 6 (some (f_this_rock_trims p0.toNatClampNeg, f_this_rock_rules_facts)) else (if p1 = (3 : Int32) then chkI p0 6 (some (f_this_rock_lanes p0.toNatClampNeg, f_this_rock_rules_facts)) else (if p1 = (4 : Int32) then bd1 (f_X6_isHome p0 x_this_rock_now_home) (fun r18 => (if r18 = 0 then some ((0 : Int32), f_this_rock_rules_facts) else some ((1 : Int32), f_this_rock_rules_facts))) else (if p1 = (5 : Int32) then bd1 (f_X3_nears p0 x_this_rock_now_watch x_this_rock_now_home x_this_rock_count f_this_rock_currents f_this_rock_kinds f_this_rock_lanes f_this_rock_lights) (fun r21 => some (r21, f_this_rock_rules_facts)) else (if p1 = (6 : Int32) then chkI p0 6 (bd1 (f_X3_reaches p0 (f_this_rock_trims p0.toNatClampNeg) x_this_rock_now_watch f_this_rock_buoys f_this_rock_kinds f_this_rock_lanes f_this_rock_lights) (fun r24 => some (r24, f_this_rock_rules_facts))) else (if p1 = (7 : Int32) then bd1 (f_X3_pays p0 x_this_rock_now_watch x_this_rock_now_home f_this_rock_now_off f_this_rock_buoys f_this_rock_kinds f_this_rock_lanes f_this_rock_lights f_this_rock_trims) (fun r26 => some (r26, f_this_rock_rules_facts)) else (if p1 = (8 : Int32) then bd2 (f_X3_mayEnter p0 x_this_rock_now_watch x_this_rock_now_home f_this_rock_now_off f_this_rock_buoys f_this_rock_kinds f_this_rock_lanes f_this_rock_lights x_this_rock_rules_count f_this_rock_rules_begins f_this_rock_rules_deeds f_this_rock_rules_facts f_this_rock_rules_kinds f_this_rock_rules_lefts f_this_rock_rules_rights f_this_rock_rules_steps f_this_rock_trims) (fun r28 g29 => (if r28 = 0 then some ((0 : Int32), g29) else some ((1 : Int32), g29))) else (if p1 = (9 : Int32) then bd2 (f_X3_will p0 x_this_rock_now_watch f_this_rock_now_off f_this_rock_kinds f_this_rock_lights x_this_rock_rules_count f_this_rock_rules_begins f_this_rock_rules_deeds f_this_rock_rules_facts f_this_rock_rules_kinds f_this_rock_rules_lefts f_this_rock_rules_rights f_this_rock_rules_steps f_this_rock_trims) (fun r32 g33 => some (r32, g33)) else some ((-1 : Int32), f_this_rock_rules_facts)))))))))))))
set_option maxRecDepth 100000 in
set_option maxHeartbeats 4000000 in
theorem c_X8_shipOf {l : Launch} {G : Gt} {h_this h_this_rock h_this_kept h_this_trial h_this_planner h_this_reader h_this_draft h_this_host h_this_thing h_this_tape h_this_rows h_this_rock_kinds h_this_rock_trims h_this_rock_lanes h_this_rock_lights h_this_rock_currents h_this_rock_buoys h_this_rock_now h_this_rock_rules h_this_rock_reports h_this_rock_now_off h_this_rock_rules_kinds h_this_rock_rules_deeds h_this_rock_rules_begins h_this_rock_rules_steps h_this_rock_rules_lefts h_this_rock_rules_rights h_this_rock_rules_facts : Nat} {p0 : Int32} {p1 : Int32} {x_this_tapeCount : Int32} {x_this_rowCount : Int32} {x_this_isKept : Int32} {x_this_rock_count : Int32} {x_this_rock_end : Int32} {x_this_rock_z : Int32} {f_this_rock_buoys : Nat → Int32} {f_this_rock_currents : Nat → Int32} {f_this_rock_kinds : Nat → Int32} {f_this_rock_lanes : Nat → Int32} {f_this_rock_lights : Nat → Int32} {x_this_rock_now_watch : Int32} {x_this_rock_now_score : Int32} {x_this_rock_now_home : Int32} {f_this_rock_now_off : Nat → Int32} {x_this_rock_rules_count : Int32} {x_this_rock_rules_size : Int32} {f_this_rock_rules_begins : Nat → Int32} {f_this_rock_rules_deeds : Nat → Int32} {f_this_rock_rules_facts : Nat → Int32} {f_this_rock_rules_kinds : Nat → Int32} {f_this_rock_rules_lefts : Nat → Int32} {f_this_rock_rules_rights : Nat → Int32} {f_this_rock_rules_steps : Nat → Int32} {f_this_rock_trims : Nat → Int32} {r : Int32} {m_this_rock_rules_facts : Nat → Int32} (hf : f_X8_shipOf p0 p1 x_this_rock_count f_this_rock_buoys f_this_rock_currents f_this_rock_kinds f_this_rock_lanes f_this_rock_lights x_this_rock_now_watch x_this_rock_now_home f_this_rock_now_off x_this_rock_rules_count f_this_rock_rules_begins f_this_rock_rules_deeds f_this_rock_rules_facts f_this_rock_rules_kinds f_this_rock_rules_lefts f_this_rock_rules_rights f_this_rock_rules_steps f_this_rock_trims = some (r, m_this_rock_rules_facts)) : mFi l G yX8_shipOf cX8_shipOf 4 .int 4 [.ref h_this, .int p0, .int p1] [(h_this, ob 8 [.ref h_this_rock, .ref h_this_kept, .ref h_this_trial, .ref h_this_planner, .ref h_this_reader, .ref h_this_draft, .ref h_this_host, .ref h_this_thing, .ref h_this_tape, .ref h_this_rows, .int x_this_tapeCount, .int x_this_rowCount, .int x_this_isKept]), (h_this_rock, ob 3 [.ref h_this_rock_kinds, .ref h_this_rock_trims, .ref h_this_rock_lanes, .ref h_this_rock_lights, .ref h_this_rock_currents, .ref h_this_rock_buoys, .ref h_this_rock_now, .ref h_this_rock_rules, .ref h_this_rock_reports, .int x_this_rock_count, .int x_this_rock_end, .int x_this_rock_z]), (h_this_rock_buoys, ia G 6 f_this_rock_buoys), (h_this_rock_currents, ia G 6 f_this_rock_currents), (h_this_rock_kinds, ia G 6 f_this_rock_kinds), (h_this_rock_lanes, ia G 6 f_this_rock_lanes), (h_this_rock_lights, ia G 16 f_this_rock_lights), (h_this_rock_now, ob 6 [.ref h_this_rock_now_off, .int x_this_rock_now_watch, .int x_this_rock_now_score, .int x_this_rock_now_home]), (h_this_rock_now_off, ia G 6 f_this_rock_now_off), (h_this_rock_rules, ob 5 [.ref h_this_rock_rules_kinds, .ref h_this_rock_rules_deeds, .ref h_this_rock_rules_begins, .ref h_this_rock_rules_steps, .ref h_this_rock_rules_lefts, .ref h_this_rock_rules_rights, .ref h_this_rock_rules_facts, .int x_this_rock_rules_count, .int x_this_rock_rules_size]), (h_this_rock_rules_begins, ia G 9 f_this_rock_rules_begins), (h_this_rock_rules_deeds, ia G 8 f_this_rock_rules_deeds), (h_this_rock_rules_facts, ia G 5 f_this_rock_rules_facts), (h_this_rock_rules_kinds, ia G 8 f_this_rock_rules_kinds), (h_this_rock_rules_lefts, ia G 200 f_this_rock_rules_lefts), (h_this_rock_rules_rights, ia G 200 f_this_rock_rules_rights), (h_this_rock_rules_steps, ia G 200 f_this_rock_rules_steps), (h_this_rock_trims, ia G 6 f_this_rock_trims)] r [(h_this, ob 8 [.ref h_this_rock, .ref h_this_kept, .ref h_this_trial, .ref h_this_planner, .ref h_this_reader, .ref h_this_draft, .ref h_this_host, .ref h_this_thing, .ref h_this_tape, .ref h_this_rows, .int x_this_tapeCount, .int x_this_rowCount, .int x_this_isKept]), (h_this_rock, ob 3 [.ref h_this_rock_kinds, .ref h_this_rock_trims, .ref h_this_rock_lanes, .ref h_this_rock_lights, .ref h_this_rock_currents, .ref h_this_rock_buoys, .ref h_this_rock_now, .ref h_this_rock_rules, .ref h_this_rock_reports, .int x_this_rock_count, .int x_this_rock_end, .int x_this_rock_z]), (h_this_rock_buoys, ia G 6 f_this_rock_buoys), (h_this_rock_currents, ia G 6 f_this_rock_currents), (h_this_rock_kinds, ia G 6 f_this_rock_kinds), (h_this_rock_lanes, ia G 6 f_this_rock_lanes), (h_this_rock_lights, ia G 16 f_this_rock_lights), (h_this_rock_now, ob 6 [.ref h_this_rock_now_off, .int x_this_rock_now_watch, .int x_this_rock_now_score, .int x_this_rock_now_home]), (h_this_rock_now_off, ia G 6 f_this_rock_now_off), (h_this_rock_rules, ob 5 [.ref h_this_rock_rules_kinds, .ref h_this_rock_rules_deeds, .ref h_this_rock_rules_begins, .ref h_this_rock_rules_steps, .ref h_this_rock_rules_lefts, .ref h_this_rock_rules_rights, .ref h_this_rock_rules_facts, .int x_this_rock_rules_count, .int x_this_rock_rules_size]), (h_this_rock_rules_begins, ia G 9 f_this_rock_rules_begins), (h_this_rock_rules_deeds, ia G 8 f_this_rock_rules_deeds), (h_this_rock_rules_facts, ia G 5 m_this_rock_rules_facts), (h_this_rock_rules_kinds, ia G 8 f_this_rock_rules_kinds), (h_this_rock_rules_lefts, ia G 200 f_this_rock_rules_lefts), (h_this_rock_rules_rights, ia G 200 f_this_rock_rules_rights), (h_this_rock_rules_steps, ia G 200 f_this_rock_rules_steps), (h_this_rock_trims, ia G 6 f_this_rock_trims)] := by
  refine mFi.of (by decide +kernel) (Nat.le_of_ble_eq_true rfl) ?_
  intro p e s m below meth c A C hr hlk h ls hl
  obtain ⟨hx, hb, hml, hown, hts⟩ := id C
  replace hl : lv_has ls 4 [(0, .ref h_this), (1, .int p0), (2, .int p1)] := hl
  unfold f_X8_shipOf at hf
  refine lv_aload_n hx hb dX8_shipOf_0 rfl (lv_at hl 0 rfl) ?_
  refine r_get C h fk_X8_10 0 rfl rfl dX8_shipOf_1 ?_
  refine lv_iload_n hx hb dX8_shipOf_4 rfl (lv_at hl 1 rfl) ?_
  replace hf := bd1_inv hf
  obtain ⟨r1, hc2, hf⟩ := hf
  refine r_ciV0 C h (c_X3_has hc2) mv_X8_90 rfl 1 rfl [1] rfl rfl hl.1 rfl (Nat.le_of_ble_eq_true rfl) (rok (by decide)) dX8_shipOf_5 (fun H locs h => ?_)
  refine lv_if_ne (tgt := 13) hx hb dX8_shipOf_8 rfl (fun c3 => ?_) (fun c3 => ?_)
  · replace hf := ifn c3 hf
    refine lv_aload_n hx hb dX8_shipOf_13 rfl (lv_at hl 0 rfl) ?_
    refine r_get C h fk_X8_10 0 rfl rfl dX8_shipOf_14 ?_
    refine r_get C h fk_X8_94 1 rfl rfl dX8_shipOf_17 ?_
    refine lv_astore_n (lv' := [(3, .ref h_this_rock_now), (0, .ref h_this), (1, .int p0), (2, .int p1)]) hx hb dX8_shipOf_20 rfl hl (by decide) rfl (fun ls hl => ?_)
    refine lv_iload_n hx hb dX8_shipOf_21 rfl (lv_at hl 3 rfl) ?_
    by_cases c4 : p1 = (0 : Int32)
    · replace hf := ifp c4 hf
      refine r_tab (tgt := 76) C dX8_shipOf_22 (0 : Int32) c4 (by decide) rfl rfl ?_
      refine lv_aload_n hx hb dX8_shipOf_76 rfl (lv_at hl 1 rfl) ?_
      refine r_get C h fk_X8_10 0 rfl rfl dX8_shipOf_77 ?_
      refine r_get C h fk_X8_97 1 rfl rfl dX8_shipOf_80 ?_
      refine lv_iload_n hx hb dX8_shipOf_83 rfl (lv_at hl 2 rfl) ?_
      replace hf := chkI_inv hf
      obtain ⟨hi14, hf⟩ := hf
      refine r_iald C h 4 rfl hi14 dX8_shipOf_84 ?_
      cases hf
      exact r_iret C h hr hlk rfl dX8_shipOf_85
    · replace hf := ifn c4 hf
      by_cases c5 : p1 = (1 : Int32)
      · replace hf := ifp c5 hf
        refine r_tab (tgt := 86) C dX8_shipOf_22 (1 : Int32) c5 (by decide) rfl rfl ?_
        refine lv_aload_n hx hb dX8_shipOf_86 rfl (lv_at hl 0 rfl) ?_
        refine r_get C h fk_X8_100 7 rfl rfl dX8_shipOf_87 ?_
        refine lv_iload_n hx hb dX8_shipOf_90 rfl (lv_at hl 2 rfl) ?_
        replace hf := chkI_inv hf
        obtain ⟨hi15, hf⟩ := hf
        refine r_iald C h 8 rfl hi15 dX8_shipOf_91 ?_
        cases hf
        exact r_iret C h hr hlk rfl dX8_shipOf_92
      · replace hf := ifn c5 hf
        by_cases c6 : p1 = (2 : Int32)
        · replace hf := ifp c6 hf
          refine r_tab (tgt := 93) C dX8_shipOf_22 (2 : Int32) c6 (by decide) rfl rfl ?_
          refine lv_aload_n hx hb dX8_shipOf_93 rfl (lv_at hl 1 rfl) ?_
          refine r_get C h fk_X8_10 0 rfl rfl dX8_shipOf_94 ?_
          refine r_get C h fk_X8_103 1 rfl rfl dX8_shipOf_97 ?_
          refine lv_iload_n hx hb dX8_shipOf_100 rfl (lv_at hl 2 rfl) ?_
          replace hf := chkI_inv hf
          obtain ⟨hi16, hf⟩ := hf
          refine r_iald C h 17 rfl hi16 dX8_shipOf_101 ?_
          cases hf
          exact r_iret C h hr hlk rfl dX8_shipOf_102
        · replace hf := ifn c6 hf
          by_cases c7 : p1 = (3 : Int32)
          · replace hf := ifp c7 hf
            refine r_tab (tgt := 103) C dX8_shipOf_22 (3 : Int32) c7 (by decide) rfl rfl ?_
            refine lv_aload_n hx hb dX8_shipOf_103 rfl (lv_at hl 1 rfl) ?_
            refine r_get C h fk_X8_10 0 rfl rfl dX8_shipOf_104 ?_
            refine r_get C h fk_X8_106 1 rfl rfl dX8_shipOf_107 ?_
            refine lv_iload_n hx hb dX8_shipOf_110 rfl (lv_at hl 2 rfl) ?_
            replace hf := chkI_inv hf
            obtain ⟨hi17, hf⟩ := hf
            refine r_iald C h 5 rfl hi17 dX8_shipOf_111 ?_
            cases hf
            exact r_iret C h hr hlk rfl dX8_shipOf_112
          · replace hf := ifn c7 hf
            by_cases c8 : p1 = (4 : Int32)
            · replace hf := ifp c8 hf
              refine r_tab (tgt := 113) C dX8_shipOf_22 (4 : Int32) c8 (by decide) rfl rfl ?_
              refine lv_aload_n hx hb dX8_shipOf_113 rfl (lv_at hl 0 rfl) ?_
              refine lv_iload_n hx hb dX8_shipOf_114 rfl (lv_at hl 2 rfl) ?_
              replace hf := bd1_inv hf
              obtain ⟨r18, hc19, hf⟩ := hf
              refine r_ciV0 C h (c_X6_isHome hc19) mv_X8_109 rfl 7 rfl [7] rfl rfl hl.1 rfl (Nat.le_of_ble_eq_true rfl) (rok (by decide)) dX8_shipOf_115 (fun H locs h => ?_)
              refine lv_if_eq (tgt := 125) hx hb dX8_shipOf_118 rfl (fun c20 => ?_) (fun c20 => ?_)
              · replace hf := ifp c20 hf
                refine lv_iconst (v := (0 : Int32)) hx hb dX8_shipOf_125 rfl ?_
                cases hf
                exact r_iret C h hr hlk rfl dX8_shipOf_126
              · replace hf := ifn c20 hf
                refine lv_iconst (v := (1 : Int32)) hx hb dX8_shipOf_121 rfl ?_
                refine lv_goto (tgt := 126) hx hb dX8_shipOf_122 rfl ?_
                cases hf
                exact r_iret C h hr hlk rfl dX8_shipOf_126
            · replace hf := ifn c8 hf
              by_cases c9 : p1 = (5 : Int32)
              · replace hf := ifp c9 hf
                refine r_tab (tgt := 127) C dX8_shipOf_22 (5 : Int32) c9 (by decide) rfl rfl ?_
                refine lv_aload_n hx hb dX8_shipOf_127 rfl (lv_at hl 1 rfl) ?_
                refine r_get C h fk_X8_10 0 rfl rfl dX8_shipOf_128 ?_
                refine lv_aload_n hx hb dX8_shipOf_131 rfl (lv_at hl 0 rfl) ?_
                refine lv_iload_n hx hb dX8_shipOf_132 rfl (lv_at hl 2 rfl) ?_
                replace hf := bd1_inv hf
                obtain ⟨r21, hc22, hf⟩ := hf
                refine r_ciV0 C h (c_X3_nears hc22) mv_X8_112 rfl 1 rfl [7, 1, 3, 4, 5, 6] rfl rfl hl.1 rfl (Nat.le_of_ble_eq_true rfl) (rok (by decide)) dX8_shipOf_133 (fun H locs h => ?_)
                cases hf
                exact r_iret C h hr hlk rfl dX8_shipOf_136
              · replace hf := ifn c9 hf
                by_cases c10 : p1 = (6 : Int32)
                · replace hf := ifp c10 hf
                  refine r_tab (tgt := 137) C dX8_shipOf_22 (6 : Int32) c10 (by decide) rfl rfl ?_
                  refine lv_aload_n hx hb dX8_shipOf_137 rfl (lv_at hl 1 rfl) ?_
                  refine r_get C h fk_X8_10 0 rfl rfl dX8_shipOf_138 ?_
                  refine lv_aload_n hx hb dX8_shipOf_141 rfl (lv_at hl 0 rfl) ?_
                  refine lv_iload_n hx hb dX8_shipOf_142 rfl (lv_at hl 2 rfl) ?_
                  refine lv_aload_n hx hb dX8_shipOf_143 rfl (lv_at hl 1 rfl) ?_
                  refine r_get C h fk_X8_10 0 rfl rfl dX8_shipOf_144 ?_
                  refine r_get C h fk_X8_103 1 rfl rfl dX8_shipOf_147 ?_
                  refine lv_iload_n hx hb dX8_shipOf_150 rfl (lv_at hl 2 rfl) ?_
                  replace hf := chkI_inv hf
                  obtain ⟨hi23, hf⟩ := hf
                  refine r_iald C h 17 rfl hi23 dX8_shipOf_151 ?_
                  replace hf := bd1_inv hf
                  obtain ⟨r24, hc25, hf⟩ := hf
                  refine r_ciV0 C h (c_X3_reaches hc25) mv_X8_116 rfl 1 rfl [7, 1, 2, 4, 5, 6] rfl rfl hl.1 rfl (Nat.le_of_ble_eq_true rfl) (rok (by decide)) dX8_shipOf_152 (fun H locs h => ?_)
                  cases hf
                  exact r_iret C h hr hlk rfl dX8_shipOf_155
                · replace hf := ifn c10 hf
                  by_cases c11 : p1 = (7 : Int32)
                  · replace hf := ifp c11 hf
                    refine r_tab (tgt := 156) C dX8_shipOf_22 (7 : Int32) c11 (by decide) rfl rfl ?_
                    refine lv_aload_n hx hb dX8_shipOf_156 rfl (lv_at hl 1 rfl) ?_
                    refine r_get C h fk_X8_10 0 rfl rfl dX8_shipOf_157 ?_
                    refine lv_aload_n hx hb dX8_shipOf_160 rfl (lv_at hl 0 rfl) ?_
                    refine lv_iload_n hx hb dX8_shipOf_161 rfl (lv_at hl 2 rfl) ?_
                    replace hf := bd1_inv hf
                    obtain ⟨r26, hc27, hf⟩ := hf
                    refine r_ciV0 C h (c_X3_pays hc27) mv_X8_120 rfl 1 rfl [7, 8, 1, 2, 4, 5, 6, 17] rfl rfl hl.1 rfl (Nat.le_of_ble_eq_true rfl) (rok (by decide)) dX8_shipOf_162 (fun H locs h => ?_)
                    cases hf
                    exact r_iret C h hr hlk rfl dX8_shipOf_165
                  · replace hf := ifn c11 hf
                    by_cases c12 : p1 = (8 : Int32)
                    · replace hf := ifp c12 hf
                      refine r_tab (tgt := 166) C dX8_shipOf_22 (8 : Int32) c12 (by decide) rfl rfl ?_
                      refine lv_aload_n hx hb dX8_shipOf_166 rfl (lv_at hl 1 rfl) ?_
                      refine r_get C h fk_X8_10 0 rfl rfl dX8_shipOf_167 ?_
                      refine lv_aload_n hx hb dX8_shipOf_170 rfl (lv_at hl 0 rfl) ?_
                      refine lv_iload_n hx hb dX8_shipOf_171 rfl (lv_at hl 2 rfl) ?_
                      replace hf := bd2_inv hf
                      obtain ⟨r28, g29, hc30, hf⟩ := hf
                      refine r_ciV (ws' := [(h_this, ob 8 [.ref h_this_rock, .ref h_this_kept, .ref h_this_trial, .ref h_this_planner, .ref h_this_reader, .ref h_this_draft, .ref h_this_host, .ref h_this_thing, .ref h_this_tape, .ref h_this_rows, .int x_this_tapeCount, .int x_this_rowCount, .int x_this_isKept]), (h_this_rock, ob 3 [.ref h_this_rock_kinds, .ref h_this_rock_trims, .ref h_this_rock_lanes, .ref h_this_rock_lights, .ref h_this_rock_currents, .ref h_this_rock_buoys, .ref h_this_rock_now, .ref h_this_rock_rules, .ref h_this_rock_reports, .int x_this_rock_count, .int x_this_rock_end, .int x_this_rock_z]), (h_this_rock_buoys, ia G 6 f_this_rock_buoys), (h_this_rock_currents, ia G 6 f_this_rock_currents), (h_this_rock_kinds, ia G 6 f_this_rock_kinds), (h_this_rock_lanes, ia G 6 f_this_rock_lanes), (h_this_rock_lights, ia G 16 f_this_rock_lights), (h_this_rock_now, ob 6 [.ref h_this_rock_now_off, .int x_this_rock_now_watch, .int x_this_rock_now_score, .int x_this_rock_now_home]), (h_this_rock_now_off, ia G 6 f_this_rock_now_off), (h_this_rock_rules, ob 5 [.ref h_this_rock_rules_kinds, .ref h_this_rock_rules_deeds, .ref h_this_rock_rules_begins, .ref h_this_rock_rules_steps, .ref h_this_rock_rules_lefts, .ref h_this_rock_rules_rights, .ref h_this_rock_rules_facts, .int x_this_rock_rules_count, .int x_this_rock_rules_size]), (h_this_rock_rules_begins, ia G 9 f_this_rock_rules_begins), (h_this_rock_rules_deeds, ia G 8 f_this_rock_rules_deeds), (h_this_rock_rules_facts, ia G 5 g29), (h_this_rock_rules_kinds, ia G 8 f_this_rock_rules_kinds), (h_this_rock_rules_lefts, ia G 200 f_this_rock_rules_lefts), (h_this_rock_rules_rights, ia G 200 f_this_rock_rules_rights), (h_this_rock_rules_steps, ia G 200 f_this_rock_rules_steps), (h_this_rock_trims, ia G 6 f_this_rock_trims)]) C h (c_X3_mayEnter hc30) mv_X8_123 rfl 1 rfl [7, 8, 1, 2, 4, 5, 6, 9, 10, 11, 12, 13, 14, 15, 16, 17] rfl rfl rfl rfl rfl hl.1 rfl (Nat.le_of_ble_eq_true rfl) (rok (by decide)) dX8_shipOf_172 (fun H locs h => ?_)
                      refine lv_if_eq (tgt := 182) hx hb dX8_shipOf_175 rfl (fun c31 => ?_) (fun c31 => ?_)
                      · replace hf := ifp c31 hf
                        refine lv_iconst (v := (0 : Int32)) hx hb dX8_shipOf_182 rfl ?_
                        cases hf
                        exact r_iret C h hr hlk rfl dX8_shipOf_183
                      · replace hf := ifn c31 hf
                        refine lv_iconst (v := (1 : Int32)) hx hb dX8_shipOf_178 rfl ?_
                        refine lv_goto (tgt := 183) hx hb dX8_shipOf_179 rfl ?_
                        cases hf
                        exact r_iret C h hr hlk rfl dX8_shipOf_183
                    · replace hf := ifn c12 hf
                      by_cases c13 : p1 = (9 : Int32)
                      · replace hf := ifp c13 hf
                        refine r_tab (tgt := 184) C dX8_shipOf_22 (9 : Int32) c13 (by decide) rfl rfl ?_
                        refine lv_aload_n hx hb dX8_shipOf_184 rfl (lv_at hl 1 rfl) ?_
                        refine r_get C h fk_X8_10 0 rfl rfl dX8_shipOf_185 ?_
                        refine lv_aload_n hx hb dX8_shipOf_188 rfl (lv_at hl 0 rfl) ?_
                        refine lv_iload_n hx hb dX8_shipOf_189 rfl (lv_at hl 2 rfl) ?_
                        replace hf := bd2_inv hf
                        obtain ⟨r32, g33, hc34, hf⟩ := hf
                        refine r_ciV (ws' := [(h_this, ob 8 [.ref h_this_rock, .ref h_this_kept, .ref h_this_trial, .ref h_this_planner, .ref h_this_reader, .ref h_this_draft, .ref h_this_host, .ref h_this_thing, .ref h_this_tape, .ref h_this_rows, .int x_this_tapeCount, .int x_this_rowCount, .int x_this_isKept]), (h_this_rock, ob 3 [.ref h_this_rock_kinds, .ref h_this_rock_trims, .ref h_this_rock_lanes, .ref h_this_rock_lights, .ref h_this_rock_currents, .ref h_this_rock_buoys, .ref h_this_rock_now, .ref h_this_rock_rules, .ref h_this_rock_reports, .int x_this_rock_count, .int x_this_rock_end, .int x_this_rock_z]), (h_this_rock_buoys, ia G 6 f_this_rock_buoys), (h_this_rock_currents, ia G 6 f_this_rock_currents), (h_this_rock_kinds, ia G 6 f_this_rock_kinds), (h_this_rock_lanes, ia G 6 f_this_rock_lanes), (h_this_rock_lights, ia G 16 f_this_rock_lights), (h_this_rock_now, ob 6 [.ref h_this_rock_now_off, .int x_this_rock_now_watch, .int x_this_rock_now_score, .int x_this_rock_now_home]), (h_this_rock_now_off, ia G 6 f_this_rock_now_off), (h_this_rock_rules, ob 5 [.ref h_this_rock_rules_kinds, .ref h_this_rock_rules_deeds, .ref h_this_rock_rules_begins, .ref h_this_rock_rules_steps, .ref h_this_rock_rules_lefts, .ref h_this_rock_rules_rights, .ref h_this_rock_rules_facts, .int x_this_rock_rules_count, .int x_this_rock_rules_size]), (h_this_rock_rules_begins, ia G 9 f_this_rock_rules_begins), (h_this_rock_rules_deeds, ia G 8 f_this_rock_rules_deeds), (h_this_rock_rules_facts, ia G 5 g33), (h_this_rock_rules_kinds, ia G 8 f_this_rock_rules_kinds), (h_this_rock_rules_lefts, ia G 200 f_this_rock_rules_lefts), (h_this_rock_rules_rights, ia G 200 f_this_rock_rules_rights), (h_this_rock_rules_steps, ia G 200 f_this_rock_rules_steps), (h_this_rock_trims, ia G 6 f_this_rock_trims)]) C h (c_X3_will hc34) mv_X8_127 rfl 1 rfl [7, 8, 1, 4, 6, 9, 10, 11, 12, 13, 14, 15, 16, 17] rfl rfl rfl rfl rfl hl.1 rfl (Nat.le_of_ble_eq_true rfl) (rok (by decide)) dX8_shipOf_190 (fun H locs h => ?_)
                        cases hf
                        exact r_iret C h hr hlk rfl dX8_shipOf_193
                      · replace hf := ifn c13 hf
                        refine r_tabD (tgt := 194) C dX8_shipOf_22 [(0 : Int32), (1 : Int32), (2 : Int32), (3 : Int32), (4 : Int32), (5 : Int32), (6 : Int32), (7 : Int32), (8 : Int32), (9 : Int32)] (by decide) (nel_c c4 (nel_c c5 (nel_c c6 (nel_c c7 (nel_c c8 (nel_c c9 (nel_c c10 (nel_c c11 (nel_c c12 (nel_c c13 nel_0)))))))))) rfl ?_
                        refine lv_iconst (v := (-1 : Int32)) hx hb dX8_shipOf_194 rfl ?_
                        cases hf
                        exact r_iret C h hr hlk rfl dX8_shipOf_195
  · replace hf := ifp c3 hf
    refine lv_iconst (v := (-1 : Int32)) hx hb dX8_shipOf_11 rfl ?_
    cases hf
    exact r_iret C h hr hlk rfl dX8_shipOf_12
def f_X8_put (p1 : Int32) (p2 : Int32) (n_a0 : Nat) (f_a0 : Nat → Int32) : Option (Int32 × (Nat → Int32)) := chkI p1 n_a0 (lt1 (f_a0 p1.toNatClampNeg) (fun (t2 : Int32) => chkI p1 n_a0 (some (t2, upd f_a0 p1.toNatClampNeg p2))))
set_option maxRecDepth 100000 in
set_option maxHeartbeats 4000000 in
theorem c_X8_put {l : Launch} {G : Gt} {h_a0 : Nat} {p1 : Int32} {p2 : Int32} {n_a0 : Nat} {f_a0 : Nat → Int32} {r : Int32} {m_a0 : Nat → Int32} (hf : f_X8_put p1 p2 n_a0 f_a0 = some (r, m_a0)) : mFi l G yX8_put cX8_put 4 .int 0 [.ref h_a0, .int p1, .int p2] [(h_a0, ia G n_a0 f_a0)] r [(h_a0, ia G n_a0 m_a0)] := by
  refine mFi.of (by decide +kernel) (Nat.le_of_ble_eq_true rfl) ?_
  intro p e s m below meth c A C hr hlk h ls hl
  obtain ⟨hx, hb, hml, hown, hts⟩ := id C
  replace hl : lv_has ls 4 [(0, .ref h_a0), (1, .int p1), (2, .int p2)] := hl
  unfold f_X8_put at hf
  refine lv_aload_n hx hb dX8_put_0 rfl (lv_at hl 0 rfl) ?_
  refine lv_iload_n hx hb dX8_put_1 rfl (lv_at hl 1 rfl) ?_
  replace hf := chkI_inv hf
  obtain ⟨hi1, hf⟩ := hf
  refine r_iald C h 0 rfl hi1 dX8_put_2 ?_
  refine lv_topi (fun t2 et2 => ?_)
  replace hf := lt1_inv et2 hf
  refine lv_istore_n (lv' := [(3, .int t2), (0, .ref h_a0), (1, .int p1), (2, .int p2)]) hx hb dX8_put_3 rfl hl (by decide) rfl (fun ls hl => ?_)
  refine lv_aload_n hx hb dX8_put_4 rfl (lv_at hl 1 rfl) ?_
  refine lv_iload_n hx hb dX8_put_5 rfl (lv_at hl 2 rfl) ?_
  refine lv_iload_n hx hb dX8_put_6 rfl (lv_at hl 3 rfl) ?_
  replace hf := chkI_inv hf
  obtain ⟨hi3, hf⟩ := hf
  refine r_iast (ws' := [(h_a0, ia G n_a0 (upd f_a0 p1.toNatClampNeg p2))]) C h 0 rfl hi3 dX8_put_7 rfl (fun H locs h => ?_)
  refine lv_iload_n hx hb dX8_put_8 rfl (lv_at hl 0 rfl) ?_
  cases hf
  exact r_iret C h hr hlk rfl dX8_put_9
def f_X8_change (p0 : Int32) (p1 : Int32) (p2 : Int32) (x_this_rock_count : Int32) (f_this_rock_lanes : Nat → Int32) (x_this_rock_now_home : Int32) (f_this_rock_now_off : Nat → Int32) (f_this_rock_trims : Nat → Int32) : Option (Int32 × (Nat → Int32) × Int32 × (Nat → Int32) × (Nat → Int32)) := bd1 (f_X3_has p0 x_this_rock_count) (fun r1 => (if r1 = 0 then some ((-1 : Int32), f_this_rock_lanes, x_this_rock_now_home, f_this_rock_now_off, f_this_rock_trims) else (if 0 ≤ p2 then (if p1 = (1 : Int32) then (if p2 ≤ (99 : Int32) then bd2 (f_X8_put p0 p2 6 f_this_rock_now_off) (fun r10 g11 => some (r10, f_this_rock_lanes, x_this_rock_now_home, g11, f_this_rock_trims)) else some ((-1 : Int32), f_this_rock_lanes, x_this_rock_now_home, f_this_rock_now_off, f_this_rock_trims)) else (if p1 = (2 : Int32) then (if p2 ≤ (9 : Int32) then bd2 (f_X8_put p0 p2 6 f_this_rock_trims) (fun r14 g15 => some (r14, f_this_rock_lanes, x_this_rock_now_home, f_this_rock_now_off, g15)) else some ((-1 : Int32), f_this_rock_lanes, x_this_rock_now_home, f_this_rock_now_off, f_this_rock_trims)) else (if p1 = (3 : Int32) then (if p2 < (6 : Int32) then bd2 (f_X8_put p0 p2 6 f_this_rock_lanes) (fun r18 g19 => some (r18, g19, x_this_rock_now_home, f_this_rock_now_off, f_this_rock_trims)) else some ((-1 : Int32), f_this_rock_lanes, x_this_rock_now_home, f_this_rock_now_off, f_this_rock_trims)) else (if p1 = (4 : Int32) then (if p2 ≤ (1 : Int32) then bd2 (f_X6_bring p0 p2 x_this_rock_now_home) (fun r22 y23 => some (r22, f_this_rock_lanes, y23, f_this_rock_now_off, f_this_rock_trims)) else some ((-1 : Int32), f_this_rock_lanes, x_this_rock_now_home, f_this_rock_now_off, f_this_rock_trims)) else some ((-1 : Int32), f_this_rock_lanes, x_this_rock_now_home, f_this_rock_now_off, f_this_rock_trims))))) else some ((-1 : Int32), f_this_rock_lanes, x_this_rock_now_home, f_this_rock_now_off, f_this_rock_trims))))
set_option maxRecDepth 100000 in
set_option maxHeartbeats 4000000 in
theorem c_X8_change {l : Launch} {G : Gt} {h_this h_this_rock h_this_kept h_this_trial h_this_planner h_this_reader h_this_draft h_this_host h_this_thing h_this_tape h_this_rows h_this_rock_kinds h_this_rock_trims h_this_rock_lanes h_this_rock_lights h_this_rock_currents h_this_rock_buoys h_this_rock_now h_this_rock_rules h_this_rock_reports h_this_rock_now_off : Nat} {p0 : Int32} {p1 : Int32} {p2 : Int32} {x_this_tapeCount : Int32} {x_this_rowCount : Int32} {x_this_isKept : Int32} {x_this_rock_count : Int32} {x_this_rock_end : Int32} {x_this_rock_z : Int32} {f_this_rock_lanes : Nat → Int32} {x_this_rock_now_watch : Int32} {x_this_rock_now_score : Int32} {x_this_rock_now_home : Int32} {f_this_rock_now_off : Nat → Int32} {f_this_rock_trims : Nat → Int32} {r : Int32} {m_this_rock_lanes : Nat → Int32} {m_this_rock_now_home : Int32} {m_this_rock_now_off : Nat → Int32} {m_this_rock_trims : Nat → Int32} (hf : f_X8_change p0 p1 p2 x_this_rock_count f_this_rock_lanes x_this_rock_now_home f_this_rock_now_off f_this_rock_trims = some (r, m_this_rock_lanes, m_this_rock_now_home, m_this_rock_now_off, m_this_rock_trims)) : mFi l G yX8_change cX8_change 4 .int 1 [.ref h_this, .int p0, .int p1, .int p2] [(h_this, ob 8 [.ref h_this_rock, .ref h_this_kept, .ref h_this_trial, .ref h_this_planner, .ref h_this_reader, .ref h_this_draft, .ref h_this_host, .ref h_this_thing, .ref h_this_tape, .ref h_this_rows, .int x_this_tapeCount, .int x_this_rowCount, .int x_this_isKept]), (h_this_rock, ob 3 [.ref h_this_rock_kinds, .ref h_this_rock_trims, .ref h_this_rock_lanes, .ref h_this_rock_lights, .ref h_this_rock_currents, .ref h_this_rock_buoys, .ref h_this_rock_now, .ref h_this_rock_rules, .ref h_this_rock_reports, .int x_this_rock_count, .int x_this_rock_end, .int x_this_rock_z]), (h_this_rock_lanes, ia G 6 f_this_rock_lanes), (h_this_rock_now, ob 6 [.ref h_this_rock_now_off, .int x_this_rock_now_watch, .int x_this_rock_now_score, .int x_this_rock_now_home]), (h_this_rock_now_off, ia G 6 f_this_rock_now_off), (h_this_rock_trims, ia G 6 f_this_rock_trims)] r [(h_this, ob 8 [.ref h_this_rock, .ref h_this_kept, .ref h_this_trial, .ref h_this_planner, .ref h_this_reader, .ref h_this_draft, .ref h_this_host, .ref h_this_thing, .ref h_this_tape, .ref h_this_rows, .int x_this_tapeCount, .int x_this_rowCount, .int x_this_isKept]), (h_this_rock, ob 3 [.ref h_this_rock_kinds, .ref h_this_rock_trims, .ref h_this_rock_lanes, .ref h_this_rock_lights, .ref h_this_rock_currents, .ref h_this_rock_buoys, .ref h_this_rock_now, .ref h_this_rock_rules, .ref h_this_rock_reports, .int x_this_rock_count, .int x_this_rock_end, .int x_this_rock_z]), (h_this_rock_lanes, ia G 6 m_this_rock_lanes), (h_this_rock_now, ob 6 [.ref h_this_rock_now_off, .int x_this_rock_now_watch, .int x_this_rock_now_score, .int m_this_rock_now_home]), (h_this_rock_now_off, ia G 6 m_this_rock_now_off), (h_this_rock_trims, ia G 6 m_this_rock_trims)] := by
  refine mFi.of (by decide +kernel) (Nat.le_of_ble_eq_true rfl) ?_
  intro p e s m below meth c A C hr hlk h ls hl
  obtain ⟨hx, hb, hml, hown, hts⟩ := id C
  replace hl : lv_has ls 4 [(0, .ref h_this), (1, .int p0), (2, .int p1), (3, .int p2)] := hl
  unfold f_X8_change at hf
  refine lv_aload_n hx hb dX8_change_0 rfl (lv_at hl 0 rfl) ?_
  refine r_get C h fk_X8_10 0 rfl rfl dX8_change_1 ?_
  refine lv_iload_n hx hb dX8_change_4 rfl (lv_at hl 1 rfl) ?_
  replace hf := bd1_inv hf
  obtain ⟨r1, hc2, hf⟩ := hf
  refine r_ciV0 C h (c_X3_has hc2) mv_X8_90 rfl 1 rfl [1] rfl rfl hl.1 rfl (Nat.le_of_ble_eq_true rfl) (rok (by decide)) dX8_change_5 (fun H locs h => ?_)
  refine lv_if_eq (tgt := 15) hx hb dX8_change_8 rfl (fun c3 => ?_) (fun c3 => ?_)
  · replace hf := ifp c3 hf
    refine lv_iconst (v := (-1 : Int32)) hx hb dX8_change_15 rfl ?_
    cases hf
    exact r_iret C h hr hlk rfl dX8_change_16
  · replace hf := ifn c3 hf
    refine lv_iload_n hx hb dX8_change_11 rfl (lv_at hl 3 rfl) ?_
    refine lv_if_ge (tgt := 17) hx hb dX8_change_12 rfl (fun c4 => ?_) (fun c4 => ?_)
    · replace hf := ifp c4 hf
      refine lv_iload_n hx hb dX8_change_17 rfl (lv_at hl 2 rfl) ?_
      by_cases c5 : p1 = (1 : Int32)
      · replace hf := ifp c5 hf
        refine r_tab (tgt := 48) C dX8_change_18 (1 : Int32) c5 (by decide) rfl rfl ?_
        refine lv_iload_n hx hb dX8_change_48 rfl (lv_at hl 3 rfl) ?_
        refine lv_bipush (v := (99 : Int32)) hx hb dX8_change_49 rfl ?_
        refine lv_icmp_le (tgt := 58) hx hb dX8_change_51 rfl (fun c9 => ?_) (fun c9 => ?_)
        · replace hf := ifp c9 hf
          refine lv_aload_n hx hb dX8_change_58 rfl (lv_at hl 0 rfl) ?_
          refine r_get C h fk_X8_10 0 rfl rfl dX8_change_59 ?_
          refine r_get C h fk_X8_94 1 rfl rfl dX8_change_62 ?_
          refine r_get C h fk_X8_100 3 rfl rfl dX8_change_65 ?_
          refine lv_iload_n hx hb dX8_change_68 rfl (lv_at hl 1 rfl) ?_
          refine lv_iload_n hx hb dX8_change_69 rfl (lv_at hl 3 rfl) ?_
          replace hf := bd2_inv hf
          obtain ⟨r10, g11, hc12, hf⟩ := hf
          refine r_ciS (ws' := [(h_this, ob 8 [.ref h_this_rock, .ref h_this_kept, .ref h_this_trial, .ref h_this_planner, .ref h_this_reader, .ref h_this_draft, .ref h_this_host, .ref h_this_thing, .ref h_this_tape, .ref h_this_rows, .int x_this_tapeCount, .int x_this_rowCount, .int x_this_isKept]), (h_this_rock, ob 3 [.ref h_this_rock_kinds, .ref h_this_rock_trims, .ref h_this_rock_lanes, .ref h_this_rock_lights, .ref h_this_rock_currents, .ref h_this_rock_buoys, .ref h_this_rock_now, .ref h_this_rock_rules, .ref h_this_rock_reports, .int x_this_rock_count, .int x_this_rock_end, .int x_this_rock_z]), (h_this_rock_lanes, ia G 6 f_this_rock_lanes), (h_this_rock_now, ob 6 [.ref h_this_rock_now_off, .int x_this_rock_now_watch, .int x_this_rock_now_score, .int x_this_rock_now_home]), (h_this_rock_now_off, ia G 6 g11), (h_this_rock_trims, ia G 6 f_this_rock_trims)]) C h (c_X8_put hc12) ms_X8_130 rfl [4] rfl rfl rfl rfl rfl hl.1 rfl (Nat.le_of_ble_eq_true rfl) (rok (by decide)) dX8_change_70 (fun H locs h => ?_)
          cases hf
          exact r_iret C h hr hlk rfl dX8_change_73
        · replace hf := ifn c9 hf
          refine lv_iconst (v := (-1 : Int32)) hx hb dX8_change_54 rfl ?_
          refine lv_goto (tgt := 73) hx hb dX8_change_55 rfl ?_
          cases hf
          exact r_iret C h hr hlk rfl dX8_change_73
      · replace hf := ifn c5 hf
        by_cases c6 : p1 = (2 : Int32)
        · replace hf := ifp c6 hf
          refine r_tab (tgt := 74) C dX8_change_18 (2 : Int32) c6 (by decide) rfl rfl ?_
          refine lv_iload_n hx hb dX8_change_74 rfl (lv_at hl 3 rfl) ?_
          refine lv_bipush (v := (9 : Int32)) hx hb dX8_change_75 rfl ?_
          refine lv_icmp_le (tgt := 84) hx hb dX8_change_77 rfl (fun c13 => ?_) (fun c13 => ?_)
          · replace hf := ifp c13 hf
            refine lv_aload_n hx hb dX8_change_84 rfl (lv_at hl 0 rfl) ?_
            refine r_get C h fk_X8_10 0 rfl rfl dX8_change_85 ?_
            refine r_get C h fk_X8_103 1 rfl rfl dX8_change_88 ?_
            refine lv_iload_n hx hb dX8_change_91 rfl (lv_at hl 1 rfl) ?_
            refine lv_iload_n hx hb dX8_change_92 rfl (lv_at hl 3 rfl) ?_
            replace hf := bd2_inv hf
            obtain ⟨r14, g15, hc16, hf⟩ := hf
            refine r_ciS (ws' := [(h_this, ob 8 [.ref h_this_rock, .ref h_this_kept, .ref h_this_trial, .ref h_this_planner, .ref h_this_reader, .ref h_this_draft, .ref h_this_host, .ref h_this_thing, .ref h_this_tape, .ref h_this_rows, .int x_this_tapeCount, .int x_this_rowCount, .int x_this_isKept]), (h_this_rock, ob 3 [.ref h_this_rock_kinds, .ref h_this_rock_trims, .ref h_this_rock_lanes, .ref h_this_rock_lights, .ref h_this_rock_currents, .ref h_this_rock_buoys, .ref h_this_rock_now, .ref h_this_rock_rules, .ref h_this_rock_reports, .int x_this_rock_count, .int x_this_rock_end, .int x_this_rock_z]), (h_this_rock_lanes, ia G 6 f_this_rock_lanes), (h_this_rock_now, ob 6 [.ref h_this_rock_now_off, .int x_this_rock_now_watch, .int x_this_rock_now_score, .int x_this_rock_now_home]), (h_this_rock_now_off, ia G 6 f_this_rock_now_off), (h_this_rock_trims, ia G 6 g15)]) C h (c_X8_put hc16) ms_X8_130 rfl [5] rfl rfl rfl rfl rfl hl.1 rfl (Nat.le_of_ble_eq_true rfl) (rok (by decide)) dX8_change_93 (fun H locs h => ?_)
            cases hf
            exact r_iret C h hr hlk rfl dX8_change_96
          · replace hf := ifn c13 hf
            refine lv_iconst (v := (-1 : Int32)) hx hb dX8_change_80 rfl ?_
            refine lv_goto (tgt := 96) hx hb dX8_change_81 rfl ?_
            cases hf
            exact r_iret C h hr hlk rfl dX8_change_96
        · replace hf := ifn c6 hf
          by_cases c7 : p1 = (3 : Int32)
          · replace hf := ifp c7 hf
            refine r_tab (tgt := 97) C dX8_change_18 (3 : Int32) c7 (by decide) rfl rfl ?_
            refine lv_iload_n hx hb dX8_change_97 rfl (lv_at hl 3 rfl) ?_
            refine lv_bipush (v := (6 : Int32)) hx hb dX8_change_98 rfl ?_
            refine lv_icmp_lt (tgt := 107) hx hb dX8_change_100 rfl (fun c17 => ?_) (fun c17 => ?_)
            · replace hf := ifp c17 hf
              refine lv_aload_n hx hb dX8_change_107 rfl (lv_at hl 0 rfl) ?_
              refine r_get C h fk_X8_10 0 rfl rfl dX8_change_108 ?_
              refine r_get C h fk_X8_106 1 rfl rfl dX8_change_111 ?_
              refine lv_iload_n hx hb dX8_change_114 rfl (lv_at hl 1 rfl) ?_
              refine lv_iload_n hx hb dX8_change_115 rfl (lv_at hl 3 rfl) ?_
              replace hf := bd2_inv hf
              obtain ⟨r18, g19, hc20, hf⟩ := hf
              refine r_ciS (ws' := [(h_this, ob 8 [.ref h_this_rock, .ref h_this_kept, .ref h_this_trial, .ref h_this_planner, .ref h_this_reader, .ref h_this_draft, .ref h_this_host, .ref h_this_thing, .ref h_this_tape, .ref h_this_rows, .int x_this_tapeCount, .int x_this_rowCount, .int x_this_isKept]), (h_this_rock, ob 3 [.ref h_this_rock_kinds, .ref h_this_rock_trims, .ref h_this_rock_lanes, .ref h_this_rock_lights, .ref h_this_rock_currents, .ref h_this_rock_buoys, .ref h_this_rock_now, .ref h_this_rock_rules, .ref h_this_rock_reports, .int x_this_rock_count, .int x_this_rock_end, .int x_this_rock_z]), (h_this_rock_lanes, ia G 6 g19), (h_this_rock_now, ob 6 [.ref h_this_rock_now_off, .int x_this_rock_now_watch, .int x_this_rock_now_score, .int x_this_rock_now_home]), (h_this_rock_now_off, ia G 6 f_this_rock_now_off), (h_this_rock_trims, ia G 6 f_this_rock_trims)]) C h (c_X8_put hc20) ms_X8_130 rfl [2] rfl rfl rfl rfl rfl hl.1 rfl (Nat.le_of_ble_eq_true rfl) (rok (by decide)) dX8_change_116 (fun H locs h => ?_)
              cases hf
              exact r_iret C h hr hlk rfl dX8_change_119
            · replace hf := ifn c17 hf
              refine lv_iconst (v := (-1 : Int32)) hx hb dX8_change_103 rfl ?_
              refine lv_goto (tgt := 119) hx hb dX8_change_104 rfl ?_
              cases hf
              exact r_iret C h hr hlk rfl dX8_change_119
          · replace hf := ifn c7 hf
            by_cases c8 : p1 = (4 : Int32)
            · replace hf := ifp c8 hf
              refine r_tab (tgt := 120) C dX8_change_18 (4 : Int32) c8 (by decide) rfl rfl ?_
              refine lv_iload_n hx hb dX8_change_120 rfl (lv_at hl 3 rfl) ?_
              refine lv_iconst (v := (1 : Int32)) hx hb dX8_change_121 rfl ?_
              refine lv_icmp_le (tgt := 129) hx hb dX8_change_122 rfl (fun c21 => ?_) (fun c21 => ?_)
              · replace hf := ifp c21 hf
                refine lv_aload_n hx hb dX8_change_129 rfl (lv_at hl 0 rfl) ?_
                refine r_get C h fk_X8_10 0 rfl rfl dX8_change_130 ?_
                refine r_get C h fk_X8_94 1 rfl rfl dX8_change_133 ?_
                refine lv_iload_n hx hb dX8_change_136 rfl (lv_at hl 1 rfl) ?_
                refine lv_iload_n hx hb dX8_change_137 rfl (lv_at hl 3 rfl) ?_
                replace hf := bd2_inv hf
                obtain ⟨r22, y23, hc24, hf⟩ := hf
                refine r_ciV (ws' := [(h_this, ob 8 [.ref h_this_rock, .ref h_this_kept, .ref h_this_trial, .ref h_this_planner, .ref h_this_reader, .ref h_this_draft, .ref h_this_host, .ref h_this_thing, .ref h_this_tape, .ref h_this_rows, .int x_this_tapeCount, .int x_this_rowCount, .int x_this_isKept]), (h_this_rock, ob 3 [.ref h_this_rock_kinds, .ref h_this_rock_trims, .ref h_this_rock_lanes, .ref h_this_rock_lights, .ref h_this_rock_currents, .ref h_this_rock_buoys, .ref h_this_rock_now, .ref h_this_rock_rules, .ref h_this_rock_reports, .int x_this_rock_count, .int x_this_rock_end, .int x_this_rock_z]), (h_this_rock_lanes, ia G 6 f_this_rock_lanes), (h_this_rock_now, ob 6 [.ref h_this_rock_now_off, .int x_this_rock_now_watch, .int x_this_rock_now_score, .int y23]), (h_this_rock_now_off, ia G 6 f_this_rock_now_off), (h_this_rock_trims, ia G 6 f_this_rock_trims)]) C h (c_X6_bring hc24) mv_X8_134 rfl 3 rfl [3] rfl rfl rfl rfl rfl hl.1 rfl (Nat.le_of_ble_eq_true rfl) (rok (by decide)) dX8_change_138 (fun H locs h => ?_)
                cases hf
                exact r_iret C h hr hlk rfl dX8_change_141
              · replace hf := ifn c21 hf
                refine lv_iconst (v := (-1 : Int32)) hx hb dX8_change_125 rfl ?_
                refine lv_goto (tgt := 141) hx hb dX8_change_126 rfl ?_
                cases hf
                exact r_iret C h hr hlk rfl dX8_change_141
            · replace hf := ifn c8 hf
              refine r_tabD (tgt := 142) C dX8_change_18 [(1 : Int32), (2 : Int32), (3 : Int32), (4 : Int32)] (by decide) (nel_c c5 (nel_c c6 (nel_c c7 (nel_c c8 nel_0)))) rfl ?_
              refine lv_iconst (v := (-1 : Int32)) hx hb dX8_change_142 rfl ?_
              cases hf
              exact r_iret C h hr hlk rfl dX8_change_143
    · replace hf := ifn c4 hf
      refine lv_iconst (v := (-1 : Int32)) hx hb dX8_change_15 rfl ?_
      cases hf
      exact r_iret C h hr hlk rfl dX8_change_16
def f_X8_remake (p0 : Int32) (p1 : Int32) (x_this_rock_count : Int32) (f_this_rock_kinds : Nat → Int32) : Option (Int32 × (Nat → Int32)) := bd1 (f_X3_has p0 x_this_rock_count) (fun r1 => (if r1 = 0 then some ((-1 : Int32), f_this_rock_kinds) else bd1 (f_X8_within p1 (1 : Int32) (5 : Int32)) (fun r4 => (if r4 = 0 then some ((-1 : Int32), f_this_rock_kinds) else bd2 (f_X8_put p0 p1 6 f_this_rock_kinds) (fun r7 g8 => some (r7, g8))))))
set_option maxRecDepth 100000 in
set_option maxHeartbeats 4000000 in
theorem c_X8_remake {l : Launch} {G : Gt} {h_this h_this_rock h_this_kept h_this_trial h_this_planner h_this_reader h_this_draft h_this_host h_this_thing h_this_tape h_this_rows h_this_rock_kinds h_this_rock_trims h_this_rock_lanes h_this_rock_lights h_this_rock_currents h_this_rock_buoys h_this_rock_now h_this_rock_rules h_this_rock_reports : Nat} {p0 : Int32} {p1 : Int32} {x_this_tapeCount : Int32} {x_this_rowCount : Int32} {x_this_isKept : Int32} {x_this_rock_count : Int32} {x_this_rock_end : Int32} {x_this_rock_z : Int32} {f_this_rock_kinds : Nat → Int32} {r : Int32} {m_this_rock_kinds : Nat → Int32} (hf : f_X8_remake p0 p1 x_this_rock_count f_this_rock_kinds = some (r, m_this_rock_kinds)) : mFi l G yX8_remake cX8_remake 3 .int 1 [.ref h_this, .int p0, .int p1] [(h_this, ob 8 [.ref h_this_rock, .ref h_this_kept, .ref h_this_trial, .ref h_this_planner, .ref h_this_reader, .ref h_this_draft, .ref h_this_host, .ref h_this_thing, .ref h_this_tape, .ref h_this_rows, .int x_this_tapeCount, .int x_this_rowCount, .int x_this_isKept]), (h_this_rock, ob 3 [.ref h_this_rock_kinds, .ref h_this_rock_trims, .ref h_this_rock_lanes, .ref h_this_rock_lights, .ref h_this_rock_currents, .ref h_this_rock_buoys, .ref h_this_rock_now, .ref h_this_rock_rules, .ref h_this_rock_reports, .int x_this_rock_count, .int x_this_rock_end, .int x_this_rock_z]), (h_this_rock_kinds, ia G 6 f_this_rock_kinds)] r [(h_this, ob 8 [.ref h_this_rock, .ref h_this_kept, .ref h_this_trial, .ref h_this_planner, .ref h_this_reader, .ref h_this_draft, .ref h_this_host, .ref h_this_thing, .ref h_this_tape, .ref h_this_rows, .int x_this_tapeCount, .int x_this_rowCount, .int x_this_isKept]), (h_this_rock, ob 3 [.ref h_this_rock_kinds, .ref h_this_rock_trims, .ref h_this_rock_lanes, .ref h_this_rock_lights, .ref h_this_rock_currents, .ref h_this_rock_buoys, .ref h_this_rock_now, .ref h_this_rock_rules, .ref h_this_rock_reports, .int x_this_rock_count, .int x_this_rock_end, .int x_this_rock_z]), (h_this_rock_kinds, ia G 6 m_this_rock_kinds)] := by
  refine mFi.of (by decide +kernel) (Nat.le_of_ble_eq_true rfl) ?_
  intro p e s m below meth c A C hr hlk h ls hl
  obtain ⟨hx, hb, hml, hown, hts⟩ := id C
  replace hl : lv_has ls 3 [(0, .ref h_this), (1, .int p0), (2, .int p1)] := hl
  unfold f_X8_remake at hf
  refine lv_aload_n hx hb dX8_remake_0 rfl (lv_at hl 0 rfl) ?_
  refine r_get C h fk_X8_10 0 rfl rfl dX8_remake_1 ?_
  refine lv_iload_n hx hb dX8_remake_4 rfl (lv_at hl 1 rfl) ?_
  replace hf := bd1_inv hf
  obtain ⟨r1, hc2, hf⟩ := hf
  refine r_ciV0 C h (c_X3_has hc2) mv_X8_90 rfl 1 rfl [1] rfl rfl hl.1 rfl (Nat.le_of_ble_eq_true rfl) (rok (by decide)) dX8_remake_5 (fun H locs h => ?_)
  refine lv_if_eq (tgt := 20) hx hb dX8_remake_8 rfl (fun c3 => ?_) (fun c3 => ?_)
  · replace hf := ifp c3 hf
    refine lv_iconst (v := (-1 : Int32)) hx hb dX8_remake_20 rfl ?_
    cases hf
    exact r_iret C h hr hlk rfl dX8_remake_21
  · replace hf := ifn c3 hf
    refine lv_iload_n hx hb dX8_remake_11 rfl (lv_at hl 2 rfl) ?_
    refine lv_iconst (v := (1 : Int32)) hx hb dX8_remake_12 rfl ?_
    refine lv_iconst (v := (5 : Int32)) hx hb dX8_remake_13 rfl ?_
    replace hf := bd1_inv hf
    obtain ⟨r4, hc5, hf⟩ := hf
    refine r_ciS0 C h (c_X8_within hc5) ms_X8_79 rfl [] rfl rfl hl.1 rfl (Nat.le_of_ble_eq_true rfl) (rok (by decide)) dX8_remake_14 (fun H locs h => ?_)
    refine lv_if_ne (tgt := 22) hx hb dX8_remake_17 rfl (fun c6 => ?_) (fun c6 => ?_)
    · replace hf := ifn c6 hf
      refine lv_aload_n hx hb dX8_remake_22 rfl (lv_at hl 0 rfl) ?_
      refine r_get C h fk_X8_10 0 rfl rfl dX8_remake_23 ?_
      refine r_get C h fk_X8_97 1 rfl rfl dX8_remake_26 ?_
      refine lv_iload_n hx hb dX8_remake_29 rfl (lv_at hl 1 rfl) ?_
      refine lv_iload_n hx hb dX8_remake_30 rfl (lv_at hl 2 rfl) ?_
      replace hf := bd2_inv hf
      obtain ⟨r7, g8, hc9, hf⟩ := hf
      refine r_ciS (ws' := [(h_this, ob 8 [.ref h_this_rock, .ref h_this_kept, .ref h_this_trial, .ref h_this_planner, .ref h_this_reader, .ref h_this_draft, .ref h_this_host, .ref h_this_thing, .ref h_this_tape, .ref h_this_rows, .int x_this_tapeCount, .int x_this_rowCount, .int x_this_isKept]), (h_this_rock, ob 3 [.ref h_this_rock_kinds, .ref h_this_rock_trims, .ref h_this_rock_lanes, .ref h_this_rock_lights, .ref h_this_rock_currents, .ref h_this_rock_buoys, .ref h_this_rock_now, .ref h_this_rock_rules, .ref h_this_rock_reports, .int x_this_rock_count, .int x_this_rock_end, .int x_this_rock_z]), (h_this_rock_kinds, ia G 6 g8)]) C h (c_X8_put hc9) ms_X8_130 rfl [2] rfl rfl rfl rfl rfl hl.1 rfl (Nat.le_of_ble_eq_true rfl) (rok (by decide)) dX8_remake_31 (fun H locs h => ?_)
      cases hf
      exact r_iret C h hr hlk rfl dX8_remake_34
    · replace hf := ifp c6 hf
      refine lv_iconst (v := (-1 : Int32)) hx hb dX8_remake_20 rfl ?_
      cases hf
      exact r_iret C h hr hlk rfl dX8_remake_21
def f_X8_light (p0 : Int32) (p1 : Int32) (f_this_rock_lights : Nat → Int32) : Option (Int32 × (Nat → Int32)) := bd1 (f_X8_within p0 (0 : Int32) (15 : Int32)) (fun r1 => (if r1 = 0 then some ((-1 : Int32), f_this_rock_lights) else bd1 (f_X8_within p1 (0 : Int32) (15 : Int32)) (fun r4 => (if r4 = 0 then some ((-1 : Int32), f_this_rock_lights) else bd2 (f_X8_put p0 p1 16 f_this_rock_lights) (fun r7 g8 => some (r7, g8))))))
set_option maxRecDepth 100000 in
set_option maxHeartbeats 4000000 in
theorem c_X8_light {l : Launch} {G : Gt} {h_this h_this_rock h_this_kept h_this_trial h_this_planner h_this_reader h_this_draft h_this_host h_this_thing h_this_tape h_this_rows h_this_rock_kinds h_this_rock_trims h_this_rock_lanes h_this_rock_lights h_this_rock_currents h_this_rock_buoys h_this_rock_now h_this_rock_rules h_this_rock_reports : Nat} {p0 : Int32} {p1 : Int32} {x_this_tapeCount : Int32} {x_this_rowCount : Int32} {x_this_isKept : Int32} {x_this_rock_count : Int32} {x_this_rock_end : Int32} {x_this_rock_z : Int32} {f_this_rock_lights : Nat → Int32} {r : Int32} {m_this_rock_lights : Nat → Int32} (hf : f_X8_light p0 p1 f_this_rock_lights = some (r, m_this_rock_lights)) : mFi l G yX8_light cX8_light 3 .int 1 [.ref h_this, .int p0, .int p1] [(h_this, ob 8 [.ref h_this_rock, .ref h_this_kept, .ref h_this_trial, .ref h_this_planner, .ref h_this_reader, .ref h_this_draft, .ref h_this_host, .ref h_this_thing, .ref h_this_tape, .ref h_this_rows, .int x_this_tapeCount, .int x_this_rowCount, .int x_this_isKept]), (h_this_rock, ob 3 [.ref h_this_rock_kinds, .ref h_this_rock_trims, .ref h_this_rock_lanes, .ref h_this_rock_lights, .ref h_this_rock_currents, .ref h_this_rock_buoys, .ref h_this_rock_now, .ref h_this_rock_rules, .ref h_this_rock_reports, .int x_this_rock_count, .int x_this_rock_end, .int x_this_rock_z]), (h_this_rock_lights, ia G 16 f_this_rock_lights)] r [(h_this, ob 8 [.ref h_this_rock, .ref h_this_kept, .ref h_this_trial, .ref h_this_planner, .ref h_this_reader, .ref h_this_draft, .ref h_this_host, .ref h_this_thing, .ref h_this_tape, .ref h_this_rows, .int x_this_tapeCount, .int x_this_rowCount, .int x_this_isKept]), (h_this_rock, ob 3 [.ref h_this_rock_kinds, .ref h_this_rock_trims, .ref h_this_rock_lanes, .ref h_this_rock_lights, .ref h_this_rock_currents, .ref h_this_rock_buoys, .ref h_this_rock_now, .ref h_this_rock_rules, .ref h_this_rock_reports, .int x_this_rock_count, .int x_this_rock_end, .int x_this_rock_z]), (h_this_rock_lights, ia G 16 m_this_rock_lights)] := by
  refine mFi.of (by decide +kernel) (Nat.le_of_ble_eq_true rfl) ?_
  intro p e s m below meth c A C hr hlk h ls hl
  obtain ⟨hx, hb, hml, hown, hts⟩ := id C
  replace hl : lv_has ls 3 [(0, .ref h_this), (1, .int p0), (2, .int p1)] := hl
  unfold f_X8_light at hf
  refine lv_iload_n hx hb dX8_light_0 rfl (lv_at hl 1 rfl) ?_
  refine lv_iconst (v := (0 : Int32)) hx hb dX8_light_1 rfl ?_
  refine lv_bipush (v := (15 : Int32)) hx hb dX8_light_2 rfl ?_
  replace hf := bd1_inv hf
  obtain ⟨r1, hc2, hf⟩ := hf
  refine r_ciS0 C h (c_X8_within hc2) ms_X8_79 rfl [] rfl rfl hl.1 rfl (Nat.le_of_ble_eq_true rfl) (rok (by decide)) dX8_light_4 (fun H locs h => ?_)
  refine lv_if_eq (tgt := 20) hx hb dX8_light_7 rfl (fun c3 => ?_) (fun c3 => ?_)
  · replace hf := ifp c3 hf
    refine lv_iconst (v := (-1 : Int32)) hx hb dX8_light_20 rfl ?_
    cases hf
    exact r_iret C h hr hlk rfl dX8_light_21
  · replace hf := ifn c3 hf
    refine lv_iload_n hx hb dX8_light_10 rfl (lv_at hl 2 rfl) ?_
    refine lv_iconst (v := (0 : Int32)) hx hb dX8_light_11 rfl ?_
    refine lv_bipush (v := (15 : Int32)) hx hb dX8_light_12 rfl ?_
    replace hf := bd1_inv hf
    obtain ⟨r4, hc5, hf⟩ := hf
    refine r_ciS0 C h (c_X8_within hc5) ms_X8_79 rfl [] rfl rfl hl.1 rfl (Nat.le_of_ble_eq_true rfl) (rok (by decide)) dX8_light_14 (fun H locs h => ?_)
    refine lv_if_ne (tgt := 22) hx hb dX8_light_17 rfl (fun c6 => ?_) (fun c6 => ?_)
    · replace hf := ifn c6 hf
      refine lv_aload_n hx hb dX8_light_22 rfl (lv_at hl 0 rfl) ?_
      refine r_get C h fk_X8_10 0 rfl rfl dX8_light_23 ?_
      refine r_get C h fk_X8_138 1 rfl rfl dX8_light_26 ?_
      refine lv_iload_n hx hb dX8_light_29 rfl (lv_at hl 1 rfl) ?_
      refine lv_iload_n hx hb dX8_light_30 rfl (lv_at hl 2 rfl) ?_
      replace hf := bd2_inv hf
      obtain ⟨r7, g8, hc9, hf⟩ := hf
      refine r_ciS (ws' := [(h_this, ob 8 [.ref h_this_rock, .ref h_this_kept, .ref h_this_trial, .ref h_this_planner, .ref h_this_reader, .ref h_this_draft, .ref h_this_host, .ref h_this_thing, .ref h_this_tape, .ref h_this_rows, .int x_this_tapeCount, .int x_this_rowCount, .int x_this_isKept]), (h_this_rock, ob 3 [.ref h_this_rock_kinds, .ref h_this_rock_trims, .ref h_this_rock_lanes, .ref h_this_rock_lights, .ref h_this_rock_currents, .ref h_this_rock_buoys, .ref h_this_rock_now, .ref h_this_rock_rules, .ref h_this_rock_reports, .int x_this_rock_count, .int x_this_rock_end, .int x_this_rock_z]), (h_this_rock_lights, ia G 16 g8)]) C h (c_X8_put hc9) ms_X8_130 rfl [2] rfl rfl rfl rfl rfl hl.1 rfl (Nat.le_of_ble_eq_true rfl) (rok (by decide)) dX8_light_31 (fun H locs h => ?_)
      cases hf
      exact r_iret C h hr hlk rfl dX8_light_34
    · replace hf := ifp c6 hf
      refine lv_iconst (v := (-1 : Int32)) hx hb dX8_light_20 rfl ?_
      cases hf
      exact r_iret C h hr hlk rfl dX8_light_21
def f_X8_lane (p0 : Int32) (p1 : Int32) (p2 : Int32) (f_this_rock_buoys : Nat → Int32) (f_this_rock_currents : Nat → Int32) : Option (Int32 × (Nat → Int32) × (Nat → Int32)) := bd1 (f_X8_within p0 (0 : Int32) (5 : Int32)) (fun r1 => (if r1 = 0 then some ((-1 : Int32), f_this_rock_buoys, f_this_rock_currents) else bd1 (f_X8_within p1 (0 : Int32) (1 : Int32)) (fun r4 => (if r4 = 0 then some ((-1 : Int32), f_this_rock_buoys, f_this_rock_currents) else bd1 (f_X8_within p2 (0 : Int32) (9 : Int32)) (fun r7 => (if r7 = 0 then some ((-1 : Int32), f_this_rock_buoys, f_this_rock_currents) else (if p1 = 0 then bd2 (f_X8_put p0 p2 6 f_this_rock_currents) (fun r14 g15 => some (r14, f_this_rock_buoys, g15)) else bd2 (f_X8_put p0 p2 6 f_this_rock_buoys) (fun r11 g12 => some (r11, g12, f_this_rock_currents)))))))))
set_option maxRecDepth 100000 in
set_option maxHeartbeats 4000000 in
theorem c_X8_lane {l : Launch} {G : Gt} {h_this h_this_rock h_this_kept h_this_trial h_this_planner h_this_reader h_this_draft h_this_host h_this_thing h_this_tape h_this_rows h_this_rock_kinds h_this_rock_trims h_this_rock_lanes h_this_rock_lights h_this_rock_currents h_this_rock_buoys h_this_rock_now h_this_rock_rules h_this_rock_reports : Nat} {p0 : Int32} {p1 : Int32} {p2 : Int32} {x_this_tapeCount : Int32} {x_this_rowCount : Int32} {x_this_isKept : Int32} {x_this_rock_count : Int32} {x_this_rock_end : Int32} {x_this_rock_z : Int32} {f_this_rock_buoys : Nat → Int32} {f_this_rock_currents : Nat → Int32} {r : Int32} {m_this_rock_buoys : Nat → Int32} {m_this_rock_currents : Nat → Int32} (hf : f_X8_lane p0 p1 p2 f_this_rock_buoys f_this_rock_currents = some (r, m_this_rock_buoys, m_this_rock_currents)) : mFi l G yX8_lane cX8_lane 4 .int 1 [.ref h_this, .int p0, .int p1, .int p2] [(h_this, ob 8 [.ref h_this_rock, .ref h_this_kept, .ref h_this_trial, .ref h_this_planner, .ref h_this_reader, .ref h_this_draft, .ref h_this_host, .ref h_this_thing, .ref h_this_tape, .ref h_this_rows, .int x_this_tapeCount, .int x_this_rowCount, .int x_this_isKept]), (h_this_rock, ob 3 [.ref h_this_rock_kinds, .ref h_this_rock_trims, .ref h_this_rock_lanes, .ref h_this_rock_lights, .ref h_this_rock_currents, .ref h_this_rock_buoys, .ref h_this_rock_now, .ref h_this_rock_rules, .ref h_this_rock_reports, .int x_this_rock_count, .int x_this_rock_end, .int x_this_rock_z]), (h_this_rock_buoys, ia G 6 f_this_rock_buoys), (h_this_rock_currents, ia G 6 f_this_rock_currents)] r [(h_this, ob 8 [.ref h_this_rock, .ref h_this_kept, .ref h_this_trial, .ref h_this_planner, .ref h_this_reader, .ref h_this_draft, .ref h_this_host, .ref h_this_thing, .ref h_this_tape, .ref h_this_rows, .int x_this_tapeCount, .int x_this_rowCount, .int x_this_isKept]), (h_this_rock, ob 3 [.ref h_this_rock_kinds, .ref h_this_rock_trims, .ref h_this_rock_lanes, .ref h_this_rock_lights, .ref h_this_rock_currents, .ref h_this_rock_buoys, .ref h_this_rock_now, .ref h_this_rock_rules, .ref h_this_rock_reports, .int x_this_rock_count, .int x_this_rock_end, .int x_this_rock_z]), (h_this_rock_buoys, ia G 6 m_this_rock_buoys), (h_this_rock_currents, ia G 6 m_this_rock_currents)] := by
  refine mFi.of (by decide +kernel) (Nat.le_of_ble_eq_true rfl) ?_
  intro p e s m below meth c A C hr hlk h ls hl
  obtain ⟨hx, hb, hml, hown, hts⟩ := id C
  replace hl : lv_has ls 4 [(0, .ref h_this), (1, .int p0), (2, .int p1), (3, .int p2)] := hl
  unfold f_X8_lane at hf
  refine lv_iload_n hx hb dX8_lane_0 rfl (lv_at hl 1 rfl) ?_
  refine lv_iconst (v := (0 : Int32)) hx hb dX8_lane_1 rfl ?_
  refine lv_iconst (v := (5 : Int32)) hx hb dX8_lane_2 rfl ?_
  replace hf := bd1_inv hf
  obtain ⟨r1, hc2, hf⟩ := hf
  refine r_ciS0 C h (c_X8_within hc2) ms_X8_79 rfl [] rfl rfl hl.1 rfl (Nat.le_of_ble_eq_true rfl) (rok (by decide)) dX8_lane_3 (fun H locs h => ?_)
  refine lv_if_eq (tgt := 28) hx hb dX8_lane_6 rfl (fun c3 => ?_) (fun c3 => ?_)
  · replace hf := ifp c3 hf
    refine lv_iconst (v := (-1 : Int32)) hx hb dX8_lane_28 rfl ?_
    cases hf
    exact r_iret C h hr hlk rfl dX8_lane_29
  · replace hf := ifn c3 hf
    refine lv_iload_n hx hb dX8_lane_9 rfl (lv_at hl 2 rfl) ?_
    refine lv_iconst (v := (0 : Int32)) hx hb dX8_lane_10 rfl ?_
    refine lv_iconst (v := (1 : Int32)) hx hb dX8_lane_11 rfl ?_
    replace hf := bd1_inv hf
    obtain ⟨r4, hc5, hf⟩ := hf
    refine r_ciS0 C h (c_X8_within hc5) ms_X8_79 rfl [] rfl rfl hl.1 rfl (Nat.le_of_ble_eq_true rfl) (rok (by decide)) dX8_lane_12 (fun H locs h => ?_)
    refine lv_if_eq (tgt := 28) hx hb dX8_lane_15 rfl (fun c6 => ?_) (fun c6 => ?_)
    · replace hf := ifp c6 hf
      refine lv_iconst (v := (-1 : Int32)) hx hb dX8_lane_28 rfl ?_
      cases hf
      exact r_iret C h hr hlk rfl dX8_lane_29
    · replace hf := ifn c6 hf
      refine lv_iload_n hx hb dX8_lane_18 rfl (lv_at hl 3 rfl) ?_
      refine lv_iconst (v := (0 : Int32)) hx hb dX8_lane_19 rfl ?_
      refine lv_bipush (v := (9 : Int32)) hx hb dX8_lane_20 rfl ?_
      replace hf := bd1_inv hf
      obtain ⟨r7, hc8, hf⟩ := hf
      refine r_ciS0 C h (c_X8_within hc8) ms_X8_79 rfl [] rfl rfl hl.1 rfl (Nat.le_of_ble_eq_true rfl) (rok (by decide)) dX8_lane_22 (fun H locs h => ?_)
      refine lv_if_ne (tgt := 30) hx hb dX8_lane_25 rfl (fun c9 => ?_) (fun c9 => ?_)
      · replace hf := ifn c9 hf
        refine lv_iload_n hx hb dX8_lane_30 rfl (lv_at hl 2 rfl) ?_
        refine lv_if_ne (tgt := 44) hx hb dX8_lane_31 rfl (fun c10 => ?_) (fun c10 => ?_)
        · replace hf := ifn c10 hf
          refine lv_aload_n hx hb dX8_lane_44 rfl (lv_at hl 0 rfl) ?_
          refine r_get C h fk_X8_10 0 rfl rfl dX8_lane_45 ?_
          refine r_get C h fk_X8_144 1 rfl rfl dX8_lane_48 ?_
          refine lv_iload_n hx hb dX8_lane_51 rfl (lv_at hl 1 rfl) ?_
          refine lv_iload_n hx hb dX8_lane_52 rfl (lv_at hl 3 rfl) ?_
          replace hf := bd2_inv hf
          obtain ⟨r11, g12, hc13, hf⟩ := hf
          refine r_ciS (ws' := [(h_this, ob 8 [.ref h_this_rock, .ref h_this_kept, .ref h_this_trial, .ref h_this_planner, .ref h_this_reader, .ref h_this_draft, .ref h_this_host, .ref h_this_thing, .ref h_this_tape, .ref h_this_rows, .int x_this_tapeCount, .int x_this_rowCount, .int x_this_isKept]), (h_this_rock, ob 3 [.ref h_this_rock_kinds, .ref h_this_rock_trims, .ref h_this_rock_lanes, .ref h_this_rock_lights, .ref h_this_rock_currents, .ref h_this_rock_buoys, .ref h_this_rock_now, .ref h_this_rock_rules, .ref h_this_rock_reports, .int x_this_rock_count, .int x_this_rock_end, .int x_this_rock_z]), (h_this_rock_buoys, ia G 6 g12), (h_this_rock_currents, ia G 6 f_this_rock_currents)]) C h (c_X8_put hc13) ms_X8_130 rfl [2] rfl rfl rfl rfl rfl hl.1 rfl (Nat.le_of_ble_eq_true rfl) (rok (by decide)) dX8_lane_53 (fun H locs h => ?_)
          cases hf
          exact r_iret C h hr hlk rfl dX8_lane_56
        · replace hf := ifp c10 hf
          refine lv_aload_n hx hb dX8_lane_34 rfl (lv_at hl 0 rfl) ?_
          refine r_get C h fk_X8_10 0 rfl rfl dX8_lane_35 ?_
          refine r_get C h fk_X8_141 1 rfl rfl dX8_lane_38 ?_
          refine lv_goto (tgt := 51) hx hb dX8_lane_41 rfl ?_
          refine lv_iload_n hx hb dX8_lane_51 rfl (lv_at hl 1 rfl) ?_
          refine lv_iload_n hx hb dX8_lane_52 rfl (lv_at hl 3 rfl) ?_
          replace hf := bd2_inv hf
          obtain ⟨r14, g15, hc16, hf⟩ := hf
          refine r_ciS (ws' := [(h_this, ob 8 [.ref h_this_rock, .ref h_this_kept, .ref h_this_trial, .ref h_this_planner, .ref h_this_reader, .ref h_this_draft, .ref h_this_host, .ref h_this_thing, .ref h_this_tape, .ref h_this_rows, .int x_this_tapeCount, .int x_this_rowCount, .int x_this_isKept]), (h_this_rock, ob 3 [.ref h_this_rock_kinds, .ref h_this_rock_trims, .ref h_this_rock_lanes, .ref h_this_rock_lights, .ref h_this_rock_currents, .ref h_this_rock_buoys, .ref h_this_rock_now, .ref h_this_rock_rules, .ref h_this_rock_reports, .int x_this_rock_count, .int x_this_rock_end, .int x_this_rock_z]), (h_this_rock_buoys, ia G 6 f_this_rock_buoys), (h_this_rock_currents, ia G 6 g15)]) C h (c_X8_put hc16) ms_X8_130 rfl [3] rfl rfl rfl rfl rfl hl.1 rfl (Nat.le_of_ble_eq_true rfl) (rok (by decide)) dX8_lane_53 (fun H locs h => ?_)
          cases hf
          exact r_iret C h hr hlk rfl dX8_lane_56
      · replace hf := ifp c9 hf
        refine lv_iconst (v := (-1 : Int32)) hx hb dX8_lane_28 rfl ?_
        cases hf
        exact r_iret C h hr hlk rfl dX8_lane_29
def f_X8_laneOf (p0 : Int32) (p1 : Int32) (f_this_rock_buoys : Nat → Int32) (f_this_rock_currents : Nat → Int32) : Option (Int32) := bd1 (f_X8_within p0 (0 : Int32) (5 : Int32)) (fun r1 => (if r1 = 0 then some (-1 : Int32) else bd1 (f_X8_within p1 (0 : Int32) (1 : Int32)) (fun r4 => (if r4 = 0 then some (-1 : Int32) else (if p1 = 0 then chkI p0 6 (some (f_this_rock_currents p0.toNatClampNeg)) else chkI p0 6 (some (f_this_rock_buoys p0.toNatClampNeg)))))))
set_option maxRecDepth 100000 in
set_option maxHeartbeats 4000000 in
theorem c_X8_laneOf {l : Launch} {G : Gt} {h_this h_this_rock h_this_kept h_this_trial h_this_planner h_this_reader h_this_draft h_this_host h_this_thing h_this_tape h_this_rows h_this_rock_kinds h_this_rock_trims h_this_rock_lanes h_this_rock_lights h_this_rock_currents h_this_rock_buoys h_this_rock_now h_this_rock_rules h_this_rock_reports : Nat} {p0 : Int32} {p1 : Int32} {x_this_tapeCount : Int32} {x_this_rowCount : Int32} {x_this_isKept : Int32} {x_this_rock_count : Int32} {x_this_rock_end : Int32} {x_this_rock_z : Int32} {f_this_rock_buoys : Nat → Int32} {f_this_rock_currents : Nat → Int32} {r : Int32} (hf : f_X8_laneOf p0 p1 f_this_rock_buoys f_this_rock_currents = some r) : mFi l G yX8_laneOf cX8_laneOf 3 .int 1 [.ref h_this, .int p0, .int p1] [(h_this, ob 8 [.ref h_this_rock, .ref h_this_kept, .ref h_this_trial, .ref h_this_planner, .ref h_this_reader, .ref h_this_draft, .ref h_this_host, .ref h_this_thing, .ref h_this_tape, .ref h_this_rows, .int x_this_tapeCount, .int x_this_rowCount, .int x_this_isKept]), (h_this_rock, ob 3 [.ref h_this_rock_kinds, .ref h_this_rock_trims, .ref h_this_rock_lanes, .ref h_this_rock_lights, .ref h_this_rock_currents, .ref h_this_rock_buoys, .ref h_this_rock_now, .ref h_this_rock_rules, .ref h_this_rock_reports, .int x_this_rock_count, .int x_this_rock_end, .int x_this_rock_z]), (h_this_rock_buoys, ia G 6 f_this_rock_buoys), (h_this_rock_currents, ia G 6 f_this_rock_currents)] r [(h_this, ob 8 [.ref h_this_rock, .ref h_this_kept, .ref h_this_trial, .ref h_this_planner, .ref h_this_reader, .ref h_this_draft, .ref h_this_host, .ref h_this_thing, .ref h_this_tape, .ref h_this_rows, .int x_this_tapeCount, .int x_this_rowCount, .int x_this_isKept]), (h_this_rock, ob 3 [.ref h_this_rock_kinds, .ref h_this_rock_trims, .ref h_this_rock_lanes, .ref h_this_rock_lights, .ref h_this_rock_currents, .ref h_this_rock_buoys, .ref h_this_rock_now, .ref h_this_rock_rules, .ref h_this_rock_reports, .int x_this_rock_count, .int x_this_rock_end, .int x_this_rock_z]), (h_this_rock_buoys, ia G 6 f_this_rock_buoys), (h_this_rock_currents, ia G 6 f_this_rock_currents)] := by
  refine mFi.of (by decide +kernel) (Nat.le_of_ble_eq_true rfl) ?_
  intro p e s m below meth c A C hr hlk h ls hl
  obtain ⟨hx, hb, hml, hown, hts⟩ := id C
  replace hl : lv_has ls 3 [(0, .ref h_this), (1, .int p0), (2, .int p1)] := hl
  unfold f_X8_laneOf at hf
  refine lv_iload_n hx hb dX8_laneOf_0 rfl (lv_at hl 1 rfl) ?_
  refine lv_iconst (v := (0 : Int32)) hx hb dX8_laneOf_1 rfl ?_
  refine lv_iconst (v := (5 : Int32)) hx hb dX8_laneOf_2 rfl ?_
  replace hf := bd1_inv hf
  obtain ⟨r1, hc2, hf⟩ := hf
  refine r_ciS0 C h (c_X8_within hc2) ms_X8_79 rfl [] rfl rfl hl.1 rfl (Nat.le_of_ble_eq_true rfl) (rok (by decide)) dX8_laneOf_3 (fun H locs h => ?_)
  refine lv_if_eq (tgt := 18) hx hb dX8_laneOf_6 rfl (fun c3 => ?_) (fun c3 => ?_)
  · replace hf := ifp c3 hf
    refine lv_iconst (v := (-1 : Int32)) hx hb dX8_laneOf_18 rfl ?_
    cases hf
    exact r_iret C h hr hlk rfl dX8_laneOf_19
  · replace hf := ifn c3 hf
    refine lv_iload_n hx hb dX8_laneOf_9 rfl (lv_at hl 2 rfl) ?_
    refine lv_iconst (v := (0 : Int32)) hx hb dX8_laneOf_10 rfl ?_
    refine lv_iconst (v := (1 : Int32)) hx hb dX8_laneOf_11 rfl ?_
    replace hf := bd1_inv hf
    obtain ⟨r4, hc5, hf⟩ := hf
    refine r_ciS0 C h (c_X8_within hc5) ms_X8_79 rfl [] rfl rfl hl.1 rfl (Nat.le_of_ble_eq_true rfl) (rok (by decide)) dX8_laneOf_12 (fun H locs h => ?_)
    refine lv_if_ne (tgt := 20) hx hb dX8_laneOf_15 rfl (fun c6 => ?_) (fun c6 => ?_)
    · replace hf := ifn c6 hf
      refine lv_iload_n hx hb dX8_laneOf_20 rfl (lv_at hl 2 rfl) ?_
      refine lv_if_ne (tgt := 36) hx hb dX8_laneOf_21 rfl (fun c7 => ?_) (fun c7 => ?_)
      · replace hf := ifn c7 hf
        refine lv_aload_n hx hb dX8_laneOf_36 rfl (lv_at hl 0 rfl) ?_
        refine r_get C h fk_X8_10 0 rfl rfl dX8_laneOf_37 ?_
        refine r_get C h fk_X8_144 1 rfl rfl dX8_laneOf_40 ?_
        refine lv_iload_n hx hb dX8_laneOf_43 rfl (lv_at hl 1 rfl) ?_
        replace hf := chkI_inv hf
        obtain ⟨hi8, hf⟩ := hf
        refine r_iald C h 2 rfl hi8 dX8_laneOf_44 ?_
        cases hf
        exact r_iret C h hr hlk rfl dX8_laneOf_45
      · replace hf := ifp c7 hf
        refine lv_aload_n hx hb dX8_laneOf_24 rfl (lv_at hl 0 rfl) ?_
        refine r_get C h fk_X8_10 0 rfl rfl dX8_laneOf_25 ?_
        refine r_get C h fk_X8_141 1 rfl rfl dX8_laneOf_28 ?_
        refine lv_iload_n hx hb dX8_laneOf_31 rfl (lv_at hl 1 rfl) ?_
        replace hf := chkI_inv hf
        obtain ⟨hi9, hf⟩ := hf
        refine r_iald C h 3 rfl hi9 dX8_laneOf_32 ?_
        refine lv_goto (tgt := 45) hx hb dX8_laneOf_33 rfl ?_
        cases hf
        exact r_iret C h hr hlk rfl dX8_laneOf_45
    · replace hf := ifp c6 hf
      refine lv_iconst (v := (-1 : Int32)) hx hb dX8_laneOf_18 rfl ?_
      cases hf
      exact r_iret C h hr hlk rfl dX8_laneOf_19
def f_X8_ends (p0 : Int32) (x_this_rock_end : Int32) (x_this_rock_now_watch : Int32) : Option (Int32 × Int32) := bd1 (f_X8_within p0 (1 : Int32) (16 : Int32)) (fun r1 => (if r1 = 0 then some ((-1 : Int32), x_this_rock_end) else (if x_this_rock_now_watch ≤ p0 then some (x_this_rock_end, p0) else some ((-4 : Int32), x_this_rock_end))))
set_option maxRecDepth 100000 in
set_option maxHeartbeats 4000000 in
theorem c_X8_ends {l : Launch} {G : Gt} {h_this h_this_rock h_this_kept h_this_trial h_this_planner h_this_reader h_this_draft h_this_host h_this_thing h_this_tape h_this_rows h_this_rock_kinds h_this_rock_trims h_this_rock_lanes h_this_rock_lights h_this_rock_currents h_this_rock_buoys h_this_rock_now h_this_rock_rules h_this_rock_reports h_this_rock_now_off : Nat} {p0 : Int32} {x_this_tapeCount : Int32} {x_this_rowCount : Int32} {x_this_isKept : Int32} {x_this_rock_count : Int32} {x_this_rock_end : Int32} {x_this_rock_z : Int32} {x_this_rock_now_watch : Int32} {x_this_rock_now_score : Int32} {x_this_rock_now_home : Int32} {r : Int32} {m_this_rock_end : Int32} (hf : f_X8_ends p0 x_this_rock_end x_this_rock_now_watch = some (r, m_this_rock_end)) : mFi l G yX8_ends cX8_ends 3 .int 1 [.ref h_this, .int p0] [(h_this, ob 8 [.ref h_this_rock, .ref h_this_kept, .ref h_this_trial, .ref h_this_planner, .ref h_this_reader, .ref h_this_draft, .ref h_this_host, .ref h_this_thing, .ref h_this_tape, .ref h_this_rows, .int x_this_tapeCount, .int x_this_rowCount, .int x_this_isKept]), (h_this_rock, ob 3 [.ref h_this_rock_kinds, .ref h_this_rock_trims, .ref h_this_rock_lanes, .ref h_this_rock_lights, .ref h_this_rock_currents, .ref h_this_rock_buoys, .ref h_this_rock_now, .ref h_this_rock_rules, .ref h_this_rock_reports, .int x_this_rock_count, .int x_this_rock_end, .int x_this_rock_z]), (h_this_rock_now, ob 6 [.ref h_this_rock_now_off, .int x_this_rock_now_watch, .int x_this_rock_now_score, .int x_this_rock_now_home])] r [(h_this, ob 8 [.ref h_this_rock, .ref h_this_kept, .ref h_this_trial, .ref h_this_planner, .ref h_this_reader, .ref h_this_draft, .ref h_this_host, .ref h_this_thing, .ref h_this_tape, .ref h_this_rows, .int x_this_tapeCount, .int x_this_rowCount, .int x_this_isKept]), (h_this_rock, ob 3 [.ref h_this_rock_kinds, .ref h_this_rock_trims, .ref h_this_rock_lanes, .ref h_this_rock_lights, .ref h_this_rock_currents, .ref h_this_rock_buoys, .ref h_this_rock_now, .ref h_this_rock_rules, .ref h_this_rock_reports, .int x_this_rock_count, .int m_this_rock_end, .int x_this_rock_z]), (h_this_rock_now, ob 6 [.ref h_this_rock_now_off, .int x_this_rock_now_watch, .int x_this_rock_now_score, .int x_this_rock_now_home])] := by
  refine mFi.of (by decide +kernel) (Nat.le_of_ble_eq_true rfl) ?_
  intro p e s m below meth c A C hr hlk h ls hl
  obtain ⟨hx, hb, hml, hown, hts⟩ := id C
  replace hl : lv_has ls 3 [(0, .ref h_this), (1, .int p0)] := hl
  unfold f_X8_ends at hf
  refine lv_iload_n hx hb dX8_ends_0 rfl (lv_at hl 1 rfl) ?_
  refine lv_iconst (v := (1 : Int32)) hx hb dX8_ends_1 rfl ?_
  refine lv_bipush (v := (16 : Int32)) hx hb dX8_ends_2 rfl ?_
  replace hf := bd1_inv hf
  obtain ⟨r1, hc2, hf⟩ := hf
  refine r_ciS0 C h (c_X8_within hc2) ms_X8_79 rfl [] rfl rfl hl.1 rfl (Nat.le_of_ble_eq_true rfl) (rok (by decide)) dX8_ends_4 (fun H locs h => ?_)
  refine lv_if_ne (tgt := 12) hx hb dX8_ends_7 rfl (fun c3 => ?_) (fun c3 => ?_)
  · replace hf := ifn c3 hf
    refine lv_iload_n hx hb dX8_ends_12 rfl (lv_at hl 1 rfl) ?_
    refine lv_aload_n hx hb dX8_ends_13 rfl (lv_at hl 0 rfl) ?_
    refine r_get C h fk_X8_10 0 rfl rfl dX8_ends_14 ?_
    refine r_get C h fk_X8_94 1 rfl rfl dX8_ends_17 ?_
    refine r_get C h fk_X8_147 2 rfl rfl dX8_ends_20 ?_
    refine lv_icmp_ge (tgt := 29) hx hb dX8_ends_23 rfl (fun c4 => ?_) (fun c4 => ?_)
    · replace hf := ifp c4 hf
      refine lv_aload_n hx hb dX8_ends_29 rfl (lv_at hl 0 rfl) ?_
      refine r_get C h fk_X8_10 0 rfl rfl dX8_ends_30 ?_
      refine r_get C h fk_X8_150 1 rfl rfl dX8_ends_33 ?_
      refine lv_istore_n (lv' := [(2, .int x_this_rock_end), (0, .ref h_this), (1, .int p0)]) hx hb dX8_ends_36 rfl hl (by decide) rfl (fun ls hl => ?_)
      refine lv_aload_n hx hb dX8_ends_37 rfl (lv_at hl 1 rfl) ?_
      refine r_get C h fk_X8_10 0 rfl rfl dX8_ends_38 ?_
      refine lv_iload_n hx hb dX8_ends_41 rfl (lv_at hl 2 rfl) ?_
      refine r_put (ws' := [(h_this, ob 8 [.ref h_this_rock, .ref h_this_kept, .ref h_this_trial, .ref h_this_planner, .ref h_this_reader, .ref h_this_draft, .ref h_this_host, .ref h_this_thing, .ref h_this_tape, .ref h_this_rows, .int x_this_tapeCount, .int x_this_rowCount, .int x_this_isKept]), (h_this_rock, ob 3 [.ref h_this_rock_kinds, .ref h_this_rock_trims, .ref h_this_rock_lanes, .ref h_this_rock_lights, .ref h_this_rock_currents, .ref h_this_rock_buoys, .ref h_this_rock_now, .ref h_this_rock_rules, .ref h_this_rock_reports, .int x_this_rock_count, .int p0, .int x_this_rock_z]), (h_this_rock_now, ob 6 [.ref h_this_rock_now_off, .int x_this_rock_now_watch, .int x_this_rock_now_score, .int x_this_rock_now_home])]) C h fw_X8_150 1 rfl rfl rfl (Nat.le_of_ble_eq_true rfl) dX8_ends_42 rfl (fun H locs h => ?_)
      refine lv_iload_n hx hb dX8_ends_45 rfl (lv_at hl 0 rfl) ?_
      cases hf
      exact r_iret C h hr hlk rfl dX8_ends_46
    · replace hf := ifn c4 hf
      refine lv_bipush (v := (-4 : Int32)) hx hb dX8_ends_26 rfl ?_
      cases hf
      exact r_iret C h hr hlk rfl dX8_ends_28
  · replace hf := ifp c3 hf
    refine lv_iconst (v := (-1 : Int32)) hx hb dX8_ends_10 rfl ?_
    cases hf
    exact r_iret C h hr hlk rfl dX8_ends_11
def f_X8_anew (x_this_rock_now_watch : Int32) : Option (Int32 × Int32 × Int32 × Int32) := some (x_this_rock_now_watch, (0 : Int32), (0 : Int32), (0 : Int32))
set_option maxRecDepth 100000 in
set_option maxHeartbeats 4000000 in
theorem c_X8_anew {l : Launch} {G : Gt} {h_this h_this_rock h_this_kept h_this_trial h_this_planner h_this_reader h_this_draft h_this_host h_this_thing h_this_tape h_this_rows h_this_rock_kinds h_this_rock_trims h_this_rock_lanes h_this_rock_lights h_this_rock_currents h_this_rock_buoys h_this_rock_now h_this_rock_rules h_this_rock_reports h_this_rock_now_off : Nat} {x_this_tapeCount : Int32} {x_this_rowCount : Int32} {x_this_isKept : Int32} {x_this_rock_count : Int32} {x_this_rock_end : Int32} {x_this_rock_z : Int32} {x_this_rock_now_watch : Int32} {x_this_rock_now_score : Int32} {x_this_rock_now_home : Int32} {r : Int32} {m_this_rock_now_watch : Int32} {m_this_rock_now_score : Int32} {m_this_rock_now_home : Int32} (hf : f_X8_anew x_this_rock_now_watch = some (r, m_this_rock_now_watch, m_this_rock_now_score, m_this_rock_now_home)) : mFi l G yX8_anew cX8_anew 2 .int 0 [.ref h_this] [(h_this, ob 8 [.ref h_this_rock, .ref h_this_kept, .ref h_this_trial, .ref h_this_planner, .ref h_this_reader, .ref h_this_draft, .ref h_this_host, .ref h_this_thing, .ref h_this_tape, .ref h_this_rows, .int x_this_tapeCount, .int x_this_rowCount, .int x_this_isKept]), (h_this_rock, ob 3 [.ref h_this_rock_kinds, .ref h_this_rock_trims, .ref h_this_rock_lanes, .ref h_this_rock_lights, .ref h_this_rock_currents, .ref h_this_rock_buoys, .ref h_this_rock_now, .ref h_this_rock_rules, .ref h_this_rock_reports, .int x_this_rock_count, .int x_this_rock_end, .int x_this_rock_z]), (h_this_rock_now, ob 6 [.ref h_this_rock_now_off, .int x_this_rock_now_watch, .int x_this_rock_now_score, .int x_this_rock_now_home])] r [(h_this, ob 8 [.ref h_this_rock, .ref h_this_kept, .ref h_this_trial, .ref h_this_planner, .ref h_this_reader, .ref h_this_draft, .ref h_this_host, .ref h_this_thing, .ref h_this_tape, .ref h_this_rows, .int x_this_tapeCount, .int x_this_rowCount, .int x_this_isKept]), (h_this_rock, ob 3 [.ref h_this_rock_kinds, .ref h_this_rock_trims, .ref h_this_rock_lanes, .ref h_this_rock_lights, .ref h_this_rock_currents, .ref h_this_rock_buoys, .ref h_this_rock_now, .ref h_this_rock_rules, .ref h_this_rock_reports, .int x_this_rock_count, .int x_this_rock_end, .int x_this_rock_z]), (h_this_rock_now, ob 6 [.ref h_this_rock_now_off, .int m_this_rock_now_watch, .int m_this_rock_now_score, .int m_this_rock_now_home])] := by
  refine mFi.of (by decide +kernel) (Nat.le_of_ble_eq_true rfl) ?_
  intro p e s m below meth c A C hr hlk h ls hl
  obtain ⟨hx, hb, hml, hown, hts⟩ := id C
  replace hl : lv_has ls 2 [(0, .ref h_this)] := hl
  unfold f_X8_anew at hf
  refine lv_aload_n hx hb dX8_anew_0 rfl (lv_at hl 0 rfl) ?_
  refine r_get C h fk_X8_10 0 rfl rfl dX8_anew_1 ?_
  refine r_get C h fk_X8_94 1 rfl rfl dX8_anew_4 ?_
  refine r_get C h fk_X8_147 2 rfl rfl dX8_anew_7 ?_
  refine lv_istore_n (lv' := [(1, .int x_this_rock_now_watch), (0, .ref h_this)]) hx hb dX8_anew_10 rfl hl (by decide) rfl (fun ls hl => ?_)
  refine lv_aload_n hx hb dX8_anew_11 rfl (lv_at hl 1 rfl) ?_
  refine r_get C h fk_X8_10 0 rfl rfl dX8_anew_12 ?_
  refine r_get C h fk_X8_94 1 rfl rfl dX8_anew_15 ?_
  refine lv_iconst (v := (0 : Int32)) hx hb dX8_anew_18 rfl ?_
  refine r_put (ws' := [(h_this, ob 8 [.ref h_this_rock, .ref h_this_kept, .ref h_this_trial, .ref h_this_planner, .ref h_this_reader, .ref h_this_draft, .ref h_this_host, .ref h_this_thing, .ref h_this_tape, .ref h_this_rows, .int x_this_tapeCount, .int x_this_rowCount, .int x_this_isKept]), (h_this_rock, ob 3 [.ref h_this_rock_kinds, .ref h_this_rock_trims, .ref h_this_rock_lanes, .ref h_this_rock_lights, .ref h_this_rock_currents, .ref h_this_rock_buoys, .ref h_this_rock_now, .ref h_this_rock_rules, .ref h_this_rock_reports, .int x_this_rock_count, .int x_this_rock_end, .int x_this_rock_z]), (h_this_rock_now, ob 6 [.ref h_this_rock_now_off, .int (0 : Int32), .int x_this_rock_now_score, .int x_this_rock_now_home])]) C h fw_X8_147 2 rfl rfl rfl (Nat.le_of_ble_eq_true rfl) dX8_anew_19 rfl (fun H locs h => ?_)
  refine lv_aload_n hx hb dX8_anew_22 rfl (lv_at hl 1 rfl) ?_
  refine r_get C h fk_X8_10 0 rfl rfl dX8_anew_23 ?_
  refine r_get C h fk_X8_94 1 rfl rfl dX8_anew_26 ?_
  refine lv_iconst (v := (0 : Int32)) hx hb dX8_anew_29 rfl ?_
  refine r_put (ws' := [(h_this, ob 8 [.ref h_this_rock, .ref h_this_kept, .ref h_this_trial, .ref h_this_planner, .ref h_this_reader, .ref h_this_draft, .ref h_this_host, .ref h_this_thing, .ref h_this_tape, .ref h_this_rows, .int x_this_tapeCount, .int x_this_rowCount, .int x_this_isKept]), (h_this_rock, ob 3 [.ref h_this_rock_kinds, .ref h_this_rock_trims, .ref h_this_rock_lanes, .ref h_this_rock_lights, .ref h_this_rock_currents, .ref h_this_rock_buoys, .ref h_this_rock_now, .ref h_this_rock_rules, .ref h_this_rock_reports, .int x_this_rock_count, .int x_this_rock_end, .int x_this_rock_z]), (h_this_rock_now, ob 6 [.ref h_this_rock_now_off, .int (0 : Int32), .int (0 : Int32), .int x_this_rock_now_home])]) C h fw_X8_153 2 rfl rfl rfl (Nat.le_of_ble_eq_true rfl) dX8_anew_30 rfl (fun H locs h => ?_)
  refine lv_aload_n hx hb dX8_anew_33 rfl (lv_at hl 1 rfl) ?_
  refine r_get C h fk_X8_10 0 rfl rfl dX8_anew_34 ?_
  refine r_get C h fk_X8_94 1 rfl rfl dX8_anew_37 ?_
  refine lv_iconst (v := (0 : Int32)) hx hb dX8_anew_40 rfl ?_
  refine r_put (ws' := [(h_this, ob 8 [.ref h_this_rock, .ref h_this_kept, .ref h_this_trial, .ref h_this_planner, .ref h_this_reader, .ref h_this_draft, .ref h_this_host, .ref h_this_thing, .ref h_this_tape, .ref h_this_rows, .int x_this_tapeCount, .int x_this_rowCount, .int x_this_isKept]), (h_this_rock, ob 3 [.ref h_this_rock_kinds, .ref h_this_rock_trims, .ref h_this_rock_lanes, .ref h_this_rock_lights, .ref h_this_rock_currents, .ref h_this_rock_buoys, .ref h_this_rock_now, .ref h_this_rock_rules, .ref h_this_rock_reports, .int x_this_rock_count, .int x_this_rock_end, .int x_this_rock_z]), (h_this_rock_now, ob 6 [.ref h_this_rock_now_off, .int (0 : Int32), .int (0 : Int32), .int (0 : Int32)])]) C h fw_X8_156 2 rfl rfl rfl (Nat.le_of_ble_eq_true rfl) dX8_anew_41 rfl (fun H locs h => ?_)
  refine lv_iload_n hx hb dX8_anew_44 rfl (lv_at hl 0 rfl) ?_
  cases hf
  exact r_iret C h hr hlk rfl dX8_anew_45
def f_X3_isOver (x_a0_watch : Int32) (x_this_end : Int32) : Option (Int32) := (if x_a0_watch < x_this_end then some (0 : Int32) else some (1 : Int32))
set_option maxRecDepth 100000 in
set_option maxHeartbeats 4000000 in
theorem c_X3_isOver {l : Launch} {G : Gt} {h_a0 h_a0_off h_this h_this_kinds h_this_trims h_this_lanes h_this_lights h_this_currents h_this_buoys h_this_now h_this_rules h_this_reports : Nat} {x_a0_watch : Int32} {x_a0_score : Int32} {x_a0_home : Int32} {x_this_count : Int32} {x_this_end : Int32} {x_this_z : Int32} {r : Int32} (hf : f_X3_isOver x_a0_watch x_this_end = some r) : mFi l G yX3_isOver cX3_isOver 2 .boolean 0 [.ref h_this, .ref h_a0] [(h_a0, ob 6 [.ref h_a0_off, .int x_a0_watch, .int x_a0_score, .int x_a0_home]), (h_this, ob 3 [.ref h_this_kinds, .ref h_this_trims, .ref h_this_lanes, .ref h_this_lights, .ref h_this_currents, .ref h_this_buoys, .ref h_this_now, .ref h_this_rules, .ref h_this_reports, .int x_this_count, .int x_this_end, .int x_this_z])] r [(h_a0, ob 6 [.ref h_a0_off, .int x_a0_watch, .int x_a0_score, .int x_a0_home]), (h_this, ob 3 [.ref h_this_kinds, .ref h_this_trims, .ref h_this_lanes, .ref h_this_lights, .ref h_this_currents, .ref h_this_buoys, .ref h_this_now, .ref h_this_rules, .ref h_this_reports, .int x_this_count, .int x_this_end, .int x_this_z])] := by
  refine mFi.of (by decide +kernel) (Nat.le_of_ble_eq_true rfl) ?_
  intro p e s m below meth c A C hr hlk h ls hl
  obtain ⟨hx, hb, hml, hown, hts⟩ := id C
  replace hl : lv_has ls 2 [(0, .ref h_this), (1, .ref h_a0)] := hl
  unfold f_X3_isOver at hf
  refine lv_aload_n hx hb dX3_isOver_0 rfl (lv_at hl 1 rfl) ?_
  refine r_get C h fk_X3_83 0 rfl rfl dX3_isOver_1 ?_
  refine lv_aload_n hx hb dX3_isOver_4 rfl (lv_at hl 0 rfl) ?_
  refine r_get C h fk_X3_55 1 rfl rfl dX3_isOver_5 ?_
  refine lv_icmp_lt (tgt := 15) hx hb dX3_isOver_8 rfl (fun c1 => ?_) (fun c1 => ?_)
  · replace hf := ifp c1 hf
    refine lv_iconst (v := (0 : Int32)) hx hb dX3_isOver_15 rfl ?_
    cases hf
    exact r_iret C h hr hlk rfl dX3_isOver_16
  · replace hf := ifn c1 hf
    refine lv_iconst (v := (1 : Int32)) hx hb dX3_isOver_11 rfl ?_
    refine lv_goto (tgt := 16) hx hb dX3_isOver_12 rfl ?_
    cases hf
    exact r_iret C h hr hlk rfl dX3_isOver_16
def f_X6_isOnRock (p0 : Int32) (x_this_home : Int32) (f_this_off : Nat → Int32) : Option (Int32) := bd1 (f_X6_isHome p0 x_this_home) (fun r1 => (if r1 = 0 then chkI p0 6 ((if (f_this_off p0.toNatClampNeg) = 0 then some (1 : Int32) else some (0 : Int32))) else some (0 : Int32)))
set_option maxRecDepth 100000 in
set_option maxHeartbeats 4000000 in
theorem c_X6_isOnRock {l : Launch} {G : Gt} {h_this h_this_off : Nat} {p0 : Int32} {x_this_watch : Int32} {x_this_score : Int32} {x_this_home : Int32} {f_this_off : Nat → Int32} {r : Int32} (hf : f_X6_isOnRock p0 x_this_home f_this_off = some r) : mFi l G yX6_isOnRock cX6_isOnRock 2 .boolean 1 [.ref h_this, .int p0] [(h_this, ob 6 [.ref h_this_off, .int x_this_watch, .int x_this_score, .int x_this_home]), (h_this_off, ia G 6 f_this_off)] r [(h_this, ob 6 [.ref h_this_off, .int x_this_watch, .int x_this_score, .int x_this_home]), (h_this_off, ia G 6 f_this_off)] := by
  refine mFi.of (by decide +kernel) (Nat.le_of_ble_eq_true rfl) ?_
  intro p e s m below meth c A C hr hlk h ls hl
  obtain ⟨hx, hb, hml, hown, hts⟩ := id C
  replace hl : lv_has ls 2 [(0, .ref h_this), (1, .int p0)] := hl
  unfold f_X6_isOnRock at hf
  refine lv_aload_n hx hb dX6_isOnRock_0 rfl (lv_at hl 0 rfl) ?_
  refine lv_iload_n hx hb dX6_isOnRock_1 rfl (lv_at hl 1 rfl) ?_
  replace hf := bd1_inv hf
  obtain ⟨r1, hc2, hf⟩ := hf
  refine r_ciV0 C h (c_X6_isHome hc2) mv_X6_31 rfl 0 rfl [0] rfl rfl hl.1 rfl (Nat.le_of_ble_eq_true rfl) (rok (by decide)) dX6_isOnRock_2 (fun H locs h => ?_)
  refine lv_if_ne (tgt := 21) hx hb dX6_isOnRock_5 rfl (fun c3 => ?_) (fun c3 => ?_)
  · replace hf := ifn c3 hf
    refine lv_iconst (v := (0 : Int32)) hx hb dX6_isOnRock_21 rfl ?_
    cases hf
    exact r_iret C h hr hlk rfl dX6_isOnRock_22
  · replace hf := ifp c3 hf
    refine lv_aload_n hx hb dX6_isOnRock_8 rfl (lv_at hl 0 rfl) ?_
    refine r_get C h fk_X6_9 0 rfl rfl dX6_isOnRock_9 ?_
    refine lv_iload_n hx hb dX6_isOnRock_12 rfl (lv_at hl 1 rfl) ?_
    replace hf := chkI_inv hf
    obtain ⟨hi4, hf⟩ := hf
    refine r_iald C h 1 rfl hi4 dX6_isOnRock_13 ?_
    refine lv_if_ne (tgt := 21) hx hb dX6_isOnRock_14 rfl (fun c5 => ?_) (fun c5 => ?_)
    · replace hf := ifn c5 hf
      refine lv_iconst (v := (0 : Int32)) hx hb dX6_isOnRock_21 rfl ?_
      cases hf
      exact r_iret C h hr hlk rfl dX6_isOnRock_22
    · replace hf := ifp c5 hf
      refine lv_iconst (v := (1 : Int32)) hx hb dX6_isOnRock_17 rfl ?_
      refine lv_goto (tgt := 22) hx hb dX6_isOnRock_18 rfl ?_
      cases hf
      exact r_iret C h hr hlk rfl dX6_isOnRock_22
def f_X3_stranded_L4 (x_a0_home : Int32) (f_a0_off : Nat → Int32) (x_this_count : Int32) : Nat → Int32 → Int32 → Option (Int32)
  | 0, _, _ => none
  | n + 1, v2, v3 => (if x_this_count ≤ v3 then some v2 else bd1 (f_X6_isOnRock v3 x_a0_home f_a0_off) (fun r2 => (if r2 = 0 then lt1 (v3 + (1 : Int32)) (fun (t5 : Int32) => (f_X3_stranded_L4 x_a0_home f_a0_off x_this_count n) v2 t5) else lt1 (v2 + (1 : Int32)) (fun (t6 : Int32) => lt1 (v3 + (1 : Int32)) (fun (t7 : Int32) => (f_X3_stranded_L4 x_a0_home f_a0_off x_this_count n) t6 t7)))))
def f_X3_stranded (x_a0_home : Int32) (f_a0_off : Nat → Int32) (x_this_count : Int32) : Option (Int32) := f_X3_stranded_L4 x_a0_home f_a0_off x_this_count 1000 (0 : Int32) (0 : Int32)
set_option maxRecDepth 100000 in
set_option maxHeartbeats 4000000 in
theorem c_X3_stranded {l : Launch} {G : Gt} {h_a0 h_a0_off h_this h_this_kinds h_this_trims h_this_lanes h_this_lights h_this_currents h_this_buoys h_this_now h_this_rules h_this_reports : Nat} {x_a0_watch : Int32} {x_a0_score : Int32} {x_a0_home : Int32} {f_a0_off : Nat → Int32} {x_this_count : Int32} {x_this_end : Int32} {x_this_z : Int32} {r : Int32} (hf : f_X3_stranded x_a0_home f_a0_off x_this_count = some r) : mFi l G yX3_stranded cX3_stranded 4 .int 2 [.ref h_this, .ref h_a0] [(h_a0, ob 6 [.ref h_a0_off, .int x_a0_watch, .int x_a0_score, .int x_a0_home]), (h_a0_off, ia G 6 f_a0_off), (h_this, ob 3 [.ref h_this_kinds, .ref h_this_trims, .ref h_this_lanes, .ref h_this_lights, .ref h_this_currents, .ref h_this_buoys, .ref h_this_now, .ref h_this_rules, .ref h_this_reports, .int x_this_count, .int x_this_end, .int x_this_z])] r [(h_a0, ob 6 [.ref h_a0_off, .int x_a0_watch, .int x_a0_score, .int x_a0_home]), (h_a0_off, ia G 6 f_a0_off), (h_this, ob 3 [.ref h_this_kinds, .ref h_this_trims, .ref h_this_lanes, .ref h_this_lights, .ref h_this_currents, .ref h_this_buoys, .ref h_this_now, .ref h_this_rules, .ref h_this_reports, .int x_this_count, .int x_this_end, .int x_this_z])] := by
  refine mFi.of (by decide +kernel) (Nat.le_of_ble_eq_true rfl) ?_
  intro p e s m below meth c A C hr hlk h ls hl
  obtain ⟨hx, hb, hml, hown, hts⟩ := id C
  replace hl : lv_has ls 4 [(0, .ref h_this), (1, .ref h_a0)] := hl
  unfold f_X3_stranded at hf
  refine with_K G A 4 (fun K hK1 hK2 => ?_)
  have L4 : ∀ (n : Nat) (v2 : Int32) (v3 : Int32), f_X3_stranded_L4 x_a0_home f_a0_off x_this_count n v2 v3 = some r → K 4 ([] : List Value) [(h_a0, ob 6 [.ref h_a0_off, .int x_a0_watch, .int x_a0_score, .int x_a0_home]), (h_a0_off, ia G 6 f_a0_off), (h_this, ob 3 [.ref h_this_kinds, .ref h_this_trims, .ref h_this_lanes, .ref h_this_lights, .ref h_this_currents, .ref h_this_buoys, .ref h_this_now, .ref h_this_rules, .ref h_this_reports, .int x_this_count, .int x_this_end, .int x_this_z])] [(0, .ref h_this), (1, .ref h_a0), (2, .int v2), (3, .int v3)] := by
    intro n
    induction n with
    | zero =>
      intro v2 v3 hf
      replace hf : (none : Option _) = some _ := hf
      cases hf
    | succ n ih =>
      intro v2 v3 hf
      rw [f_X3_stranded_L4] at hf
      refine hK1 _ _ _ _ (fun H locs ls h hl => ?_)
      refine lv_iload_n hx hb dX3_stranded_4 rfl (lv_at hl 3 rfl) ?_
      refine lv_aload_n hx hb dX3_stranded_5 rfl (lv_at hl 0 rfl) ?_
      refine r_get C h fk_X3_51 2 rfl rfl dX3_stranded_6 ?_
      refine lv_icmp_ge (tgt := 29) hx hb dX3_stranded_9 rfl (fun c1 => ?_) (fun c1 => ?_)
      · replace hf := ifp c1 hf
        refine lv_iload_n hx hb dX3_stranded_29 rfl (lv_at hl 2 rfl) ?_
        cases hf
        exact r_iret C h hr hlk rfl dX3_stranded_30
      · replace hf := ifn c1 hf
        refine lv_aload_n hx hb dX3_stranded_12 rfl (lv_at hl 1 rfl) ?_
        refine lv_iload_n hx hb dX3_stranded_13 rfl (lv_at hl 3 rfl) ?_
        replace hf := bd1_inv hf
        obtain ⟨r2, hc3, hf⟩ := hf
        refine r_ciV0 C h (c_X6_isOnRock hc3) mv_X3_93 rfl 0 rfl [0, 1] rfl rfl hl.1 rfl (Nat.le_of_ble_eq_true rfl) (rok (by decide)) dX3_stranded_14 (fun H locs h => ?_)
        refine lv_if_eq (tgt := 23) hx hb dX3_stranded_17 rfl (fun c4 => ?_) (fun c4 => ?_)
        · replace hf := ifp c4 hf
          obtain ⟨t5, et5⟩ : ∃ y : Int32, y = v3 + (1 : Int32) := ⟨_, rfl⟩
          replace hf := lt1_inv et5 hf
          refine lv_iinc (v := t5) (lv' := [(3, .int t5), (0, .ref h_this), (1, .ref h_a0), (2, .int v2)]) hx hb dX3_stranded_23 hl (k := 3) rfl (by rw [et5]; rfl) (by decide) rfl (fun ls hl => ?_)
          refine lv_goto (tgt := 4) hx hb dX3_stranded_26 rfl ?_
          exact hK2 _ _ _ _ (ih v2 t5 hf) _ _ _ h (lv_sub hl [1, 2, 3, 0] rfl)
        · replace hf := ifn c4 hf
          obtain ⟨t6, et6⟩ : ∃ y : Int32, y = v2 + (1 : Int32) := ⟨_, rfl⟩
          replace hf := lt1_inv et6 hf
          refine lv_iinc (v := t6) (lv' := [(2, .int t6), (0, .ref h_this), (1, .ref h_a0), (3, .int v3)]) hx hb dX3_stranded_20 hl (k := 2) rfl (by rw [et6]; rfl) (by decide) rfl (fun ls hl => ?_)
          obtain ⟨t7, et7⟩ : ∃ y : Int32, y = v3 + (1 : Int32) := ⟨_, rfl⟩
          replace hf := lt1_inv et7 hf
          refine lv_iinc (v := t7) (lv' := [(3, .int t7), (2, .int t6), (0, .ref h_this), (1, .ref h_a0)]) hx hb dX3_stranded_23 hl (k := 3) rfl (by rw [et7]; rfl) (by decide) rfl (fun ls hl => ?_)
          refine lv_goto (tgt := 4) hx hb dX3_stranded_26 rfl ?_
          exact hK2 _ _ _ _ (ih t6 t7 hf) _ _ _ h (lv_sub hl [2, 3, 1, 0] rfl)
  refine lv_iconst (v := (0 : Int32)) hx hb dX3_stranded_0 rfl ?_
  refine lv_istore_n (lv' := [(2, .int (0 : Int32)), (0, .ref h_this), (1, .ref h_a0)]) hx hb dX3_stranded_1 rfl hl (by decide) rfl (fun ls hl => ?_)
  refine lv_iconst (v := (0 : Int32)) hx hb dX3_stranded_2 rfl ?_
  refine lv_istore_n (lv' := [(3, .int (0 : Int32)), (2, .int (0 : Int32)), (0, .ref h_this), (1, .ref h_a0)]) hx hb dX3_stranded_3 rfl hl (by decide) rfl (fun ls hl => ?_)
  exact hK2 _ _ _ _ (L4 1000 (0 : Int32) (0 : Int32) hf) _ _ _ h (lv_sub hl [2, 3, 1, 0] rfl)
def f_X8_state (p0 : Int32) (x_this_rock_count : Int32) (x_this_rock_end : Int32) (f_this_rock_lights : Nat → Int32) (x_this_rock_now_watch : Int32) (x_this_rock_now_score : Int32) (x_this_rock_now_home : Int32) (f_this_rock_now_off : Nat → Int32) : Option (Int32) := (if p0 = (0 : Int32) then some x_this_rock_now_watch else (if p0 = (1 : Int32) then some x_this_rock_end else (if p0 = (2 : Int32) then some x_this_rock_now_score else (if p0 = (3 : Int32) then bd1 (f_X3_isOver x_this_rock_now_watch x_this_rock_end) (fun r8 => (if r8 = 0 then some (0 : Int32) else some (1 : Int32))) else (if p0 = (4 : Int32) then some x_this_rock_now_home else (if p0 = (5 : Int32) then bd1 (f_X3_lightAt x_this_rock_now_watch f_this_rock_lights) (fun r11 => some r11) else (if p0 = (6 : Int32) then bd1 (f_X3_stranded x_this_rock_now_home f_this_rock_now_off x_this_rock_count) (fun r13 => some r13) else some (-1 : Int32))))))))
set_option maxRecDepth 100000 in
set_option maxHeartbeats 4000000 in
theorem c_X8_state {l : Launch} {G : Gt} {h_this h_this_rock h_this_kept h_this_trial h_this_planner h_this_reader h_this_draft h_this_host h_this_thing h_this_tape h_this_rows h_this_rock_kinds h_this_rock_trims h_this_rock_lanes h_this_rock_lights h_this_rock_currents h_this_rock_buoys h_this_rock_now h_this_rock_rules h_this_rock_reports h_this_rock_now_off : Nat} {p0 : Int32} {x_this_tapeCount : Int32} {x_this_rowCount : Int32} {x_this_isKept : Int32} {x_this_rock_count : Int32} {x_this_rock_end : Int32} {x_this_rock_z : Int32} {f_this_rock_lights : Nat → Int32} {x_this_rock_now_watch : Int32} {x_this_rock_now_score : Int32} {x_this_rock_now_home : Int32} {f_this_rock_now_off : Nat → Int32} {r : Int32} (hf : f_X8_state p0 x_this_rock_count x_this_rock_end f_this_rock_lights x_this_rock_now_watch x_this_rock_now_score x_this_rock_now_home f_this_rock_now_off = some r) : mFi l G yX8_state cX8_state 2 .int 3 [.ref h_this, .int p0] [(h_this, ob 8 [.ref h_this_rock, .ref h_this_kept, .ref h_this_trial, .ref h_this_planner, .ref h_this_reader, .ref h_this_draft, .ref h_this_host, .ref h_this_thing, .ref h_this_tape, .ref h_this_rows, .int x_this_tapeCount, .int x_this_rowCount, .int x_this_isKept]), (h_this_rock, ob 3 [.ref h_this_rock_kinds, .ref h_this_rock_trims, .ref h_this_rock_lanes, .ref h_this_rock_lights, .ref h_this_rock_currents, .ref h_this_rock_buoys, .ref h_this_rock_now, .ref h_this_rock_rules, .ref h_this_rock_reports, .int x_this_rock_count, .int x_this_rock_end, .int x_this_rock_z]), (h_this_rock_lights, ia G 16 f_this_rock_lights), (h_this_rock_now, ob 6 [.ref h_this_rock_now_off, .int x_this_rock_now_watch, .int x_this_rock_now_score, .int x_this_rock_now_home]), (h_this_rock_now_off, ia G 6 f_this_rock_now_off)] r [(h_this, ob 8 [.ref h_this_rock, .ref h_this_kept, .ref h_this_trial, .ref h_this_planner, .ref h_this_reader, .ref h_this_draft, .ref h_this_host, .ref h_this_thing, .ref h_this_tape, .ref h_this_rows, .int x_this_tapeCount, .int x_this_rowCount, .int x_this_isKept]), (h_this_rock, ob 3 [.ref h_this_rock_kinds, .ref h_this_rock_trims, .ref h_this_rock_lanes, .ref h_this_rock_lights, .ref h_this_rock_currents, .ref h_this_rock_buoys, .ref h_this_rock_now, .ref h_this_rock_rules, .ref h_this_rock_reports, .int x_this_rock_count, .int x_this_rock_end, .int x_this_rock_z]), (h_this_rock_lights, ia G 16 f_this_rock_lights), (h_this_rock_now, ob 6 [.ref h_this_rock_now_off, .int x_this_rock_now_watch, .int x_this_rock_now_score, .int x_this_rock_now_home]), (h_this_rock_now_off, ia G 6 f_this_rock_now_off)] := by
  refine mFi.of (by decide +kernel) (Nat.le_of_ble_eq_true rfl) ?_
  intro p e s m below meth c A C hr hlk h ls hl
  obtain ⟨hx, hb, hml, hown, hts⟩ := id C
  replace hl : lv_has ls 2 [(0, .ref h_this), (1, .int p0)] := hl
  unfold f_X8_state at hf
  refine lv_iload_n hx hb dX8_state_0 rfl (lv_at hl 1 rfl) ?_
  by_cases c1 : p0 = (0 : Int32)
  · replace hf := ifp c1 hf
    refine r_tab (tgt := 44) C dX8_state_1 (0 : Int32) c1 (by decide) rfl rfl ?_
    refine lv_aload_n hx hb dX8_state_44 rfl (lv_at hl 0 rfl) ?_
    refine r_get C h fk_X8_10 0 rfl rfl dX8_state_45 ?_
    refine r_get C h fk_X8_94 1 rfl rfl dX8_state_48 ?_
    refine r_get C h fk_X8_147 3 rfl rfl dX8_state_51 ?_
    cases hf
    exact r_iret C h hr hlk rfl dX8_state_54
  · replace hf := ifn c1 hf
    by_cases c2 : p0 = (1 : Int32)
    · replace hf := ifp c2 hf
      refine r_tab (tgt := 55) C dX8_state_1 (1 : Int32) c2 (by decide) rfl rfl ?_
      refine lv_aload_n hx hb dX8_state_55 rfl (lv_at hl 0 rfl) ?_
      refine r_get C h fk_X8_10 0 rfl rfl dX8_state_56 ?_
      refine r_get C h fk_X8_150 1 rfl rfl dX8_state_59 ?_
      cases hf
      exact r_iret C h hr hlk rfl dX8_state_62
    · replace hf := ifn c2 hf
      by_cases c3 : p0 = (2 : Int32)
      · replace hf := ifp c3 hf
        refine r_tab (tgt := 63) C dX8_state_1 (2 : Int32) c3 (by decide) rfl rfl ?_
        refine lv_aload_n hx hb dX8_state_63 rfl (lv_at hl 0 rfl) ?_
        refine r_get C h fk_X8_10 0 rfl rfl dX8_state_64 ?_
        refine r_get C h fk_X8_94 1 rfl rfl dX8_state_67 ?_
        refine r_get C h fk_X8_153 3 rfl rfl dX8_state_70 ?_
        cases hf
        exact r_iret C h hr hlk rfl dX8_state_73
      · replace hf := ifn c3 hf
        by_cases c4 : p0 = (3 : Int32)
        · replace hf := ifp c4 hf
          refine r_tab (tgt := 74) C dX8_state_1 (3 : Int32) c4 (by decide) rfl rfl ?_
          refine lv_aload_n hx hb dX8_state_74 rfl (lv_at hl 0 rfl) ?_
          refine r_get C h fk_X8_10 0 rfl rfl dX8_state_75 ?_
          refine lv_aload_n hx hb dX8_state_78 rfl (lv_at hl 0 rfl) ?_
          refine r_get C h fk_X8_10 0 rfl rfl dX8_state_79 ?_
          refine r_get C h fk_X8_94 1 rfl rfl dX8_state_82 ?_
          replace hf := bd1_inv hf
          obtain ⟨r8, hc9, hf⟩ := hf
          refine r_ciV0 C h (c_X3_isOver hc9) mv_X8_159 rfl 1 rfl [3, 1] rfl rfl hl.1 rfl (Nat.le_of_ble_eq_true rfl) (rok (by decide)) dX8_state_85 (fun H locs h => ?_)
          refine lv_if_eq (tgt := 95) hx hb dX8_state_88 rfl (fun c10 => ?_) (fun c10 => ?_)
          · replace hf := ifp c10 hf
            refine lv_iconst (v := (0 : Int32)) hx hb dX8_state_95 rfl ?_
            cases hf
            exact r_iret C h hr hlk rfl dX8_state_96
          · replace hf := ifn c10 hf
            refine lv_iconst (v := (1 : Int32)) hx hb dX8_state_91 rfl ?_
            refine lv_goto (tgt := 96) hx hb dX8_state_92 rfl ?_
            cases hf
            exact r_iret C h hr hlk rfl dX8_state_96
        · replace hf := ifn c4 hf
          by_cases c5 : p0 = (4 : Int32)
          · replace hf := ifp c5 hf
            refine r_tab (tgt := 97) C dX8_state_1 (4 : Int32) c5 (by decide) rfl rfl ?_
            refine lv_aload_n hx hb dX8_state_97 rfl (lv_at hl 0 rfl) ?_
            refine r_get C h fk_X8_10 0 rfl rfl dX8_state_98 ?_
            refine r_get C h fk_X8_94 1 rfl rfl dX8_state_101 ?_
            refine r_get C h fk_X8_156 3 rfl rfl dX8_state_104 ?_
            cases hf
            exact r_iret C h hr hlk rfl dX8_state_107
          · replace hf := ifn c5 hf
            by_cases c6 : p0 = (5 : Int32)
            · replace hf := ifp c6 hf
              refine r_tab (tgt := 108) C dX8_state_1 (5 : Int32) c6 (by decide) rfl rfl ?_
              refine lv_aload_n hx hb dX8_state_108 rfl (lv_at hl 0 rfl) ?_
              refine r_get C h fk_X8_10 0 rfl rfl dX8_state_109 ?_
              refine lv_aload_n hx hb dX8_state_112 rfl (lv_at hl 0 rfl) ?_
              refine r_get C h fk_X8_10 0 rfl rfl dX8_state_113 ?_
              refine r_get C h fk_X8_94 1 rfl rfl dX8_state_116 ?_
              refine r_get C h fk_X8_147 3 rfl rfl dX8_state_119 ?_
              replace hf := bd1_inv hf
              obtain ⟨r11, hc12, hf⟩ := hf
              refine r_ciV0 C h (c_X3_lightAt hc12) mv_X8_163 rfl 1 rfl [1, 2] rfl rfl hl.1 rfl (Nat.le_of_ble_eq_true rfl) (rok (by decide)) dX8_state_122 (fun H locs h => ?_)
              cases hf
              exact r_iret C h hr hlk rfl dX8_state_125
            · replace hf := ifn c6 hf
              by_cases c7 : p0 = (6 : Int32)
              · replace hf := ifp c7 hf
                refine r_tab (tgt := 126) C dX8_state_1 (6 : Int32) c7 (by decide) rfl rfl ?_
                refine lv_aload_n hx hb dX8_state_126 rfl (lv_at hl 0 rfl) ?_
                refine r_get C h fk_X8_10 0 rfl rfl dX8_state_127 ?_
                refine lv_aload_n hx hb dX8_state_130 rfl (lv_at hl 0 rfl) ?_
                refine r_get C h fk_X8_10 0 rfl rfl dX8_state_131 ?_
                refine r_get C h fk_X8_94 1 rfl rfl dX8_state_134 ?_
                replace hf := bd1_inv hf
                obtain ⟨r13, hc14, hf⟩ := hf
                refine r_ciV0 C h (c_X3_stranded hc14) mv_X8_167 rfl 1 rfl [3, 4, 1] rfl rfl hl.1 rfl (Nat.le_of_ble_eq_true rfl) (rok (by decide)) dX8_state_137 (fun H locs h => ?_)
                cases hf
                exact r_iret C h hr hlk rfl dX8_state_140
              · replace hf := ifn c7 hf
                refine r_tabD (tgt := 141) C dX8_state_1 [(0 : Int32), (1 : Int32), (2 : Int32), (3 : Int32), (4 : Int32), (5 : Int32), (6 : Int32)] (by decide) (nel_c c1 (nel_c c2 (nel_c c3 (nel_c c4 (nel_c c5 (nel_c c6 (nel_c c7 nel_0))))))) rfl ?_
                refine lv_iconst (v := (-1 : Int32)) hx hb dX8_state_141 rfl ?_
                cases hf
                exact r_iret C h hr hlk rfl dX8_state_142
def f_X8_feed_b66 (p1 : Int32) (x_this_tapeCount : Int32) (g_this_tape : Nat → Int32) : Option (Int32 × Int32 × (Nat → Int32)) := lt1 (x_this_tapeCount + p1) (fun (t6 : Int32) => some (t6, t6, g_this_tape))
def f_X8_feed_L30 (p0 : Int64) (p1 : Int32) (x_this_tapeCount : Int32) : Nat → Int32 → (Nat → Int32) → Option (Int32 × Int32 × (Nat → Int32))
  | 0, _, _ => none
  | n + 1, v4, g_this_tape => (if p1 ≤ v4 then f_X8_feed_b66 p1 x_this_tapeCount g_this_tape else lt1 ((((p0.toUInt64 >>> (((8 : Int32) * v4).toInt64.toUInt64 &&& Int64.toUInt64 63)).toInt64).toInt32) &&& (255 : Int32)) (fun (t7 : Int32) => chkI (x_this_tapeCount + v4) 200 (lt1 (v4 + (1 : Int32)) (fun (t9 : Int32) => (f_X8_feed_L30 p0 p1 x_this_tapeCount n) t9 (upd g_this_tape (x_this_tapeCount + v4).toNatClampNeg t7)))))
def f_X8_feed (p0 : Int64) (p1 : Int32) (x_this_tapeCount : Int32) (f_this_tape : Nat → Int32) : Option (Int32 × Int32 × (Nat → Int32)) := bd1 (f_X8_within p1 (1 : Int32) (8 : Int32)) (fun r1 => (if r1 = 0 then some ((-1 : Int32), x_this_tapeCount, f_this_tape) else (if (x_this_tapeCount + p1) ≤ (200 : Int32) then f_X8_feed_L30 p0 p1 x_this_tapeCount 1000 (0 : Int32) f_this_tape else some ((-2 : Int32), x_this_tapeCount, f_this_tape))))
set_option maxRecDepth 100000 in
set_option maxHeartbeats 4000000 in
theorem c_X8_feed {l : Launch} {G : Gt} {h_this h_this_rock h_this_kept h_this_trial h_this_planner h_this_reader h_this_draft h_this_host h_this_thing h_this_tape h_this_rows : Nat} {p0 : Int64} {p1 : Int32} {x_this_tapeCount : Int32} {x_this_rowCount : Int32} {x_this_isKept : Int32} {f_this_tape : Nat → Int32} {r : Int32} {m_this_tapeCount : Int32} {m_this_tape : Nat → Int32} (hf : f_X8_feed p0 p1 x_this_tapeCount f_this_tape = some (r, m_this_tapeCount, m_this_tape)) : mFi l G yX8_feed cX8_feed 5 .int 1 [.ref h_this, .long p0, .int p1] [(h_this, ob 8 [.ref h_this_rock, .ref h_this_kept, .ref h_this_trial, .ref h_this_planner, .ref h_this_reader, .ref h_this_draft, .ref h_this_host, .ref h_this_thing, .ref h_this_tape, .ref h_this_rows, .int x_this_tapeCount, .int x_this_rowCount, .int x_this_isKept]), (h_this_tape, ia G 200 f_this_tape)] r [(h_this, ob 8 [.ref h_this_rock, .ref h_this_kept, .ref h_this_trial, .ref h_this_planner, .ref h_this_reader, .ref h_this_draft, .ref h_this_host, .ref h_this_thing, .ref h_this_tape, .ref h_this_rows, .int m_this_tapeCount, .int x_this_rowCount, .int x_this_isKept]), (h_this_tape, ia G 200 m_this_tape)] := by
  refine mFi.of (by decide +kernel) (Nat.le_of_ble_eq_true rfl) ?_
  intro p e s m below meth c A C hr hlk h ls hl
  obtain ⟨hx, hb, hml, hown, hts⟩ := id C
  replace hl : lv_has ls 5 [(0, .ref h_this), (1, .long p0), (3, .int p1)] := hl
  unfold f_X8_feed at hf
  refine with_K G A 5 (fun K hK1 hK2 => ?_)
  have B66 : ∀ (g_this_tape : Nat → Int32), f_X8_feed_b66 p1 x_this_tapeCount g_this_tape = some (r, m_this_tapeCount, m_this_tape) → K 66 ([] : List Value) [(h_this, ob 8 [.ref h_this_rock, .ref h_this_kept, .ref h_this_trial, .ref h_this_planner, .ref h_this_reader, .ref h_this_draft, .ref h_this_host, .ref h_this_thing, .ref h_this_tape, .ref h_this_rows, .int x_this_tapeCount, .int x_this_rowCount, .int x_this_isKept]), (h_this_tape, ia G 200 g_this_tape)] [(0, .ref h_this), (3, .int p1)] := by
    intro g_this_tape hf
    unfold f_X8_feed_b66 at hf
    refine hK1 _ _ _ _ (fun H locs ls h hl => ?_)
    refine lv_aload_n hx hb dX8_feed_66 rfl (lv_at hl 0 rfl) ?_
    refine lv_dup hx hb dX8_feed_67 rfl ?_
    refine r_get C h fk_X8_68 0 rfl rfl dX8_feed_68 ?_
    refine lv_iload_n hx hb dX8_feed_71 rfl (lv_at hl 1 rfl) ?_
    refine lv_iadd hx hb dX8_feed_72 ?_
    refine lv_topi (fun t6 et6 => ?_)
    replace hf := lt1_inv et6 hf
    refine r_put (ws' := [(h_this, ob 8 [.ref h_this_rock, .ref h_this_kept, .ref h_this_trial, .ref h_this_planner, .ref h_this_reader, .ref h_this_draft, .ref h_this_host, .ref h_this_thing, .ref h_this_tape, .ref h_this_rows, .int t6, .int x_this_rowCount, .int x_this_isKept]), (h_this_tape, ia G 200 g_this_tape)]) C h fw_X8_68 0 rfl rfl rfl (Nat.le_of_ble_eq_true rfl) dX8_feed_73 rfl (fun H locs h => ?_)
    refine lv_aload_n hx hb dX8_feed_76 rfl (lv_at hl 0 rfl) ?_
    refine r_get C h fk_X8_68 0 rfl rfl dX8_feed_77 ?_
    cases hf
    exact r_iret C h hr hlk rfl dX8_feed_80
  have L30 : ∀ (n : Nat) (v4 : Int32) (g_this_tape : Nat → Int32), f_X8_feed_L30 p0 p1 x_this_tapeCount n v4 g_this_tape = some (r, m_this_tapeCount, m_this_tape) → K 30 ([] : List Value) [(h_this, ob 8 [.ref h_this_rock, .ref h_this_kept, .ref h_this_trial, .ref h_this_planner, .ref h_this_reader, .ref h_this_draft, .ref h_this_host, .ref h_this_thing, .ref h_this_tape, .ref h_this_rows, .int x_this_tapeCount, .int x_this_rowCount, .int x_this_isKept]), (h_this_tape, ia G 200 g_this_tape)] [(0, .ref h_this), (1, .long p0), (3, .int p1), (4, .int v4)] := by
    intro n
    induction n with
    | zero =>
      intro v4 g_this_tape hf
      replace hf : (none : Option _) = some _ := hf
      cases hf
    | succ n ih =>
      intro v4 g_this_tape hf
      rw [f_X8_feed_L30] at hf
      refine hK1 _ _ _ _ (fun H locs ls h hl => ?_)
      refine lv_iload hx hb dX8_feed_30 (lv_at hl 3 rfl) ?_
      refine lv_iload_n hx hb dX8_feed_32 rfl (lv_at hl 2 rfl) ?_
      refine lv_icmp_ge (tgt := 66) hx hb dX8_feed_33 rfl (fun c5 => ?_) (fun c5 => ?_)
      · replace hf := ifp c5 hf
        exact hK2 _ _ _ _ (B66 g_this_tape hf) _ _ _ h (lv_sub hl [0, 2] rfl)
      · replace hf := ifn c5 hf
        refine lv_aload_n hx hb dX8_feed_36 rfl (lv_at hl 0 rfl) ?_
        refine r_get C h fk_X8_61 0 rfl rfl dX8_feed_37 ?_
        refine lv_aload_n hx hb dX8_feed_40 rfl (lv_at hl 0 rfl) ?_
        refine r_get C h fk_X8_68 0 rfl rfl dX8_feed_41 ?_
        refine lv_iload hx hb dX8_feed_44 (lv_at hl 3 rfl) ?_
        refine lv_iadd hx hb dX8_feed_46 ?_
        refine lv_lload_n hx hb dX8_feed_47 rfl (lv_at hl 1 rfl) ?_
        refine lv_bipush (v := (8 : Int32)) hx hb dX8_feed_48 rfl ?_
        refine lv_iload hx hb dX8_feed_50 (lv_at hl 3 rfl) ?_
        refine lv_imul hx hb dX8_feed_52 ?_
        refine lv_lushr hx hb dX8_feed_53 rfl ?_
        refine lv_l2i hx hb dX8_feed_54 rfl ?_
        refine lv_sipush (v := (255 : Int32)) hx hb dX8_feed_55 rfl ?_
        refine lv_iand hx hb dX8_feed_58 ?_
        refine lv_topi (fun t7 et7 => ?_)
        replace hf := lt1_inv et7 hf
        replace hf := chkI_inv hf
        obtain ⟨hi8, hf⟩ := hf
        refine r_iast (ws' := [(h_this, ob 8 [.ref h_this_rock, .ref h_this_kept, .ref h_this_trial, .ref h_this_planner, .ref h_this_reader, .ref h_this_draft, .ref h_this_host, .ref h_this_thing, .ref h_this_tape, .ref h_this_rows, .int x_this_tapeCount, .int x_this_rowCount, .int x_this_isKept]), (h_this_tape, ia G 200 (upd g_this_tape (x_this_tapeCount + v4).toNatClampNeg t7))]) C h 1 rfl hi8 dX8_feed_59 rfl (fun H locs h => ?_)
        obtain ⟨t9, et9⟩ : ∃ y : Int32, y = v4 + (1 : Int32) := ⟨_, rfl⟩
        replace hf := lt1_inv et9 hf
        refine lv_iinc (v := t9) (lv' := [(4, .int t9), (0, .ref h_this), (1, .long p0), (3, .int p1)]) hx hb dX8_feed_60 hl (k := 3) rfl (by rw [et9]; rfl) (by decide) rfl (fun ls hl => ?_)
        refine lv_goto (tgt := 30) hx hb dX8_feed_63 rfl ?_
        exact hK2 _ _ _ _ (ih t9 (upd g_this_tape (x_this_tapeCount + v4).toNatClampNeg t7) hf) _ _ _ h (lv_sub hl [1, 2, 3, 0] rfl)
  refine lv_iload_n hx hb dX8_feed_0 rfl (lv_at hl 2 rfl) ?_
  refine lv_iconst (v := (1 : Int32)) hx hb dX8_feed_1 rfl ?_
  refine lv_bipush (v := (8 : Int32)) hx hb dX8_feed_2 rfl ?_
  replace hf := bd1_inv hf
  obtain ⟨r1, hc2, hf⟩ := hf
  refine r_ciS0 C h (c_X8_within hc2) ms_X8_79 rfl [] rfl rfl hl.1 rfl (Nat.le_of_ble_eq_true rfl) (rok (by decide)) dX8_feed_4 (fun H locs h => ?_)
  refine lv_if_ne (tgt := 12) hx hb dX8_feed_7 rfl (fun c3 => ?_) (fun c3 => ?_)
  · replace hf := ifn c3 hf
    refine lv_aload_n hx hb dX8_feed_12 rfl (lv_at hl 0 rfl) ?_
    refine r_get C h fk_X8_68 0 rfl rfl dX8_feed_13 ?_
    refine lv_iload_n hx hb dX8_feed_16 rfl (lv_at hl 2 rfl) ?_
    refine lv_iadd hx hb dX8_feed_17 ?_
    refine lv_sipush (v := (200 : Int32)) hx hb dX8_feed_18 rfl ?_
    refine lv_icmp_le (tgt := 27) hx hb dX8_feed_21 rfl (fun c4 => ?_) (fun c4 => ?_)
    · replace hf := ifp c4 hf
      refine lv_iconst (v := (0 : Int32)) hx hb dX8_feed_27 rfl ?_
      refine lv_istore (lv' := [(4, .int (0 : Int32)), (0, .ref h_this), (1, .long p0), (3, .int p1)]) hx hb dX8_feed_28 hl (by decide) rfl (fun ls hl => ?_)
      exact hK2 _ _ _ _ (L30 1000 (0 : Int32) f_this_tape hf) _ _ _ h (lv_sub hl [1, 2, 3, 0] rfl)
    · replace hf := ifn c4 hf
      refine lv_bipush (v := (-2 : Int32)) hx hb dX8_feed_24 rfl ?_
      cases hf
      exact r_iret C h hr hlk rfl dX8_feed_26
  · replace hf := ifp c3 hf
    refine lv_iconst (v := (-1 : Int32)) hx hb dX8_feed_10 rfl ?_
    cases hf
    exact r_iret C h hr hlk rfl dX8_feed_11
def f_X5_clear : Option (Int32 × Int32) := some ((0 : Int32), (0 : Int32))
set_option maxRecDepth 100000 in
set_option maxHeartbeats 4000000 in
theorem c_X5_clear {l : Launch} {G : Gt} {h_this h_this_kinds h_this_deeds h_this_begins h_this_steps h_this_lefts h_this_rights h_this_facts : Nat} {x_this_count : Int32} {x_this_size : Int32} {m_this_count : Int32} {m_this_size : Int32} (hf : f_X5_clear = some (m_this_count, m_this_size)) : mFv l G yX5_clear cX5_clear 1 0 [.ref h_this] [(h_this, ob 5 [.ref h_this_kinds, .ref h_this_deeds, .ref h_this_begins, .ref h_this_steps, .ref h_this_lefts, .ref h_this_rights, .ref h_this_facts, .int x_this_count, .int x_this_size])] [(h_this, ob 5 [.ref h_this_kinds, .ref h_this_deeds, .ref h_this_begins, .ref h_this_steps, .ref h_this_lefts, .ref h_this_rights, .ref h_this_facts, .int m_this_count, .int m_this_size])] := by
  refine mFv.of (by decide +kernel) (Nat.le_of_ble_eq_true rfl) ?_
  intro p e s m below meth c A C hr hlk h ls hl
  obtain ⟨hx, hb, hml, hown, hts⟩ := id C
  replace hl : lv_has ls 1 [(0, .ref h_this)] := hl
  unfold f_X5_clear at hf
  refine lv_aload_n hx hb dX5_clear_0 rfl (lv_at hl 0 rfl) ?_
  refine lv_iconst (v := (0 : Int32)) hx hb dX5_clear_1 rfl ?_
  refine r_put (ws' := [(h_this, ob 5 [.ref h_this_kinds, .ref h_this_deeds, .ref h_this_begins, .ref h_this_steps, .ref h_this_lefts, .ref h_this_rights, .ref h_this_facts, .int (0 : Int32), .int x_this_size])]) C h fw_X5_33 0 rfl rfl rfl (Nat.le_of_ble_eq_true rfl) dX5_clear_2 rfl (fun H locs h => ?_)
  refine lv_aload_n hx hb dX5_clear_5 rfl (lv_at hl 0 rfl) ?_
  refine lv_iconst (v := (0 : Int32)) hx hb dX5_clear_6 rfl ?_
  refine r_put (ws' := [(h_this, ob 5 [.ref h_this_kinds, .ref h_this_deeds, .ref h_this_begins, .ref h_this_steps, .ref h_this_lefts, .ref h_this_rights, .ref h_this_facts, .int (0 : Int32), .int (0 : Int32)])]) C h fw_X5_37 0 rfl rfl rfl (Nat.le_of_ble_eq_true rfl) dX5_clear_7 rfl (fun H locs h => ?_)
  cases hf
  exact r_vret C h hr hlk dX5_clear_10
def f_X4_isLetter (p0 : Int32) : Option (Int32) := (if p0 < (97 : Int32) then some (0 : Int32) else (if (122 : Int32) < p0 then some (0 : Int32) else some (1 : Int32)))
set_option maxRecDepth 100000 in
set_option maxHeartbeats 4000000 in
theorem c_X4_isLetter {l : Launch} {G : Gt} {p0 : Int32} {r : Int32} (hf : f_X4_isLetter p0 = some r) : mFi l G yX4_isLetter cX4_isLetter 1 .boolean 0 [.int p0] ([] : va_W) r ([] : va_W) := by
  refine mFi.of (by decide +kernel) (Nat.le_of_ble_eq_true rfl) ?_
  intro p e s m below meth c A C hr hlk h ls hl
  obtain ⟨hx, hb, hml, hown, hts⟩ := id C
  replace hl : lv_has ls 1 [(0, .int p0)] := hl
  unfold f_X4_isLetter at hf
  refine lv_iload_n hx hb dX4_isLetter_0 rfl (lv_at hl 0 rfl) ?_
  refine lv_bipush (v := (97 : Int32)) hx hb dX4_isLetter_1 rfl ?_
  refine lv_icmp_lt (tgt := 16) hx hb dX4_isLetter_3 rfl (fun c1 => ?_) (fun c1 => ?_)
  · replace hf := ifp c1 hf
    refine lv_iconst (v := (0 : Int32)) hx hb dX4_isLetter_16 rfl ?_
    cases hf
    exact r_iret C h hr hlk rfl dX4_isLetter_17
  · replace hf := ifn c1 hf
    refine lv_iload_n hx hb dX4_isLetter_6 rfl (lv_at hl 0 rfl) ?_
    refine lv_bipush (v := (122 : Int32)) hx hb dX4_isLetter_7 rfl ?_
    refine lv_icmp_gt (tgt := 16) hx hb dX4_isLetter_9 rfl (fun c2 => ?_) (fun c2 => ?_)
    · replace hf := ifp c2 hf
      refine lv_iconst (v := (0 : Int32)) hx hb dX4_isLetter_16 rfl ?_
      cases hf
      exact r_iret C h hr hlk rfl dX4_isLetter_17
    · replace hf := ifn c2 hf
      refine lv_iconst (v := (1 : Int32)) hx hb dX4_isLetter_12 rfl ?_
      refine lv_goto (tgt := 17) hx hb dX4_isLetter_13 rfl ?_
      cases hf
      exact r_iret C h hr hlk rfl dX4_isLetter_17
def f_X4_wordOf_L11 (p1 : Int32) (p2 : Int32) (n_a0 : Nat) (f_a0 : Nat → Int32) : Nat → Int32 → Int32 → Int32 → Int32 → Option (Int32)
  | 0, _, _, _, _ => none
  | n + 1, v3, v4, v5, v6 => (if (100 : Int32) ≤ v6 then some (20 : Int32) else chkI v6 100 (lt1 (wd_ch v6.toNatClampNeg) (fun (t3 : Int32) => (if t3 = (32 : Int32) then (if v5 = 0 then lt1 (v3 + (1 : Int32)) (fun (t6 : Int32) => lt1 (v6 + (1 : Int32)) (fun (t7 : Int32) => (f_X4_wordOf_L11 p1 p2 n_a0 f_a0 n) t6 (0 : Int32) (1 : Int32) t7)) else (if v4 = p2 then some v3 else lt1 (v3 + (1 : Int32)) (fun (t9 : Int32) => lt1 (v6 + (1 : Int32)) (fun (t10 : Int32) => (f_X4_wordOf_L11 p1 p2 n_a0 f_a0 n) t9 (0 : Int32) (1 : Int32) t10)))) else (if v5 = 0 then lt1 (v4 + (1 : Int32)) (fun (t12 : Int32) => lt1 (v6 + (1 : Int32)) (fun (t13 : Int32) => (f_X4_wordOf_L11 p1 p2 n_a0 f_a0 n) v3 t12 (0 : Int32) t13)) else (if p2 ≤ v4 then lt1 (v4 + (1 : Int32)) (fun (t15 : Int32) => lt1 (v6 + (1 : Int32)) (fun (t16 : Int32) => (f_X4_wordOf_L11 p1 p2 n_a0 f_a0 n) v3 t15 (0 : Int32) t16)) else chkI (p1 + v4) n_a0 ((if (f_a0 (p1 + v4).toNatClampNeg) = t3 then lt1 (v4 + (1 : Int32)) (fun (t21 : Int32) => lt1 (v6 + (1 : Int32)) (fun (t22 : Int32) => (f_X4_wordOf_L11 p1 p2 n_a0 f_a0 n) v3 t21 (1 : Int32) t22)) else lt1 (v4 + (1 : Int32)) (fun (t19 : Int32) => lt1 (v6 + (1 : Int32)) (fun (t20 : Int32) => (f_X4_wordOf_L11 p1 p2 n_a0 f_a0 n) v3 t19 (0 : Int32) t20))))))))))
def f_X4_wordOf (p1 : Int32) (p2 : Int32) (n_a0 : Nat) (f_a0 : Nat → Int32) : Option (Int32) := f_X4_wordOf_L11 p1 p2 n_a0 f_a0 1000 (0 : Int32) (0 : Int32) (1 : Int32) (0 : Int32)
set_option maxRecDepth 100000 in
set_option maxHeartbeats 4000000 in
theorem c_X4_wordOf {l : Launch} {G : Gt} {h_a0 : Nat} {p1 : Int32} {p2 : Int32} {n_a0 : Nat} {f_a0 : Nat → Int32} {r : Int32} (hf : f_X4_wordOf p1 p2 n_a0 f_a0 = some r) : mFi l G yX4_wordOf cX4_wordOf 8 .int 9 [.ref h_a0, .int p1, .int p2] [(h_a0, ia G n_a0 f_a0)] r [(h_a0, ia G n_a0 f_a0)] := by
  refine mFi.of (by decide +kernel) (Nat.le_of_ble_eq_true rfl) ?_
  intro p e s m below meth c A C hr hlk h ls hl
  obtain ⟨hx, hb, hml, hown, hts⟩ := id C
  replace hl : lv_has ls 8 [(0, .ref h_a0), (1, .int p1), (2, .int p2)] := hl
  unfold f_X4_wordOf at hf
  refine with_K G A 8 (fun K hK1 hK2 => ?_)
  have L11 : ∀ (n : Nat) (v3 : Int32) (v4 : Int32) (v5 : Int32) (v6 : Int32), f_X4_wordOf_L11 p1 p2 n_a0 f_a0 n v3 v4 v5 v6 = some r → K 11 ([] : List Value) [(h_a0, ia G n_a0 f_a0)] [(0, .ref h_a0), (1, .int p1), (2, .int p2), (3, .int v3), (4, .int v4), (5, .int v5), (6, .int v6)] := by
    intro n
    induction n with
    | zero =>
      intro v3 v4 v5 v6 hf
      replace hf : (none : Option _) = some _ := hf
      cases hf
    | succ n ih =>
      intro v3 v4 v5 v6 hf
      rw [f_X4_wordOf_L11] at hf
      refine hK1 _ _ _ _ (fun H locs ls h hl => ?_)
      refine lv_iload hx hb dX4_wordOf_11 (lv_at hl 6 rfl) ?_
      refine r_ldcW C h dX4_wordOf_13 (fun aW hW => ?_)
      refine r_wlen C h hW hl.1 (Nat.le_of_ble_eq_true rfl) dX4_wordOf_15 ?_
      refine lv_icmp_ge (tgt := 100) hx hb dX4_wordOf_18 rfl (fun c1 => ?_) (fun c1 => ?_)
      · replace hf := ifp c1 hf
        refine lv_bipush (v := (20 : Int32)) hx hb dX4_wordOf_100 rfl ?_
        cases hf
        exact r_iret C h hr hlk rfl dX4_wordOf_102
      · replace hf := ifn c1 hf
        refine r_ldcW C h dX4_wordOf_21 (fun aW hW => ?_)
        refine lv_iload hx hb dX4_wordOf_23 (lv_at hl 6 rfl) ?_
        replace hf := chkI_inv hf
        obtain ⟨hi2, hf⟩ := hf
        refine r_wch C h hW hi2 hl.1 (Nat.le_of_ble_eq_true rfl) dX4_wordOf_25 ?_
        refine lv_topi (fun t3 et3 => ?_)
        replace hf := lt1_inv et3 hf
        refine lv_istore (lv' := [(7, .int t3), (0, .ref h_a0), (1, .int p1), (2, .int p2), (3, .int v3), (4, .int v4), (5, .int v5), (6, .int v6)]) hx hb dX4_wordOf_28 hl (by decide) rfl (fun ls hl => ?_)
        refine lv_iload hx hb dX4_wordOf_30 (lv_at hl 0 rfl) ?_
        refine lv_bipush (v := (32 : Int32)) hx hb dX4_wordOf_32 rfl ?_
        refine lv_icmp_eq (tgt := 72) hx hb dX4_wordOf_34 rfl (fun c4 => ?_) (fun c4 => ?_)
        · replace hf := ifp c4 hf
          refine lv_iload hx hb dX4_wordOf_72 (lv_at hl 6 rfl) ?_
          refine lv_if_eq (tgt := 85) hx hb dX4_wordOf_74 rfl (fun c5 => ?_) (fun c5 => ?_)
          · replace hf := ifp c5 hf
            obtain ⟨t6, et6⟩ : ∃ y : Int32, y = v3 + (1 : Int32) := ⟨_, rfl⟩
            replace hf := lt1_inv et6 hf
            refine lv_iinc (v := t6) (lv' := [(3, .int t6), (7, .int t3), (0, .ref h_a0), (1, .int p1), (2, .int p2), (4, .int v4), (5, .int v5), (6, .int v6)]) hx hb dX4_wordOf_85 hl (k := 4) rfl (by rw [et6]; rfl) (by decide) rfl (fun ls hl => ?_)
            refine lv_iconst (v := (0 : Int32)) hx hb dX4_wordOf_88 rfl ?_
            refine lv_istore (lv' := [(4, .int (0 : Int32)), (3, .int t6), (7, .int t3), (0, .ref h_a0), (1, .int p1), (2, .int p2), (5, .int v5), (6, .int v6)]) hx hb dX4_wordOf_89 hl (by decide) rfl (fun ls hl => ?_)
            refine lv_iconst (v := (1 : Int32)) hx hb dX4_wordOf_91 rfl ?_
            refine lv_istore (lv' := [(5, .int (1 : Int32)), (4, .int (0 : Int32)), (3, .int t6), (7, .int t3), (0, .ref h_a0), (1, .int p1), (2, .int p2), (6, .int v6)]) hx hb dX4_wordOf_92 hl (by decide) rfl (fun ls hl => ?_)
            obtain ⟨t7, et7⟩ : ∃ y : Int32, y = v6 + (1 : Int32) := ⟨_, rfl⟩
            replace hf := lt1_inv et7 hf
            refine lv_iinc (v := t7) (lv' := [(6, .int t7), (5, .int (1 : Int32)), (4, .int (0 : Int32)), (3, .int t6), (7, .int t3), (0, .ref h_a0), (1, .int p1), (2, .int p2)]) hx hb dX4_wordOf_94 hl (k := 7) rfl (by rw [et7]; rfl) (by decide) rfl (fun ls hl => ?_)
            refine lv_goto (tgt := 11) hx hb dX4_wordOf_97 rfl ?_
            exact hK2 _ _ _ _ (ih t6 (0 : Int32) (1 : Int32) t7 hf) _ _ _ h (lv_sub hl [5, 6, 7, 3, 2, 1, 0] rfl)
          · replace hf := ifn c5 hf
            refine lv_iload hx hb dX4_wordOf_77 (lv_at hl 5 rfl) ?_
            refine lv_iload_n hx hb dX4_wordOf_79 rfl (lv_at hl 3 rfl) ?_
            refine lv_icmp_ne (tgt := 85) hx hb dX4_wordOf_80 rfl (fun c8 => ?_) (fun c8 => ?_)
            · replace hf := ifn c8 hf
              obtain ⟨t9, et9⟩ : ∃ y : Int32, y = v3 + (1 : Int32) := ⟨_, rfl⟩
              replace hf := lt1_inv et9 hf
              refine lv_iinc (v := t9) (lv' := [(3, .int t9), (7, .int t3), (0, .ref h_a0), (1, .int p1), (2, .int p2), (4, .int v4), (5, .int v5), (6, .int v6)]) hx hb dX4_wordOf_85 hl (k := 4) rfl (by rw [et9]; rfl) (by decide) rfl (fun ls hl => ?_)
              refine lv_iconst (v := (0 : Int32)) hx hb dX4_wordOf_88 rfl ?_
              refine lv_istore (lv' := [(4, .int (0 : Int32)), (3, .int t9), (7, .int t3), (0, .ref h_a0), (1, .int p1), (2, .int p2), (5, .int v5), (6, .int v6)]) hx hb dX4_wordOf_89 hl (by decide) rfl (fun ls hl => ?_)
              refine lv_iconst (v := (1 : Int32)) hx hb dX4_wordOf_91 rfl ?_
              refine lv_istore (lv' := [(5, .int (1 : Int32)), (4, .int (0 : Int32)), (3, .int t9), (7, .int t3), (0, .ref h_a0), (1, .int p1), (2, .int p2), (6, .int v6)]) hx hb dX4_wordOf_92 hl (by decide) rfl (fun ls hl => ?_)
              obtain ⟨t10, et10⟩ : ∃ y : Int32, y = v6 + (1 : Int32) := ⟨_, rfl⟩
              replace hf := lt1_inv et10 hf
              refine lv_iinc (v := t10) (lv' := [(6, .int t10), (5, .int (1 : Int32)), (4, .int (0 : Int32)), (3, .int t9), (7, .int t3), (0, .ref h_a0), (1, .int p1), (2, .int p2)]) hx hb dX4_wordOf_94 hl (k := 7) rfl (by rw [et10]; rfl) (by decide) rfl (fun ls hl => ?_)
              refine lv_goto (tgt := 11) hx hb dX4_wordOf_97 rfl ?_
              exact hK2 _ _ _ _ (ih t9 (0 : Int32) (1 : Int32) t10 hf) _ _ _ h (lv_sub hl [5, 6, 7, 3, 2, 1, 0] rfl)
            · replace hf := ifp c8 hf
              refine lv_iload_n hx hb dX4_wordOf_83 rfl (lv_at hl 4 rfl) ?_
              cases hf
              exact r_iret C h hr hlk rfl dX4_wordOf_84
        · replace hf := ifn c4 hf
          refine lv_iload hx hb dX4_wordOf_37 (lv_at hl 6 rfl) ?_
          refine lv_if_eq (tgt := 63) hx hb dX4_wordOf_39 rfl (fun c11 => ?_) (fun c11 => ?_)
          · replace hf := ifp c11 hf
            refine lv_iconst (v := (0 : Int32)) hx hb dX4_wordOf_63 rfl ?_
            refine lv_istore (lv' := [(5, .int (0 : Int32)), (7, .int t3), (0, .ref h_a0), (1, .int p1), (2, .int p2), (3, .int v3), (4, .int v4), (6, .int v6)]) hx hb dX4_wordOf_64 hl (by decide) rfl (fun ls hl => ?_)
            obtain ⟨t12, et12⟩ : ∃ y : Int32, y = v4 + (1 : Int32) := ⟨_, rfl⟩
            replace hf := lt1_inv et12 hf
            refine lv_iinc (v := t12) (lv' := [(4, .int t12), (5, .int (0 : Int32)), (7, .int t3), (0, .ref h_a0), (1, .int p1), (2, .int p2), (3, .int v3), (6, .int v6)]) hx hb dX4_wordOf_66 hl (k := 6) rfl (by rw [et12]; rfl) (by decide) rfl (fun ls hl => ?_)
            refine lv_goto (tgt := 94) hx hb dX4_wordOf_69 rfl ?_
            obtain ⟨t13, et13⟩ : ∃ y : Int32, y = v6 + (1 : Int32) := ⟨_, rfl⟩
            replace hf := lt1_inv et13 hf
            refine lv_iinc (v := t13) (lv' := [(6, .int t13), (4, .int t12), (5, .int (0 : Int32)), (7, .int t3), (0, .ref h_a0), (1, .int p1), (2, .int p2), (3, .int v3)]) hx hb dX4_wordOf_94 hl (k := 7) rfl (by rw [et13]; rfl) (by decide) rfl (fun ls hl => ?_)
            refine lv_goto (tgt := 11) hx hb dX4_wordOf_97 rfl ?_
            exact hK2 _ _ _ _ (ih v3 t12 (0 : Int32) t13 hf) _ _ _ h (lv_sub hl [4, 5, 6, 7, 1, 2, 0] rfl)
          · replace hf := ifn c11 hf
            refine lv_iload hx hb dX4_wordOf_42 (lv_at hl 5 rfl) ?_
            refine lv_iload_n hx hb dX4_wordOf_44 rfl (lv_at hl 3 rfl) ?_
            refine lv_icmp_ge (tgt := 63) hx hb dX4_wordOf_45 rfl (fun c14 => ?_) (fun c14 => ?_)
            · replace hf := ifp c14 hf
              refine lv_iconst (v := (0 : Int32)) hx hb dX4_wordOf_63 rfl ?_
              refine lv_istore (lv' := [(5, .int (0 : Int32)), (7, .int t3), (0, .ref h_a0), (1, .int p1), (2, .int p2), (3, .int v3), (4, .int v4), (6, .int v6)]) hx hb dX4_wordOf_64 hl (by decide) rfl (fun ls hl => ?_)
              obtain ⟨t15, et15⟩ : ∃ y : Int32, y = v4 + (1 : Int32) := ⟨_, rfl⟩
              replace hf := lt1_inv et15 hf
              refine lv_iinc (v := t15) (lv' := [(4, .int t15), (5, .int (0 : Int32)), (7, .int t3), (0, .ref h_a0), (1, .int p1), (2, .int p2), (3, .int v3), (6, .int v6)]) hx hb dX4_wordOf_66 hl (k := 6) rfl (by rw [et15]; rfl) (by decide) rfl (fun ls hl => ?_)
              refine lv_goto (tgt := 94) hx hb dX4_wordOf_69 rfl ?_
              obtain ⟨t16, et16⟩ : ∃ y : Int32, y = v6 + (1 : Int32) := ⟨_, rfl⟩
              replace hf := lt1_inv et16 hf
              refine lv_iinc (v := t16) (lv' := [(6, .int t16), (4, .int t15), (5, .int (0 : Int32)), (7, .int t3), (0, .ref h_a0), (1, .int p1), (2, .int p2), (3, .int v3)]) hx hb dX4_wordOf_94 hl (k := 7) rfl (by rw [et16]; rfl) (by decide) rfl (fun ls hl => ?_)
              refine lv_goto (tgt := 11) hx hb dX4_wordOf_97 rfl ?_
              exact hK2 _ _ _ _ (ih v3 t15 (0 : Int32) t16 hf) _ _ _ h (lv_sub hl [4, 5, 6, 7, 1, 2, 0] rfl)
            · replace hf := ifn c14 hf
              refine lv_aload_n hx hb dX4_wordOf_48 rfl (lv_at hl 1 rfl) ?_
              refine lv_iload_n hx hb dX4_wordOf_49 rfl (lv_at hl 2 rfl) ?_
              refine lv_iload hx hb dX4_wordOf_50 (lv_at hl 5 rfl) ?_
              refine lv_iadd hx hb dX4_wordOf_52 ?_
              replace hf := chkI_inv hf
              obtain ⟨hi17, hf⟩ := hf
              refine r_iald C h 0 rfl hi17 dX4_wordOf_53 ?_
              refine lv_iload hx hb dX4_wordOf_54 (lv_at hl 0 rfl) ?_
              refine lv_icmp_ne (tgt := 63) hx hb dX4_wordOf_56 rfl (fun c18 => ?_) (fun c18 => ?_)
              · replace hf := ifn c18 hf
                refine lv_iconst (v := (0 : Int32)) hx hb dX4_wordOf_63 rfl ?_
                refine lv_istore (lv' := [(5, .int (0 : Int32)), (7, .int t3), (0, .ref h_a0), (1, .int p1), (2, .int p2), (3, .int v3), (4, .int v4), (6, .int v6)]) hx hb dX4_wordOf_64 hl (by decide) rfl (fun ls hl => ?_)
                obtain ⟨t19, et19⟩ : ∃ y : Int32, y = v4 + (1 : Int32) := ⟨_, rfl⟩
                replace hf := lt1_inv et19 hf
                refine lv_iinc (v := t19) (lv' := [(4, .int t19), (5, .int (0 : Int32)), (7, .int t3), (0, .ref h_a0), (1, .int p1), (2, .int p2), (3, .int v3), (6, .int v6)]) hx hb dX4_wordOf_66 hl (k := 6) rfl (by rw [et19]; rfl) (by decide) rfl (fun ls hl => ?_)
                refine lv_goto (tgt := 94) hx hb dX4_wordOf_69 rfl ?_
                obtain ⟨t20, et20⟩ : ∃ y : Int32, y = v6 + (1 : Int32) := ⟨_, rfl⟩
                replace hf := lt1_inv et20 hf
                refine lv_iinc (v := t20) (lv' := [(6, .int t20), (4, .int t19), (5, .int (0 : Int32)), (7, .int t3), (0, .ref h_a0), (1, .int p1), (2, .int p2), (3, .int v3)]) hx hb dX4_wordOf_94 hl (k := 7) rfl (by rw [et20]; rfl) (by decide) rfl (fun ls hl => ?_)
                refine lv_goto (tgt := 11) hx hb dX4_wordOf_97 rfl ?_
                exact hK2 _ _ _ _ (ih v3 t19 (0 : Int32) t20 hf) _ _ _ h (lv_sub hl [4, 5, 6, 7, 1, 2, 0] rfl)
              · replace hf := ifp c18 hf
                refine lv_iconst (v := (1 : Int32)) hx hb dX4_wordOf_59 rfl ?_
                refine lv_goto (tgt := 64) hx hb dX4_wordOf_60 rfl ?_
                refine lv_istore (lv' := [(5, .int (1 : Int32)), (7, .int t3), (0, .ref h_a0), (1, .int p1), (2, .int p2), (3, .int v3), (4, .int v4), (6, .int v6)]) hx hb dX4_wordOf_64 hl (by decide) rfl (fun ls hl => ?_)
                obtain ⟨t21, et21⟩ : ∃ y : Int32, y = v4 + (1 : Int32) := ⟨_, rfl⟩
                replace hf := lt1_inv et21 hf
                refine lv_iinc (v := t21) (lv' := [(4, .int t21), (5, .int (1 : Int32)), (7, .int t3), (0, .ref h_a0), (1, .int p1), (2, .int p2), (3, .int v3), (6, .int v6)]) hx hb dX4_wordOf_66 hl (k := 6) rfl (by rw [et21]; rfl) (by decide) rfl (fun ls hl => ?_)
                refine lv_goto (tgt := 94) hx hb dX4_wordOf_69 rfl ?_
                obtain ⟨t22, et22⟩ : ∃ y : Int32, y = v6 + (1 : Int32) := ⟨_, rfl⟩
                replace hf := lt1_inv et22 hf
                refine lv_iinc (v := t22) (lv' := [(6, .int t22), (4, .int t21), (5, .int (1 : Int32)), (7, .int t3), (0, .ref h_a0), (1, .int p1), (2, .int p2), (3, .int v3)]) hx hb dX4_wordOf_94 hl (k := 7) rfl (by rw [et22]; rfl) (by decide) rfl (fun ls hl => ?_)
                refine lv_goto (tgt := 11) hx hb dX4_wordOf_97 rfl ?_
                exact hK2 _ _ _ _ (ih v3 t21 (1 : Int32) t22 hf) _ _ _ h (lv_sub hl [4, 5, 6, 7, 1, 2, 0] rfl)
  refine lv_iconst (v := (0 : Int32)) hx hb dX4_wordOf_0 rfl ?_
  refine lv_istore_n (lv' := [(3, .int (0 : Int32)), (0, .ref h_a0), (1, .int p1), (2, .int p2)]) hx hb dX4_wordOf_1 rfl hl (by decide) rfl (fun ls hl => ?_)
  refine lv_iconst (v := (0 : Int32)) hx hb dX4_wordOf_2 rfl ?_
  refine lv_istore (lv' := [(4, .int (0 : Int32)), (3, .int (0 : Int32)), (0, .ref h_a0), (1, .int p1), (2, .int p2)]) hx hb dX4_wordOf_3 hl (by decide) rfl (fun ls hl => ?_)
  refine lv_iconst (v := (1 : Int32)) hx hb dX4_wordOf_5 rfl ?_
  refine lv_istore (lv' := [(5, .int (1 : Int32)), (4, .int (0 : Int32)), (3, .int (0 : Int32)), (0, .ref h_a0), (1, .int p1), (2, .int p2)]) hx hb dX4_wordOf_6 hl (by decide) rfl (fun ls hl => ?_)
  refine lv_iconst (v := (0 : Int32)) hx hb dX4_wordOf_8 rfl ?_
  refine lv_istore (lv' := [(6, .int (0 : Int32)), (5, .int (1 : Int32)), (4, .int (0 : Int32)), (3, .int (0 : Int32)), (0, .ref h_a0), (1, .int p1), (2, .int p2)]) hx hb dX4_wordOf_9 hl (by decide) rfl (fun ls hl => ?_)
  exact hK2 _ _ _ _ (L11 1000 (0 : Int32) (0 : Int32) (1 : Int32) (0 : Int32) hf) _ _ _ h (lv_sub hl [4, 5, 6, 3, 2, 1, 0] rfl)
def f_X4_isDigit (p0 : Int32) : Option (Int32) := (if p0 < (48 : Int32) then some (0 : Int32) else (if (57 : Int32) < p0 then some (0 : Int32) else some (1 : Int32)))
set_option maxRecDepth 100000 in
set_option maxHeartbeats 4000000 in
theorem c_X4_isDigit {l : Launch} {G : Gt} {p0 : Int32} {r : Int32} (hf : f_X4_isDigit p0 = some r) : mFi l G yX4_isDigit cX4_isDigit 1 .boolean 0 [.int p0] ([] : va_W) r ([] : va_W) := by
  refine mFi.of (by decide +kernel) (Nat.le_of_ble_eq_true rfl) ?_
  intro p e s m below meth c A C hr hlk h ls hl
  obtain ⟨hx, hb, hml, hown, hts⟩ := id C
  replace hl : lv_has ls 1 [(0, .int p0)] := hl
  unfold f_X4_isDigit at hf
  refine lv_iload_n hx hb dX4_isDigit_0 rfl (lv_at hl 0 rfl) ?_
  refine lv_bipush (v := (48 : Int32)) hx hb dX4_isDigit_1 rfl ?_
  refine lv_icmp_lt (tgt := 16) hx hb dX4_isDigit_3 rfl (fun c1 => ?_) (fun c1 => ?_)
  · replace hf := ifp c1 hf
    refine lv_iconst (v := (0 : Int32)) hx hb dX4_isDigit_16 rfl ?_
    cases hf
    exact r_iret C h hr hlk rfl dX4_isDigit_17
  · replace hf := ifn c1 hf
    refine lv_iload_n hx hb dX4_isDigit_6 rfl (lv_at hl 0 rfl) ?_
    refine lv_bipush (v := (57 : Int32)) hx hb dX4_isDigit_7 rfl ?_
    refine lv_icmp_gt (tgt := 16) hx hb dX4_isDigit_9 rfl (fun c2 => ?_) (fun c2 => ?_)
    · replace hf := ifp c2 hf
      refine lv_iconst (v := (0 : Int32)) hx hb dX4_isDigit_16 rfl ?_
      cases hf
      exact r_iret C h hr hlk rfl dX4_isDigit_17
    · replace hf := ifn c2 hf
      refine lv_iconst (v := (1 : Int32)) hx hb dX4_isDigit_12 rfl ?_
      refine lv_goto (tgt := 17) hx hb dX4_isDigit_13 rfl ?_
      cases hf
      exact r_iret C h hr hlk rfl dX4_isDigit_17
def f_X4_advanceDigits_b59 (x_this_tokenAt : Int32) (y_this_numeral : Int32) (y_this_place : Int32) : Option (Int32 × Int32 × Int32) := (if (4 : Int32) < (y_this_place - x_this_tokenAt) then some ((20 : Int32), y_this_numeral, y_this_place) else some ((18 : Int32), y_this_numeral, y_this_place))
def f_X4_advanceDigits_L5 (p1 : Int32) (n_a0 : Nat) (f_a0 : Nat → Int32) (x_this_tokenAt : Int32) : Nat → Int32 → Int32 → Option (Int32 × Int32 × Int32)
  | 0, _, _ => none
  | n + 1, y_this_numeral, y_this_place => (if p1 ≤ y_this_place then f_X4_advanceDigits_b59 x_this_tokenAt y_this_numeral y_this_place else chkI y_this_place n_a0 (bd1 (f_X4_isDigit (f_a0 y_this_place.toNatClampNeg)) (fun r4 => (if r4 = 0 then f_X4_advanceDigits_b59 x_this_tokenAt y_this_numeral y_this_place else chkI y_this_place n_a0 (lt1 (((y_this_numeral * (10 : Int32)) + (f_a0 y_this_place.toNatClampNeg)) - (48 : Int32)) (fun (t8 : Int32) => lt1 (y_this_place + (1 : Int32)) (fun (t9 : Int32) => (f_X4_advanceDigits_L5 p1 n_a0 f_a0 x_this_tokenAt n) t8 t9)))))))
def f_X4_advanceDigits (p1 : Int32) (n_a0 : Nat) (f_a0 : Nat → Int32) (x_this_tokenAt : Int32) (x_this_place : Int32) : Option (Int32 × Int32 × Int32) := f_X4_advanceDigits_L5 p1 n_a0 f_a0 x_this_tokenAt 1000 (0 : Int32) x_this_place
set_option maxRecDepth 100000 in
set_option maxHeartbeats 4000000 in
theorem c_X4_advanceDigits {l : Launch} {G : Gt} {h_a0 h_this h_this_waiting : Nat} {p1 : Int32} {n_a0 : Nat} {f_a0 : Nat → Int32} {x_this_waitingCount : Int32} {x_this_open : Int32} {x_this_expected : Int32} {x_this_kind : Int32} {x_this_left : Int32} {x_this_sign : Int32} {x_this_token : Int32} {x_this_tokenAt : Int32} {x_this_numeral : Int32} {x_this_place : Int32} {m_this_token : Int32} {m_this_numeral : Int32} {m_this_place : Int32} (hf : f_X4_advanceDigits p1 n_a0 f_a0 x_this_tokenAt x_this_place = some (m_this_token, m_this_numeral, m_this_place)) : mFv l G yX4_advanceDigits cX4_advanceDigits 3 1 [.ref h_this, .ref h_a0, .int p1] [(h_a0, ia G n_a0 f_a0), (h_this, ob 4 [.ref h_this_waiting, .int x_this_waitingCount, .int x_this_open, .int x_this_expected, .int x_this_kind, .int x_this_left, .int x_this_sign, .int x_this_token, .int x_this_tokenAt, .int x_this_numeral, .int x_this_place])] [(h_a0, ia G n_a0 f_a0), (h_this, ob 4 [.ref h_this_waiting, .int x_this_waitingCount, .int x_this_open, .int x_this_expected, .int x_this_kind, .int x_this_left, .int x_this_sign, .int m_this_token, .int x_this_tokenAt, .int m_this_numeral, .int m_this_place])] := by
  refine mFv.of (by decide +kernel) (Nat.le_of_ble_eq_true rfl) ?_
  intro p e s m below meth c A C hr hlk h ls hl
  obtain ⟨hx, hb, hml, hown, hts⟩ := id C
  replace hl : lv_has ls 3 [(0, .ref h_this), (1, .ref h_a0), (2, .int p1)] := hl
  unfold f_X4_advanceDigits at hf
  refine with_K G A 3 (fun K hK1 hK2 => ?_)
  have B59 : ∀ (y_this_numeral : Int32) (y_this_place : Int32), f_X4_advanceDigits_b59 x_this_tokenAt y_this_numeral y_this_place = some (m_this_token, m_this_numeral, m_this_place) → K 59 ([] : List Value) [(h_a0, ia G n_a0 f_a0), (h_this, ob 4 [.ref h_this_waiting, .int x_this_waitingCount, .int x_this_open, .int x_this_expected, .int x_this_kind, .int x_this_left, .int x_this_sign, .int x_this_token, .int x_this_tokenAt, .int y_this_numeral, .int y_this_place])] [(0, .ref h_this)] := by
    intro y_this_numeral y_this_place hf
    unfold f_X4_advanceDigits_b59 at hf
    refine hK1 _ _ _ _ (fun H locs ls h hl => ?_)
    refine lv_aload_n hx hb dX4_advanceDigits_59 rfl (lv_at hl 0 rfl) ?_
    refine lv_aload_n hx hb dX4_advanceDigits_60 rfl (lv_at hl 0 rfl) ?_
    refine r_get C h fk_X4_43 1 rfl rfl dX4_advanceDigits_61 ?_
    refine lv_aload_n hx hb dX4_advanceDigits_64 rfl (lv_at hl 0 rfl) ?_
    refine r_get C h fk_X4_37 1 rfl rfl dX4_advanceDigits_65 ?_
    refine lv_isub hx hb dX4_advanceDigits_68 ?_
    refine lv_iconst (v := (4 : Int32)) hx hb dX4_advanceDigits_69 rfl ?_
    refine lv_icmp_gt (tgt := 78) hx hb dX4_advanceDigits_70 rfl (fun c2 => ?_) (fun c2 => ?_)
    · replace hf := ifp c2 hf
      refine lv_bipush (v := (20 : Int32)) hx hb dX4_advanceDigits_78 rfl ?_
      refine r_put (ws' := [(h_a0, ia G n_a0 f_a0), (h_this, ob 4 [.ref h_this_waiting, .int x_this_waitingCount, .int x_this_open, .int x_this_expected, .int x_this_kind, .int x_this_left, .int x_this_sign, .int (20 : Int32), .int x_this_tokenAt, .int y_this_numeral, .int y_this_place])]) C h fw_X4_34 1 rfl rfl rfl (Nat.le_of_ble_eq_true rfl) dX4_advanceDigits_80 rfl (fun H locs h => ?_)
      cases hf
      exact r_vret C h hr hlk dX4_advanceDigits_83
    · replace hf := ifn c2 hf
      refine lv_bipush (v := (18 : Int32)) hx hb dX4_advanceDigits_73 rfl ?_
      refine lv_goto (tgt := 80) hx hb dX4_advanceDigits_75 rfl ?_
      refine r_put (ws' := [(h_a0, ia G n_a0 f_a0), (h_this, ob 4 [.ref h_this_waiting, .int x_this_waitingCount, .int x_this_open, .int x_this_expected, .int x_this_kind, .int x_this_left, .int x_this_sign, .int (18 : Int32), .int x_this_tokenAt, .int y_this_numeral, .int y_this_place])]) C h fw_X4_34 1 rfl rfl rfl (Nat.le_of_ble_eq_true rfl) dX4_advanceDigits_80 rfl (fun H locs h => ?_)
      cases hf
      exact r_vret C h hr hlk dX4_advanceDigits_83
  have L5 : ∀ (n : Nat) (y_this_numeral : Int32) (y_this_place : Int32), f_X4_advanceDigits_L5 p1 n_a0 f_a0 x_this_tokenAt n y_this_numeral y_this_place = some (m_this_token, m_this_numeral, m_this_place) → K 5 ([] : List Value) [(h_a0, ia G n_a0 f_a0), (h_this, ob 4 [.ref h_this_waiting, .int x_this_waitingCount, .int x_this_open, .int x_this_expected, .int x_this_kind, .int x_this_left, .int x_this_sign, .int x_this_token, .int x_this_tokenAt, .int y_this_numeral, .int y_this_place])] [(0, .ref h_this), (1, .ref h_a0), (2, .int p1)] := by
    intro n
    induction n with
    | zero =>
      intro y_this_numeral y_this_place hf
      replace hf : (none : Option _) = some _ := hf
      cases hf
    | succ n ih =>
      intro y_this_numeral y_this_place hf
      rw [f_X4_advanceDigits_L5] at hf
      refine hK1 _ _ _ _ (fun H locs ls h hl => ?_)
      refine lv_aload_n hx hb dX4_advanceDigits_5 rfl (lv_at hl 0 rfl) ?_
      refine r_get C h fk_X4_43 1 rfl rfl dX4_advanceDigits_6 ?_
      refine lv_iload_n hx hb dX4_advanceDigits_9 rfl (lv_at hl 2 rfl) ?_
      refine lv_icmp_ge (tgt := 59) hx hb dX4_advanceDigits_10 rfl (fun c1 => ?_) (fun c1 => ?_)
      · replace hf := ifp c1 hf
        exact hK2 _ _ _ _ (B59 y_this_numeral y_this_place hf) _ _ _ h (lv_sub hl [0] rfl)
      · replace hf := ifn c1 hf
        refine lv_aload_n hx hb dX4_advanceDigits_13 rfl (lv_at hl 1 rfl) ?_
        refine lv_aload_n hx hb dX4_advanceDigits_14 rfl (lv_at hl 0 rfl) ?_
        refine r_get C h fk_X4_43 1 rfl rfl dX4_advanceDigits_15 ?_
        replace hf := chkI_inv hf
        obtain ⟨hi3, hf⟩ := hf
        refine r_iald C h 0 rfl hi3 dX4_advanceDigits_18 ?_
        replace hf := bd1_inv hf
        obtain ⟨r4, hc5, hf⟩ := hf
        refine r_ciS0 C h (c_X4_isDigit hc5) ms_X4_67 rfl [] rfl rfl hl.1 rfl (Nat.le_of_ble_eq_true rfl) (rok (by decide)) dX4_advanceDigits_19 (fun H locs h => ?_)
        refine lv_if_eq (tgt := 59) hx hb dX4_advanceDigits_22 rfl (fun c6 => ?_) (fun c6 => ?_)
        · replace hf := ifp c6 hf
          exact hK2 _ _ _ _ (B59 y_this_numeral y_this_place hf) _ _ _ h (lv_sub hl [0] rfl)
        · replace hf := ifn c6 hf
          refine lv_aload_n hx hb dX4_advanceDigits_25 rfl (lv_at hl 0 rfl) ?_
          refine lv_aload_n hx hb dX4_advanceDigits_26 rfl (lv_at hl 0 rfl) ?_
          refine r_get C h fk_X4_40 1 rfl rfl dX4_advanceDigits_27 ?_
          refine lv_bipush (v := (10 : Int32)) hx hb dX4_advanceDigits_30 rfl ?_
          refine lv_imul hx hb dX4_advanceDigits_32 ?_
          refine lv_aload_n hx hb dX4_advanceDigits_33 rfl (lv_at hl 1 rfl) ?_
          refine lv_aload_n hx hb dX4_advanceDigits_34 rfl (lv_at hl 0 rfl) ?_
          refine r_get C h fk_X4_43 1 rfl rfl dX4_advanceDigits_35 ?_
          replace hf := chkI_inv hf
          obtain ⟨hi7, hf⟩ := hf
          refine r_iald C h 0 rfl hi7 dX4_advanceDigits_38 ?_
          refine lv_iadd hx hb dX4_advanceDigits_39 ?_
          refine lv_bipush (v := (48 : Int32)) hx hb dX4_advanceDigits_40 rfl ?_
          refine lv_isub hx hb dX4_advanceDigits_42 ?_
          refine lv_topi (fun t8 et8 => ?_)
          replace hf := lt1_inv et8 hf
          refine r_put (ws' := [(h_a0, ia G n_a0 f_a0), (h_this, ob 4 [.ref h_this_waiting, .int x_this_waitingCount, .int x_this_open, .int x_this_expected, .int x_this_kind, .int x_this_left, .int x_this_sign, .int x_this_token, .int x_this_tokenAt, .int t8, .int y_this_place])]) C h fw_X4_40 1 rfl rfl rfl (Nat.le_of_ble_eq_true rfl) dX4_advanceDigits_43 rfl (fun H locs h => ?_)
          refine lv_aload_n hx hb dX4_advanceDigits_46 rfl (lv_at hl 0 rfl) ?_
          refine lv_dup hx hb dX4_advanceDigits_47 rfl ?_
          refine r_get C h fk_X4_43 1 rfl rfl dX4_advanceDigits_48 ?_
          refine lv_iconst (v := (1 : Int32)) hx hb dX4_advanceDigits_51 rfl ?_
          refine lv_iadd hx hb dX4_advanceDigits_52 ?_
          refine lv_topi (fun t9 et9 => ?_)
          replace hf := lt1_inv et9 hf
          refine r_put (ws' := [(h_a0, ia G n_a0 f_a0), (h_this, ob 4 [.ref h_this_waiting, .int x_this_waitingCount, .int x_this_open, .int x_this_expected, .int x_this_kind, .int x_this_left, .int x_this_sign, .int x_this_token, .int x_this_tokenAt, .int t8, .int t9])]) C h fw_X4_43 1 rfl rfl rfl (Nat.le_of_ble_eq_true rfl) dX4_advanceDigits_53 rfl (fun H locs h => ?_)
          refine lv_goto (tgt := 5) hx hb dX4_advanceDigits_56 rfl ?_
          exact hK2 _ _ _ _ (ih t8 t9 hf) _ _ _ h (lv_sub hl [0, 1, 2] rfl)
  refine lv_aload_n hx hb dX4_advanceDigits_0 rfl (lv_at hl 0 rfl) ?_
  refine lv_iconst (v := (0 : Int32)) hx hb dX4_advanceDigits_1 rfl ?_
  refine r_put (ws' := [(h_a0, ia G n_a0 f_a0), (h_this, ob 4 [.ref h_this_waiting, .int x_this_waitingCount, .int x_this_open, .int x_this_expected, .int x_this_kind, .int x_this_left, .int x_this_sign, .int x_this_token, .int x_this_tokenAt, .int (0 : Int32), .int x_this_place])]) C h fw_X4_40 1 rfl rfl rfl (Nat.le_of_ble_eq_true rfl) dX4_advanceDigits_2 rfl (fun H locs h => ?_)
  exact hK2 _ _ _ _ (L5 1000 (0 : Int32) x_this_place hf) _ _ _ h (lv_sub hl [0, 1, 2] rfl)
