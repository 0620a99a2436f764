set_option maxRecDepth 100000 in
set_option maxHeartbeats 4000000 in
theorem c_X7_shipSights {l : Launch} {G : Gt} {h_this h_this_bodies : Nat} {p0 : Int32} {x_this_traceCount : Int32} {x_this_parted : Int32} {x_this_kind : Int32} {x_this_n : Int32} {x_this_a : Int32} {f_this_bodies : Nat → Int32} {r : Int32} {m_this_traceCount : Int32} {m_this_bodies : Nat → Int32} (hf : f_X7_shipSights p0 x_this_traceCount x_this_parted x_this_n f_this_bodies = some (r, m_this_traceCount, m_this_bodies)) : mFi l G yX7_shipSights cX7_shipSights 2 .int 1 [.ref h_this, .int p0] [(h_this, ob 7 [.ref h_this_bodies, .int x_this_traceCount, .int x_this_parted, .int x_this_kind, .int x_this_n, .int x_this_a]), (h_this_bodies, ia G 30 f_this_bodies)] r [(h_this, ob 7 [.ref h_this_bodies, .int m_this_traceCount, .int x_this_parted, .int x_this_kind, .int x_this_n, .int x_this_a]), (h_this_bodies, ia G 30 m_this_bodies)] := by
  refine mFi.of (by decide +kernel) (Nat.le_of_ble_eq_true rfl) ?_
  intro p e s m below meth c A C hr hlk h ls hl
  obtain ⟨hx, hb, hml, hown, hts⟩ := id C
  replace hl : lv_has ls 2 [(0, .ref h_this), (1, .int p0)] := hl
  unfold f_X7_shipSights at hf
  refine lv_aload_n hx hb dX7_shipSights_0 rfl (lv_at hl 0 rfl) ?_
  refine lv_bipush (v := (10 : Int32)) hx hb dX7_shipSights_1 rfl ?_
  replace hf := bd2_inv hf
  obtain ⟨y1, g2, hc3, hf⟩ := hf
  refine r_cvV (ws' := [(h_this, ob 7 [.ref h_this_bodies, .int y1, .int x_this_parted, .int x_this_kind, .int x_this_n, .int x_this_a]), (h_this_bodies, ia G 30 g2)]) C h (c_X7_begin hc3) mv_X7_32 rfl 0 rfl [0, 1] rfl rfl [0, 1] [(h_this, ob 7 [.ref h_this_bodies, .int y1, .int x_this_parted, .int x_this_kind, .int x_this_n, .int x_this_a]), (h_this_bodies, ia G 30 g2)] rfl rfl (by decide +kernel) rfl hl.1 rfl (Nat.le_of_ble_eq_true rfl) (rok (by decide)) dX7_shipSights_3 (fun H locs h => ?_)
  refine lv_iload_n hx hb dX7_shipSights_6 rfl (lv_at hl 1 rfl) ?_
  refine lv_bipush (v := (9 : Int32)) hx hb dX7_shipSights_7 rfl ?_
  refine lv_imul hx hb dX7_shipSights_9 ?_
  refine lv_aload_n hx hb dX7_shipSights_10 rfl (lv_at hl 0 rfl) ?_
  refine r_get C h fk_X7_26 0 rfl rfl dX7_shipSights_11 ?_
  refine lv_isub hx hb dX7_shipSights_14 ?_
  cases hf
  exact r_iret C h hr hlk rfl dX7_shipSights_15
set_option maxRecDepth 100000 in
set_option maxHeartbeats 4000000 in
theorem c_X7_sights {l : Launch} {G : Gt} {h_this h_this_bodies : Nat} {p0 : Int32} {x_this_traceCount : Int32} {x_this_parted : Int32} {x_this_kind : Int32} {x_this_n : Int32} {x_this_a : Int32} {f_this_bodies : Nat → Int32} {r : Int32} {m_this_traceCount : Int32} {m_this_bodies : Nat → Int32} (hf : f_X7_sights p0 x_this_traceCount x_this_parted x_this_kind x_this_n f_this_bodies = some (r, m_this_traceCount, m_this_bodies)) : mFi l G yX7_sights cX7_sights 2 .int 2 [.ref h_this, .int p0] [(h_this, ob 7 [.ref h_this_bodies, .int x_this_traceCount, .int x_this_parted, .int x_this_kind, .int x_this_n, .int x_this_a]), (h_this_bodies, ia G 30 f_this_bodies)] r [(h_this, ob 7 [.ref h_this_bodies, .int m_this_traceCount, .int x_this_parted, .int x_this_kind, .int x_this_n, .int x_this_a]), (h_this_bodies, ia G 30 m_this_bodies)] := by
  refine mFi.of (by decide +kernel) (Nat.le_of_ble_eq_true rfl) ?_
  intro p e s m below meth c A C hr hlk h ls hl
  obtain ⟨hx, hb, hml, hown, hts⟩ := id C
  replace hl : lv_has ls 2 [(0, .ref h_this), (1, .int p0)] := hl
  unfold f_X7_sights at hf
  refine lv_aload_n hx hb dX7_sights_0 rfl (lv_at hl 0 rfl) ?_
  refine r_get C h fk_X7_23 0 rfl rfl dX7_sights_1 ?_
  by_cases c1 : x_this_kind = (1 : Int32)
  · replace hf := ifp c1 hf
    refine r_lk (tgt := 32) C dX7_sights_4 (by decide) (1 : Int32) c1 rfl rfl ?_
    refine lv_aload_n hx hb dX7_sights_32 rfl (lv_at hl 0 rfl) ?_
    refine lv_bipush (v := (20 : Int32)) hx hb dX7_sights_33 rfl ?_
    replace hf := bd2_inv hf
    obtain ⟨y3, g4, hc5, hf⟩ := hf
    refine r_cvV (ws' := [(h_this, ob 7 [.ref h_this_bodies, .int y3, .int x_this_parted, .int x_this_kind, .int x_this_n, .int x_this_a]), (h_this_bodies, ia G 30 g4)]) C h (c_X7_begin hc5) mv_X7_32 rfl 0 rfl [0, 1] rfl rfl [0, 1] [(h_this, ob 7 [.ref h_this_bodies, .int y3, .int x_this_parted, .int x_this_kind, .int x_this_n, .int x_this_a]), (h_this_bodies, ia G 30 g4)] rfl rfl (by decide +kernel) rfl hl.1 rfl (Nat.le_of_ble_eq_true rfl) (rok (by decide)) dX7_sights_35 (fun H locs h => ?_)
    refine lv_aload_n hx hb dX7_sights_38 rfl (lv_at hl 0 rfl) ?_
    refine lv_iload_n hx hb dX7_sights_39 rfl (lv_at hl 1 rfl) ?_
    replace hf := bd3_inv hf
    obtain ⟨r6, y7, g8, hc9, hf⟩ := hf
    refine r_ciV (ws' := [(h_this, ob 7 [.ref h_this_bodies, .int y7, .int x_this_parted, .int x_this_kind, .int x_this_n, .int x_this_a]), (h_this_bodies, ia G 30 g8)]) C h (c_X7_shipSights hc9) mv_X7_36 rfl 0 rfl [0, 1] rfl rfl [0, 1] [(h_this, ob 7 [.ref h_this_bodies, .int y7, .int x_this_parted, .int x_this_kind, .int x_this_n, .int x_this_a]), (h_this_bodies, ia G 30 g8)] rfl rfl (by decide +kernel) rfl hl.1 rfl (Nat.le_of_ble_eq_true rfl) (rok (by decide)) dX7_sights_40 (fun H locs h => ?_)
    refine lv_bipush (v := (21 : Int32)) hx hb dX7_sights_43 rfl ?_
    refine lv_ixor hx hb dX7_sights_45 ?_
    cases hf
    exact r_iret C h hr hlk rfl dX7_sights_46
  · replace hf := ifn c1 hf
    by_cases c2 : x_this_kind = (3 : Int32)
    · replace hf := ifp c2 hf
      refine r_lk (tgt := 47) C dX7_sights_4 (by decide) (3 : Int32) c2 rfl rfl ?_
      refine lv_aload_n hx hb dX7_sights_47 rfl (lv_at hl 0 rfl) ?_
      refine lv_bipush (v := (50 : Int32)) hx hb dX7_sights_48 rfl ?_
      replace hf := bd2_inv hf
      obtain ⟨y10, g11, hc12, hf⟩ := hf
      refine r_cvV (ws' := [(h_this, ob 7 [.ref h_this_bodies, .int y10, .int x_this_parted, .int x_this_kind, .int x_this_n, .int x_this_a]), (h_this_bodies, ia G 30 g11)]) C h (c_X7_begin hc12) mv_X7_32 rfl 0 rfl [0, 1] rfl rfl [0, 1] [(h_this, ob 7 [.ref h_this_bodies, .int y10, .int x_this_parted, .int x_this_kind, .int x_this_n, .int x_this_a]), (h_this_bodies, ia G 30 g11)] rfl rfl (by decide +kernel) rfl hl.1 rfl (Nat.le_of_ble_eq_true rfl) (rok (by decide)) dX7_sights_50 (fun H locs h => ?_)
      refine lv_aload_n hx hb dX7_sights_53 rfl (lv_at hl 0 rfl) ?_
      refine lv_iload_n hx hb dX7_sights_54 rfl (lv_at hl 1 rfl) ?_
      refine lv_bipush (v := (13 : Int32)) hx hb dX7_sights_55 rfl ?_
      refine lv_iadd hx hb dX7_sights_57 ?_
      replace hf := bd3_inv hf
      obtain ⟨r13, y14, g15, hc16, hf⟩ := hf
      refine r_ciV (ws' := [(h_this, ob 7 [.ref h_this_bodies, .int y14, .int x_this_parted, .int x_this_kind, .int x_this_n, .int x_this_a]), (h_this_bodies, ia G 30 g15)]) C h (c_X7_shipSights hc16) mv_X7_36 rfl 0 rfl [0, 1] rfl rfl [0, 1] [(h_this, ob 7 [.ref h_this_bodies, .int y14, .int x_this_parted, .int x_this_kind, .int x_this_n, .int x_this_a]), (h_this_bodies, ia G 30 g15)] rfl rfl (by decide +kernel) rfl hl.1 rfl (Nat.le_of_ble_eq_true rfl) (rok (by decide)) dX7_sights_58 (fun H locs h => ?_)
      cases hf
      exact r_iret C h hr hlk rfl dX7_sights_61
    · replace hf := ifn c2 hf
      refine r_lkD (tgt := 62) C dX7_sights_4 (by decide) [(1 : Int32), (3 : Int32)] (by decide) (nel_c c1 (nel_c c2 nel_0)) rfl ?_
      refine lv_aload_n hx hb dX7_sights_62 rfl (lv_at hl 0 rfl) ?_
      refine lv_iload_n hx hb dX7_sights_63 rfl (lv_at hl 1 rfl) ?_
      replace hf := bd3_inv hf
      obtain ⟨r17, y18, g19, hc20, hf⟩ := hf
      refine r_ciV (ws' := [(h_this, ob 7 [.ref h_this_bodies, .int y18, .int x_this_parted, .int x_this_kind, .int x_this_n, .int x_this_a]), (h_this_bodies, ia G 30 g19)]) C h (c_X7_shipSights hc20) mv_X7_36 rfl 0 rfl [0, 1] rfl rfl [0, 1] [(h_this, ob 7 [.ref h_this_bodies, .int y18, .int x_this_parted, .int x_this_kind, .int x_this_n, .int x_this_a]), (h_this_bodies, ia G 30 g19)] rfl rfl (by decide +kernel) rfl hl.1 rfl (Nat.le_of_ble_eq_true rfl) (rok (by decide)) dX7_sights_64 (fun H locs h => ?_)
      cases hf
      exact r_iret C h hr hlk rfl dX7_sights_67
set_option maxRecDepth 100000 in
set_option maxHeartbeats 4000000 in
theorem c_X7_shipTacks {l : Launch} {G : Gt} {h_this h_this_bodies : Nat} {p0 : Int32} {x_this_traceCount : Int32} {x_this_parted : Int32} {x_this_kind : Int32} {x_this_n : Int32} {x_this_a : Int32} {f_this_bodies : Nat → Int32} {r : Int32} {m_this_traceCount : Int32} {m_this_bodies : Nat → Int32} (hf : f_X7_shipTacks p0 x_this_traceCount x_this_parted x_this_kind x_this_n x_this_a f_this_bodies = some (r, m_this_traceCount, m_this_bodies)) : mFi l G yX7_shipTacks cX7_shipTacks 2 .int 3 [.ref h_this, .int p0] [(h_this, ob 7 [.ref h_this_bodies, .int x_this_traceCount, .int x_this_parted, .int x_this_kind, .int x_this_n, .int x_this_a]), (h_this_bodies, ia G 30 f_this_bodies)] r [(h_this, ob 7 [.ref h_this_bodies, .int m_this_traceCount, .int x_this_parted, .int x_this_kind, .int x_this_n, .int x_this_a]), (h_this_bodies, ia G 30 m_this_bodies)] := by
  refine mFi.of (by decide +kernel) (Nat.le_of_ble_eq_true rfl) ?_
  intro p e s m below meth c A C hr hlk h ls hl
  obtain ⟨hx, hb, hml, hown, hts⟩ := id C
  replace hl : lv_has ls 2 [(0, .ref h_this), (1, .int p0)] := hl
  unfold f_X7_shipTacks at hf
  refine lv_aload_n hx hb dX7_shipTacks_0 rfl (lv_at hl 0 rfl) ?_
  refine lv_bipush (v := (11 : Int32)) hx hb dX7_shipTacks_1 rfl ?_
  replace hf := bd2_inv hf
  obtain ⟨y1, g2, hc3, hf⟩ := hf
  refine r_cvV (ws' := [(h_this, ob 7 [.ref h_this_bodies, .int y1, .int x_this_parted, .int x_this_kind, .int x_this_n, .int x_this_a]), (h_this_bodies, ia G 30 g2)]) C h (c_X7_begin hc3) mv_X7_32 rfl 0 rfl [0, 1] rfl rfl [0, 1] [(h_this, ob 7 [.ref h_this_bodies, .int y1, .int x_this_parted, .int x_this_kind, .int x_this_n, .int x_this_a]), (h_this_bodies, ia G 30 g2)] rfl rfl (by decide +kernel) rfl hl.1 rfl (Nat.le_of_ble_eq_true rfl) (rok (by decide)) dX7_shipTacks_3 (fun H locs h => ?_)
  refine lv_aload_n hx hb dX7_shipTacks_6 rfl (lv_at hl 0 rfl) ?_
  refine lv_iload_n hx hb dX7_shipTacks_7 rfl (lv_at hl 1 rfl) ?_
  replace hf := bd3_inv hf
  obtain ⟨r4, y5, g6, hc7, hf⟩ := hf
  refine r_ciV (ws' := [(h_this, ob 7 [.ref h_this_bodies, .int y5, .int x_this_parted, .int x_this_kind, .int x_this_n, .int x_this_a]), (h_this_bodies, ia G 30 g6)]) C h (c_X7_sights hc7) mv_X7_43 rfl 0 rfl [0, 1] rfl rfl [0, 1] [(h_this, ob 7 [.ref h_this_bodies, .int y5, .int x_this_parted, .int x_this_kind, .int x_this_n, .int x_this_a]), (h_this_bodies, ia G 30 g6)] rfl rfl (by decide +kernel) rfl hl.1 rfl (Nat.le_of_ble_eq_true rfl) (rok (by decide)) dX7_shipTacks_8 (fun H locs h => ?_)
  refine lv_iconst (v := (3 : Int32)) hx hb dX7_shipTacks_11 rfl ?_
  refine lv_aload_n hx hb dX7_shipTacks_12 rfl (lv_at hl 0 rfl) ?_
  refine r_get C h fk_X7_29 0 rfl rfl dX7_shipTacks_13 ?_
  refine lv_imul hx hb dX7_shipTacks_16 ?_
  refine lv_isub hx hb dX7_shipTacks_17 ?_
  cases hf
  exact r_iret C h hr hlk rfl dX7_shipTacks_18
set_option maxRecDepth 100000 in
set_option maxHeartbeats 4000000 in
theorem c_X7_tacks {l : Launch} {G : Gt} {h_this h_this_bodies : Nat} {p0 : Int32} {x_this_traceCount : Int32} {x_this_parted : Int32} {x_this_kind : Int32} {x_this_n : Int32} {x_this_a : Int32} {f_this_bodies : Nat → Int32} {r : Int32} {m_this_traceCount : Int32} {m_this_bodies : Nat → Int32} (hf : f_X7_tacks p0 x_this_traceCount x_this_parted x_this_kind x_this_n x_this_a f_this_bodies = some (r, m_this_traceCount, m_this_bodies)) : mFi l G yX7_tacks cX7_tacks 2 .int 4 [.ref h_this, .int p0] [(h_this, ob 7 [.ref h_this_bodies, .int x_this_traceCount, .int x_this_parted, .int x_this_kind, .int x_this_n, .int x_this_a]), (h_this_bodies, ia G 30 f_this_bodies)] r [(h_this, ob 7 [.ref h_this_bodies, .int m_this_traceCount, .int x_this_parted, .int x_this_kind, .int x_this_n, .int x_this_a]), (h_this_bodies, ia G 30 m_this_bodies)] := by
  refine mFi.of (by decide +kernel) (Nat.le_of_ble_eq_true rfl) ?_
  intro p e s m below meth c A C hr hlk h ls hl
  obtain ⟨hx, hb, hml, hown, hts⟩ := id C
  replace hl : lv_has ls 2 [(0, .ref h_this), (1, .int p0)] := hl
  unfold f_X7_tacks at hf
  refine lv_aload_n hx hb dX7_tacks_0 rfl (lv_at hl 0 rfl) ?_
  refine r_get C h fk_X7_23 0 rfl rfl dX7_tacks_1 ?_
  by_cases c1 : x_this_kind = (2 : Int32)
  · replace hf := ifp c1 hf
    refine r_tab (tgt := 36) C dX7_tacks_4 (2 : Int32) c1 (by decide) rfl rfl ?_
    refine lv_aload_n hx hb dX7_tacks_36 rfl (lv_at hl 0 rfl) ?_
    refine lv_bipush (v := (30 : Int32)) hx hb dX7_tacks_37 rfl ?_
    replace hf := bd2_inv hf
    obtain ⟨y5, g6, hc7, hf⟩ := hf
    refine r_cvV (ws' := [(h_this, ob 7 [.ref h_this_bodies, .int y5, .int x_this_parted, .int x_this_kind, .int x_this_n, .int x_this_a]), (h_this_bodies, ia G 30 g6)]) C h (c_X7_begin hc7) mv_X7_32 rfl 0 rfl [0, 1] rfl rfl [0, 1] [(h_this, ob 7 [.ref h_this_bodies, .int y5, .int x_this_parted, .int x_this_kind, .int x_this_n, .int x_this_a]), (h_this_bodies, ia G 30 g6)] rfl rfl (by decide +kernel) rfl hl.1 rfl (Nat.le_of_ble_eq_true rfl) (rok (by decide)) dX7_tacks_39 (fun H locs h => ?_)
    refine lv_aload_n hx hb dX7_tacks_42 rfl (lv_at hl 0 rfl) ?_
    refine lv_iload_n hx hb dX7_tacks_43 rfl (lv_at hl 1 rfl) ?_
    replace hf := bd3_inv hf
    obtain ⟨r8, y9, g10, hc11, hf⟩ := hf
    refine r_ciV (ws' := [(h_this, ob 7 [.ref h_this_bodies, .int y9, .int x_this_parted, .int x_this_kind, .int x_this_n, .int x_this_a]), (h_this_bodies, ia G 30 g10)]) C h (c_X7_shipTacks hc11) mv_X7_40 rfl 0 rfl [0, 1] rfl rfl [0, 1] [(h_this, ob 7 [.ref h_this_bodies, .int y9, .int x_this_parted, .int x_this_kind, .int x_this_n, .int x_this_a]), (h_this_bodies, ia G 30 g10)] rfl rfl (by decide +kernel) rfl hl.1 rfl (Nat.le_of_ble_eq_true rfl) (rok (by decide)) dX7_tacks_44 (fun H locs h => ?_)
    refine lv_iconst (v := (2 : Int32)) hx hb dX7_tacks_47 rfl ?_
    refine lv_imul hx hb dX7_tacks_48 ?_
    cases hf
    exact r_iret C h hr hlk rfl dX7_tacks_49
  · replace hf := ifn c1 hf
    by_cases c2 : x_this_kind = (3 : Int32)
    · replace hf := ifp c2 hf
      refine r_tab (tgt := 36) C dX7_tacks_4 (3 : Int32) c2 (by decide) rfl rfl ?_
      refine lv_aload_n hx hb dX7_tacks_36 rfl (lv_at hl 0 rfl) ?_
      refine lv_bipush (v := (30 : Int32)) hx hb dX7_tacks_37 rfl ?_
      replace hf := bd2_inv hf
      obtain ⟨y12, g13, hc14, hf⟩ := hf
      refine r_cvV (ws' := [(h_this, ob 7 [.ref h_this_bodies, .int y12, .int x_this_parted, .int x_this_kind, .int x_this_n, .int x_this_a]), (h_this_bodies, ia G 30 g13)]) C h (c_X7_begin hc14) mv_X7_32 rfl 0 rfl [0, 1] rfl rfl [0, 1] [(h_this, ob 7 [.ref h_this_bodies, .int y12, .int x_this_parted, .int x_this_kind, .int x_this_n, .int x_this_a]), (h_this_bodies, ia G 30 g13)] rfl rfl (by decide +kernel) rfl hl.1 rfl (Nat.le_of_ble_eq_true rfl) (rok (by decide)) dX7_tacks_39 (fun H locs h => ?_)
      refine lv_aload_n hx hb dX7_tacks_42 rfl (lv_at hl 0 rfl) ?_
      refine lv_iload_n hx hb dX7_tacks_43 rfl (lv_at hl 1 rfl) ?_
      replace hf := bd3_inv hf
      obtain ⟨r15, y16, g17, hc18, hf⟩ := hf
      refine r_ciV (ws' := [(h_this, ob 7 [.ref h_this_bodies, .int y16, .int x_this_parted, .int x_this_kind, .int x_this_n, .int x_this_a]), (h_this_bodies, ia G 30 g17)]) C h (c_X7_shipTacks hc18) mv_X7_40 rfl 0 rfl [0, 1] rfl rfl [0, 1] [(h_this, ob 7 [.ref h_this_bodies, .int y16, .int x_this_parted, .int x_this_kind, .int x_this_n, .int x_this_a]), (h_this_bodies, ia G 30 g17)] rfl rfl (by decide +kernel) rfl hl.1 rfl (Nat.le_of_ble_eq_true rfl) (rok (by decide)) dX7_tacks_44 (fun H locs h => ?_)
      refine lv_iconst (v := (2 : Int32)) hx hb dX7_tacks_47 rfl ?_
      refine lv_imul hx hb dX7_tacks_48 ?_
      cases hf
      exact r_iret C h hr hlk rfl dX7_tacks_49
    · replace hf := ifn c2 hf
      by_cases c3 : x_this_kind = (4 : Int32)
      · replace hf := ifp c3 hf
        refine r_tab (tgt := 64) C dX7_tacks_4 (4 : Int32) c3 (by decide) rfl rfl ?_
        refine lv_aload_n hx hb dX7_tacks_64 rfl (lv_at hl 0 rfl) ?_
        refine lv_iload_n hx hb dX7_tacks_65 rfl (lv_at hl 1 rfl) ?_
        replace hf := bd3_inv hf
        obtain ⟨r19, y20, g21, hc22, hf⟩ := hf
        refine r_ciV (ws' := [(h_this, ob 7 [.ref h_this_bodies, .int y20, .int x_this_parted, .int x_this_kind, .int x_this_n, .int x_this_a]), (h_this_bodies, ia G 30 g21)]) C h (c_X7_shipTacks hc22) mv_X7_40 rfl 0 rfl [0, 1] rfl rfl [0, 1] [(h_this, ob 7 [.ref h_this_bodies, .int y20, .int x_this_parted, .int x_this_kind, .int x_this_n, .int x_this_a]), (h_this_bodies, ia G 30 g21)] rfl rfl (by decide +kernel) rfl hl.1 rfl (Nat.le_of_ble_eq_true rfl) (rok (by decide)) dX7_tacks_66 (fun H locs h => ?_)
        cases hf
        exact r_iret C h hr hlk rfl dX7_tacks_69
      · replace hf := ifn c3 hf
        by_cases c4 : x_this_kind = (5 : Int32)
        · replace hf := ifp c4 hf
          refine r_tab (tgt := 50) C dX7_tacks_4 (5 : Int32) c4 (by decide) rfl rfl ?_
          refine lv_aload_n hx hb dX7_tacks_50 rfl (lv_at hl 0 rfl) ?_
          refine lv_bipush (v := (60 : Int32)) hx hb dX7_tacks_51 rfl ?_
          replace hf := bd2_inv hf
          obtain ⟨y23, g24, hc25, hf⟩ := hf
          refine r_cvV (ws' := [(h_this, ob 7 [.ref h_this_bodies, .int y23, .int x_this_parted, .int x_this_kind, .int x_this_n, .int x_this_a]), (h_this_bodies, ia G 30 g24)]) C h (c_X7_begin hc25) mv_X7_32 rfl 0 rfl [0, 1] rfl rfl [0, 1] [(h_this, ob 7 [.ref h_this_bodies, .int y23, .int x_this_parted, .int x_this_kind, .int x_this_n, .int x_this_a]), (h_this_bodies, ia G 30 g24)] rfl rfl (by decide +kernel) rfl hl.1 rfl (Nat.le_of_ble_eq_true rfl) (rok (by decide)) dX7_tacks_53 (fun H locs h => ?_)
          refine lv_iconst (v := (0 : Int32)) hx hb dX7_tacks_56 rfl ?_
          refine lv_aload_n hx hb dX7_tacks_57 rfl (lv_at hl 0 rfl) ?_
          refine lv_iload_n hx hb dX7_tacks_58 rfl (lv_at hl 1 rfl) ?_
          replace hf := bd3_inv hf
          obtain ⟨r26, y27, g28, hc29, hf⟩ := hf
          refine r_ciV (ws' := [(h_this, ob 7 [.ref h_this_bodies, .int y27, .int x_this_parted, .int x_this_kind, .int x_this_n, .int x_this_a]), (h_this_bodies, ia G 30 g28)]) C h (c_X7_shipTacks hc29) mv_X7_40 rfl 0 rfl [0, 1] rfl rfl [0, 1] [(h_this, ob 7 [.ref h_this_bodies, .int y27, .int x_this_parted, .int x_this_kind, .int x_this_n, .int x_this_a]), (h_this_bodies, ia G 30 g28)] rfl rfl (by decide +kernel) rfl hl.1 rfl (Nat.le_of_ble_eq_true rfl) (rok (by decide)) dX7_tacks_59 (fun H locs h => ?_)
          refine lv_isub hx hb dX7_tacks_62 ?_
          cases hf
          exact r_iret C h hr hlk rfl dX7_tacks_63
        · replace hf := ifn c4 hf
          refine r_tabD (tgt := 64) C dX7_tacks_4 [(2 : Int32), (3 : Int32), (4 : Int32), (5 : Int32)] (by decide) (nel_c c1 (nel_c c2 (nel_c c3 (nel_c c4 nel_0)))) rfl ?_
          refine lv_aload_n hx hb dX7_tacks_64 rfl (lv_at hl 0 rfl) ?_
          refine lv_iload_n hx hb dX7_tacks_65 rfl (lv_at hl 1 rfl) ?_
          replace hf := bd3_inv hf
          obtain ⟨r30, y31, g32, hc33, hf⟩ := hf
          refine r_ciV (ws' := [(h_this, ob 7 [.ref h_this_bodies, .int y31, .int x_this_parted, .int x_this_kind, .int x_this_n, .int x_this_a]), (h_this_bodies, ia G 30 g32)]) C h (c_X7_shipTacks hc33) mv_X7_40 rfl 0 rfl [0, 1] rfl rfl [0, 1] [(h_this, ob 7 [.ref h_this_bodies, .int y31, .int x_this_parted, .int x_this_kind, .int x_this_n, .int x_this_a]), (h_this_bodies, ia G 30 g32)] rfl rfl (by decide +kernel) rfl hl.1 rfl (Nat.le_of_ble_eq_true rfl) (rok (by decide)) dX7_tacks_66 (fun H locs h => ?_)
          cases hf
          exact r_iret C h hr hlk rfl dX7_tacks_69
set_option maxRecDepth 100000 in
set_option maxHeartbeats 4000000 in
theorem c_X7_shipSounds {l : Launch} {G : Gt} {h_this h_this_bodies : Nat} {p0 : Int32} {x_this_traceCount : Int32} {x_this_parted : Int32} {x_this_kind : Int32} {x_this_n : Int32} {x_this_a : Int32} {f_this_bodies : Nat → Int32} {r : Int32} {m_this_traceCount : Int32} {m_this_parted : Int32} {m_this_bodies : Nat → Int32} (hf : f_X7_shipSounds p0 x_this_traceCount x_this_parted x_this_n x_this_a f_this_bodies = some (r, m_this_traceCount, m_this_parted, m_this_bodies)) : mFi l G yX7_shipSounds cX7_shipSounds 3 .int 1 [.ref h_this, .int p0] [(h_this, ob 7 [.ref h_this_bodies, .int x_this_traceCount, .int x_this_parted, .int x_this_kind, .int x_this_n, .int x_this_a]), (h_this_bodies, ia G 30 f_this_bodies)] r [(h_this, ob 7 [.ref h_this_bodies, .int m_this_traceCount, .int m_this_parted, .int x_this_kind, .int x_this_n, .int x_this_a]), (h_this_bodies, ia G 30 m_this_bodies)] := by
  refine mFi.of (by decide +kernel) (Nat.le_of_ble_eq_true rfl) ?_
  intro p e s m below meth c A C hr hlk h ls hl
  obtain ⟨hx, hb, hml, hown, hts⟩ := id C
  replace hl : lv_has ls 3 [(0, .ref h_this), (1, .int p0)] := hl
  unfold f_X7_shipSounds at hf
  refine lv_aload_n hx hb dX7_shipSounds_0 rfl (lv_at hl 0 rfl) ?_
  refine lv_bipush (v := (12 : Int32)) hx hb dX7_shipSounds_1 rfl ?_
  replace hf := bd2_inv hf
  obtain ⟨y1, g2, hc3, hf⟩ := hf
  refine r_cvV (ws' := [(h_this, ob 7 [.ref h_this_bodies, .int y1, .int x_this_parted, .int x_this_kind, .int x_this_n, .int x_this_a]), (h_this_bodies, ia G 30 g2)]) C h (c_X7_begin hc3) mv_X7_32 rfl 0 rfl [0, 1] rfl rfl [0, 1] [(h_this, ob 7 [.ref h_this_bodies, .int y1, .int x_this_parted, .int x_this_kind, .int x_this_n, .int x_this_a]), (h_this_bodies, ia G 30 g2)] rfl rfl (by decide +kernel) rfl hl.1 rfl (Nat.le_of_ble_eq_true rfl) (rok (by decide)) dX7_shipSounds_3 (fun H locs h => ?_)
  refine lv_aload_n hx hb dX7_shipSounds_6 rfl (lv_at hl 0 rfl) ?_
  refine r_get C h fk_X7_26 0 rfl rfl dX7_shipSounds_7 ?_
  refine lv_aload_n hx hb dX7_shipSounds_10 rfl (lv_at hl 0 rfl) ?_
  refine r_get C h fk_X7_29 0 rfl rfl dX7_shipSounds_11 ?_
  refine lv_iadd hx hb dX7_shipSounds_14 ?_
  refine lv_iconst (v := (5 : Int32)) hx hb dX7_shipSounds_15 rfl ?_
  refine lv_isub hx hb dX7_shipSounds_16 ?_
  refine lv_topi (fun t4 et4 => ?_)
  replace hf := lt1_inv et4 hf
  refine lv_istore_n (lv' := [(2, .int t4), (0, .ref h_this), (1, .int p0)]) hx hb dX7_shipSounds_17 rfl hl (by decide) rfl (fun ls hl => ?_)
  refine lv_iload_n hx hb dX7_shipSounds_18 rfl (lv_at hl 0 rfl) ?_
  refine lv_if_ne (tgt := 29) hx hb dX7_shipSounds_19 rfl (fun c5 => ?_) (fun c5 => ?_)
  · replace hf := ifn c5 hf
    refine lv_iload_n hx hb dX7_shipSounds_29 rfl (lv_at hl 2 rfl) ?_
    refine lv_iload_n hx hb dX7_shipSounds_30 rfl (lv_at hl 0 rfl) ?_
    replace hf := chkD_inv hf
    obtain ⟨hd6, hf⟩ := hf
    refine lv_irem hx hb dX7_shipSounds_31 hd6 ?_
    cases hf
    exact r_iret C h hr hlk rfl dX7_shipSounds_32
  · replace hf := ifp c5 hf
    refine lv_aload_n hx hb dX7_shipSounds_22 rfl (lv_at hl 1 rfl) ?_
    refine lv_iconst (v := (1 : Int32)) hx hb dX7_shipSounds_23 rfl ?_
    refine r_put (ws' := [(h_this, ob 7 [.ref h_this_bodies, .int y1, .int (1 : Int32), .int x_this_kind, .int x_this_n, .int x_this_a]), (h_this_bodies, ia G 30 g2)]) C h fw_X7_19 0 rfl rfl rfl (Nat.le_of_ble_eq_true rfl) dX7_shipSounds_24 rfl (fun H locs h => ?_)
    refine lv_iconst (v := (0 : Int32)) hx hb dX7_shipSounds_27 rfl ?_
    cases hf
    exact r_iret C h hr hlk rfl dX7_shipSounds_28
set_option maxRecDepth 100000 in
set_option maxHeartbeats 4000000 in
theorem c_X7_brigSounds {l : Launch} {G : Gt} {h_this h_this_bodies : Nat} {p0 : Int32} {x_this_traceCount : Int32} {x_this_parted : Int32} {x_this_kind : Int32} {x_this_n : Int32} {x_this_a : Int32} {f_this_bodies : Nat → Int32} {r : Int32} {m_this_traceCount : Int32} {m_this_parted : Int32} {m_this_bodies : Nat → Int32} (hf : f_X7_brigSounds p0 x_this_traceCount x_this_parted x_this_n x_this_a f_this_bodies = some (r, m_this_traceCount, m_this_parted, m_this_bodies)) : mFi l G yX7_brigSounds cX7_brigSounds 2 .int 2 [.ref h_this, .int p0] [(h_this, ob 7 [.ref h_this_bodies, .int x_this_traceCount, .int x_this_parted, .int x_this_kind, .int x_this_n, .int x_this_a]), (h_this_bodies, ia G 30 f_this_bodies)] r [(h_this, ob 7 [.ref h_this_bodies, .int m_this_traceCount, .int m_this_parted, .int x_this_kind, .int x_this_n, .int x_this_a]), (h_this_bodies, ia G 30 m_this_bodies)] := by
  refine mFi.of (by decide +kernel) (Nat.le_of_ble_eq_true rfl) ?_
  intro p e s m below meth c A C hr hlk h ls hl
  obtain ⟨hx, hb, hml, hown, hts⟩ := id C
  replace hl : lv_has ls 2 [(0, .ref h_this), (1, .int p0)] := hl
  unfold f_X7_brigSounds at hf
  refine lv_aload_n hx hb dX7_brigSounds_0 rfl (lv_at hl 0 rfl) ?_
  refine lv_bipush (v := (40 : Int32)) hx hb dX7_brigSounds_1 rfl ?_
  replace hf := bd2_inv hf
  obtain ⟨y1, g2, hc3, hf⟩ := hf
  refine r_cvV (ws' := [(h_this, ob 7 [.ref h_this_bodies, .int y1, .int x_this_parted, .int x_this_kind, .int x_this_n, .int x_this_a]), (h_this_bodies, ia G 30 g2)]) C h (c_X7_begin hc3) mv_X7_32 rfl 0 rfl [0, 1] rfl rfl [0, 1] [(h_this, ob 7 [.ref h_this_bodies, .int y1, .int x_this_parted, .int x_this_kind, .int x_this_n, .int x_this_a]), (h_this_bodies, ia G 30 g2)] rfl rfl (by decide +kernel) rfl hl.1 rfl (Nat.le_of_ble_eq_true rfl) (rok (by decide)) dX7_brigSounds_3 (fun H locs h => ?_)
  refine lv_aload_n hx hb dX7_brigSounds_6 rfl (lv_at hl 0 rfl) ?_
  refine lv_iload_n hx hb dX7_brigSounds_7 rfl (lv_at hl 1 rfl) ?_
  replace hf := bd4_inv hf
  obtain ⟨r4, y5, y6, g7, hc8, hf⟩ := hf
  refine r_ciV (ws' := [(h_this, ob 7 [.ref h_this_bodies, .int y5, .int y6, .int x_this_kind, .int x_this_n, .int x_this_a]), (h_this_bodies, ia G 30 g7)]) C h (c_X7_shipSounds hc8) mv_X7_49 rfl 0 rfl [0, 1] rfl rfl [0, 1] [(h_this, ob 7 [.ref h_this_bodies, .int y5, .int y6, .int x_this_kind, .int x_this_n, .int x_this_a]), (h_this_bodies, ia G 30 g7)] rfl rfl (by decide +kernel) rfl hl.1 rfl (Nat.le_of_ble_eq_true rfl) (rok (by decide)) dX7_brigSounds_8 (fun H locs h => ?_)
  refine lv_bipush (v := (7 : Int32)) hx hb dX7_brigSounds_11 rfl ?_
  refine lv_iadd hx hb dX7_brigSounds_13 ?_
  cases hf
  exact r_iret C h hr hlk rfl dX7_brigSounds_14
set_option maxRecDepth 100000 in
set_option maxHeartbeats 4000000 in
theorem c_X7_sounds {l : Launch} {G : Gt} {h_this h_this_bodies : Nat} {p0 : Int32} {x_this_traceCount : Int32} {x_this_parted : Int32} {x_this_kind : Int32} {x_this_n : Int32} {x_this_a : Int32} {f_this_bodies : Nat → Int32} {r : Int32} {m_this_traceCount : Int32} {m_this_parted : Int32} {m_this_bodies : Nat → Int32} (hf : f_X7_sounds p0 x_this_traceCount x_this_parted x_this_kind x_this_n x_this_a f_this_bodies = some (r, m_this_traceCount, m_this_parted, m_this_bodies)) : mFi l G yX7_sounds cX7_sounds 2 .int 3 [.ref h_this, .int p0] [(h_this, ob 7 [.ref h_this_bodies, .int x_this_traceCount, .int x_this_parted, .int x_this_kind, .int x_this_n, .int x_this_a]), (h_this_bodies, ia G 30 f_this_bodies)] r [(h_this, ob 7 [.ref h_this_bodies, .int m_this_traceCount, .int m_this_parted, .int x_this_kind, .int x_this_n, .int x_this_a]), (h_this_bodies, ia G 30 m_this_bodies)] := by
  refine mFi.of (by decide +kernel) (Nat.le_of_ble_eq_true rfl) ?_
  intro p e s m below meth c A C hr hlk h ls hl
  obtain ⟨hx, hb, hml, hown, hts⟩ := id C
  replace hl : lv_has ls 2 [(0, .ref h_this), (1, .int p0)] := hl
  unfold f_X7_sounds at hf
  refine lv_aload_n hx hb dX7_sounds_0 rfl (lv_at hl 0 rfl) ?_
  refine r_get C h fk_X7_23 0 rfl rfl dX7_sounds_1 ?_
  by_cases c1 : x_this_kind = (4 : Int32)
  · replace hf := ifp c1 hf
    refine r_lk (tgt := 32) C dX7_sounds_4 (by decide) (4 : Int32) c1 rfl rfl ?_
    refine lv_aload_n hx hb dX7_sounds_32 rfl (lv_at hl 0 rfl) ?_
    refine lv_iload_n hx hb dX7_sounds_33 rfl (lv_at hl 1 rfl) ?_
    replace hf := bd4_inv hf
    obtain ⟨r3, y4, y5, g6, hc7, hf⟩ := hf
    refine r_ciV (ws' := [(h_this, ob 7 [.ref h_this_bodies, .int y4, .int y5, .int x_this_kind, .int x_this_n, .int x_this_a]), (h_this_bodies, ia G 30 g6)]) C h (c_X7_brigSounds hc7) mv_X7_46 rfl 0 rfl [0, 1] rfl rfl [0, 1] [(h_this, ob 7 [.ref h_this_bodies, .int y4, .int y5, .int x_this_kind, .int x_this_n, .int x_this_a]), (h_this_bodies, ia G 30 g6)] rfl rfl (by decide +kernel) rfl hl.1 rfl (Nat.le_of_ble_eq_true rfl) (rok (by decide)) dX7_sounds_34 (fun H locs h => ?_)
    cases hf
    exact r_iret C h hr hlk rfl dX7_sounds_37
  · replace hf := ifn c1 hf
    by_cases c2 : x_this_kind = (5 : Int32)
    · replace hf := ifp c2 hf
      refine r_lk (tgt := 38) C dX7_sounds_4 (by decide) (5 : Int32) c2 rfl rfl ?_
      refine lv_aload_n hx hb dX7_sounds_38 rfl (lv_at hl 0 rfl) ?_
      refine lv_bipush (v := (61 : Int32)) hx hb dX7_sounds_39 rfl ?_
      replace hf := bd2_inv hf
      obtain ⟨y8, g9, hc10, hf⟩ := hf
      refine r_cvV (ws' := [(h_this, ob 7 [.ref h_this_bodies, .int y8, .int x_this_parted, .int x_this_kind, .int x_this_n, .int x_this_a]), (h_this_bodies, ia G 30 g9)]) C h (c_X7_begin hc10) mv_X7_32 rfl 0 rfl [0, 1] rfl rfl [0, 1] [(h_this, ob 7 [.ref h_this_bodies, .int y8, .int x_this_parted, .int x_this_kind, .int x_this_n, .int x_this_a]), (h_this_bodies, ia G 30 g9)] rfl rfl (by decide +kernel) rfl hl.1 rfl (Nat.le_of_ble_eq_true rfl) (rok (by decide)) dX7_sounds_41 (fun H locs h => ?_)
      refine lv_aload_n hx hb dX7_sounds_44 rfl (lv_at hl 0 rfl) ?_
      refine lv_iload_n hx hb dX7_sounds_45 rfl (lv_at hl 1 rfl) ?_
      replace hf := bd4_inv hf
      obtain ⟨r11, y12, y13, g14, hc15, hf⟩ := hf
      refine r_ciV (ws' := [(h_this, ob 7 [.ref h_this_bodies, .int y12, .int y13, .int x_this_kind, .int x_this_n, .int x_this_a]), (h_this_bodies, ia G 30 g14)]) C h (c_X7_brigSounds hc15) mv_X7_46 rfl 0 rfl [0, 1] rfl rfl [0, 1] [(h_this, ob 7 [.ref h_this_bodies, .int y12, .int y13, .int x_this_kind, .int x_this_n, .int x_this_a]), (h_this_bodies, ia G 30 g14)] rfl rfl (by decide +kernel) rfl hl.1 rfl (Nat.le_of_ble_eq_true rfl) (rok (by decide)) dX7_sounds_46 (fun H locs h => ?_)
      refine lv_aload_n hx hb dX7_sounds_49 rfl (lv_at hl 0 rfl) ?_
      refine lv_aload_n hx hb dX7_sounds_50 rfl (lv_at hl 0 rfl) ?_
      refine r_get C h fk_X7_26 0 rfl rfl dX7_sounds_51 ?_
      replace hf := bd3_inv hf
      obtain ⟨r16, y17, g18, hc19, hf⟩ := hf
      refine r_ciV (ws' := [(h_this, ob 7 [.ref h_this_bodies, .int y17, .int y13, .int x_this_kind, .int x_this_n, .int x_this_a]), (h_this_bodies, ia G 30 g18)]) C h (c_X7_sights hc19) mv_X7_43 rfl 0 rfl [0, 1] rfl rfl [0, 1] [(h_this, ob 7 [.ref h_this_bodies, .int y17, .int y13, .int x_this_kind, .int x_this_n, .int x_this_a]), (h_this_bodies, ia G 30 g18)] rfl rfl (by decide +kernel) rfl hl.1 rfl (Nat.le_of_ble_eq_true rfl) (rok (by decide)) dX7_sounds_54 (fun H locs h => ?_)
      refine lv_ixor hx hb dX7_sounds_57 ?_
      cases hf
      exact r_iret C h hr hlk rfl dX7_sounds_58
    · replace hf := ifn c2 hf
      refine r_lkD (tgt := 59) C dX7_sounds_4 (by decide) [(4 : Int32), (5 : Int32)] (by decide) (nel_c c1 (nel_c c2 nel_0)) rfl ?_
      refine lv_aload_n hx hb dX7_sounds_59 rfl (lv_at hl 0 rfl) ?_
      refine lv_iload_n hx hb dX7_sounds_60 rfl (lv_at hl 1 rfl) ?_
      replace hf := bd4_inv hf
      obtain ⟨r20, y21, y22, g23, hc24, hf⟩ := hf
      refine r_ciV (ws' := [(h_this, ob 7 [.ref h_this_bodies, .int y21, .int y22, .int x_this_kind, .int x_this_n, .int x_this_a]), (h_this_bodies, ia G 30 g23)]) C h (c_X7_shipSounds hc24) mv_X7_49 rfl 0 rfl [0, 1] rfl rfl [0, 1] [(h_this, ob 7 [.ref h_this_bodies, .int y21, .int y22, .int x_this_kind, .int x_this_n, .int x_this_a]), (h_this_bodies, ia G 30 g23)] rfl rfl (by decide +kernel) rfl hl.1 rfl (Nat.le_of_ble_eq_true rfl) (rok (by decide)) dX7_sounds_61 (fun H locs h => ?_)
      cases hf
      exact r_iret C h hr hlk rfl dX7_sounds_64
set_option maxRecDepth 100000 in
set_option maxHeartbeats 4000000 in
theorem c_X7_shipLands {l : Launch} {G : Gt} {h_this h_this_bodies : Nat} {p0 : Int32} {x_this_traceCount : Int32} {x_this_parted : Int32} {x_this_kind : Int32} {x_this_n : Int32} {x_this_a : Int32} {f_this_bodies : Nat → Int32} {r : Int32} {m_this_traceCount : Int32} {m_this_parted : Int32} {m_this_bodies : Nat → Int32} (hf : f_X7_shipLands p0 x_this_traceCount x_this_parted x_this_kind x_this_n x_this_a f_this_bodies = some (r, m_this_traceCount, m_this_parted, m_this_bodies)) : mFi l G yX7_shipLands cX7_shipLands 2 .int 5 [.ref h_this, .int p0] [(h_this, ob 7 [.ref h_this_bodies, .int x_this_traceCount, .int x_this_parted, .int x_this_kind, .int x_this_n, .int x_this_a]), (h_this_bodies, ia G 30 f_this_bodies)] r [(h_this, ob 7 [.ref h_this_bodies, .int m_this_traceCount, .int m_this_parted, .int x_this_kind, .int x_this_n, .int x_this_a]), (h_this_bodies, ia G 30 m_this_bodies)] := by
  refine mFi.of (by decide +kernel) (Nat.le_of_ble_eq_true rfl) ?_
  intro p e s m below meth c A C hr hlk h ls hl
  obtain ⟨hx, hb, hml, hown, hts⟩ := id C
  replace hl : lv_has ls 2 [(0, .ref h_this), (1, .int p0)] := hl
  unfold f_X7_shipLands at hf
  refine lv_aload_n hx hb dX7_shipLands_0 rfl (lv_at hl 0 rfl) ?_
  refine lv_bipush (v := (13 : Int32)) hx hb dX7_shipLands_1 rfl ?_
  replace hf := bd2_inv hf
  obtain ⟨y1, g2, hc3, hf⟩ := hf
  refine r_cvV (ws' := [(h_this, ob 7 [.ref h_this_bodies, .int y1, .int x_this_parted, .int x_this_kind, .int x_this_n, .int x_this_a]), (h_this_bodies, ia G 30 g2)]) C h (c_X7_begin hc3) mv_X7_32 rfl 0 rfl [0, 1] rfl rfl [0, 1] [(h_this, ob 7 [.ref h_this_bodies, .int y1, .int x_this_parted, .int x_this_kind, .int x_this_n, .int x_this_a]), (h_this_bodies, ia G 30 g2)] rfl rfl (by decide +kernel) rfl hl.1 rfl (Nat.le_of_ble_eq_true rfl) (rok (by decide)) dX7_shipLands_3 (fun H locs h => ?_)
  refine lv_aload_n hx hb dX7_shipLands_6 rfl (lv_at hl 0 rfl) ?_
  refine lv_iload_n hx hb dX7_shipLands_7 rfl (lv_at hl 1 rfl) ?_
  replace hf := bd3_inv hf
  obtain ⟨r4, y5, g6, hc7, hf⟩ := hf
  refine r_ciV (ws' := [(h_this, ob 7 [.ref h_this_bodies, .int y5, .int x_this_parted, .int x_this_kind, .int x_this_n, .int x_this_a]), (h_this_bodies, ia G 30 g6)]) C h (c_X7_tacks hc7) mv_X7_55 rfl 0 rfl [0, 1] rfl rfl [0, 1] [(h_this, ob 7 [.ref h_this_bodies, .int y5, .int x_this_parted, .int x_this_kind, .int x_this_n, .int x_this_a]), (h_this_bodies, ia G 30 g6)] rfl rfl (by decide +kernel) rfl hl.1 rfl (Nat.le_of_ble_eq_true rfl) (rok (by decide)) dX7_shipLands_8 (fun H locs h => ?_)
  refine lv_aload_n hx hb dX7_shipLands_11 rfl (lv_at hl 0 rfl) ?_
  refine lv_iload_n hx hb dX7_shipLands_12 rfl (lv_at hl 1 rfl) ?_
  replace hf := bd4_inv hf
  obtain ⟨r8, y9, y10, g11, hc12, hf⟩ := hf
  refine r_ciV (ws' := [(h_this, ob 7 [.ref h_this_bodies, .int y9, .int y10, .int x_this_kind, .int x_this_n, .int x_this_a]), (h_this_bodies, ia G 30 g11)]) C h (c_X7_sounds hc12) mv_X7_58 rfl 0 rfl [0, 1] rfl rfl [0, 1] [(h_this, ob 7 [.ref h_this_bodies, .int y9, .int y10, .int x_this_kind, .int x_this_n, .int x_this_a]), (h_this_bodies, ia G 30 g11)] rfl rfl (by decide +kernel) rfl hl.1 rfl (Nat.le_of_ble_eq_true rfl) (rok (by decide)) dX7_shipLands_13 (fun H locs h => ?_)
  refine lv_iadd hx hb dX7_shipLands_16 ?_
  cases hf
  exact r_iret C h hr hlk rfl dX7_shipLands_17
set_option maxRecDepth 100000 in
set_option maxHeartbeats 4000000 in
theorem c_X7_lands {l : Launch} {G : Gt} {h_this h_this_bodies : Nat} {p0 : Int32} {x_this_traceCount : Int32} {x_this_parted : Int32} {x_this_kind : Int32} {x_this_n : Int32} {x_this_a : Int32} {f_this_bodies : Nat → Int32} {r : Int32} {m_this_traceCount : Int32} {m_this_parted : Int32} {m_this_bodies : Nat → Int32} (hf : f_X7_lands p0 x_this_traceCount x_this_parted x_this_kind x_this_n x_this_a f_this_bodies = some (r, m_this_traceCount, m_this_parted, m_this_bodies)) : mFi l G yX7_lands cX7_lands 2 .int 6 [.ref h_this, .int p0] [(h_this, ob 7 [.ref h_this_bodies, .int x_this_traceCount, .int x_this_parted, .int x_this_kind, .int x_this_n, .int x_this_a]), (h_this_bodies, ia G 30 f_this_bodies)] r [(h_this, ob 7 [.ref h_this_bodies, .int m_this_traceCount, .int m_this_parted, .int x_this_kind, .int x_this_n, .int x_this_a]), (h_this_bodies, ia G 30 m_this_bodies)] := by
  refine mFi.of (by decide +kernel) (Nat.le_of_ble_eq_true rfl) ?_
  intro p e s m below meth c A C hr hlk h ls hl
  obtain ⟨hx, hb, hml, hown, hts⟩ := id C
  replace hl : lv_has ls 2 [(0, .ref h_this), (1, .int p0)] := hl
  unfold f_X7_lands at hf
  refine lv_aload_n hx hb dX7_lands_0 rfl (lv_at hl 0 rfl) ?_
  refine r_get C h fk_X7_23 0 rfl rfl dX7_lands_1 ?_
  refine lv_iconst (v := (3 : Int32)) hx hb dX7_lands_4 rfl ?_
  refine lv_icmp_ne (tgt := 29) hx hb dX7_lands_5 rfl (fun c1 => ?_) (fun c1 => ?_)
  · replace hf := ifn c1 hf
    refine lv_aload_n hx hb dX7_lands_29 rfl (lv_at hl 0 rfl) ?_
    refine lv_iload_n hx hb dX7_lands_30 rfl (lv_at hl 1 rfl) ?_
    replace hf := bd4_inv hf
    obtain ⟨r2, y3, y4, g5, hc6, hf⟩ := hf
    refine r_ciV (ws' := [(h_this, ob 7 [.ref h_this_bodies, .int y3, .int y4, .int x_this_kind, .int x_this_n, .int x_this_a]), (h_this_bodies, ia G 30 g5)]) C h (c_X7_shipLands hc6) mv_X7_52 rfl 0 rfl [0, 1] rfl rfl [0, 1] [(h_this, ob 7 [.ref h_this_bodies, .int y3, .int y4, .int x_this_kind, .int x_this_n, .int x_this_a]), (h_this_bodies, ia G 30 g5)] rfl rfl (by decide +kernel) rfl hl.1 rfl (Nat.le_of_ble_eq_true rfl) (rok (by decide)) dX7_lands_31 (fun H locs h => ?_)
    cases hf
    exact r_iret C h hr hlk rfl dX7_lands_34
  · replace hf := ifp c1 hf
    refine lv_aload_n hx hb dX7_lands_8 rfl (lv_at hl 0 rfl) ?_
    refine lv_bipush (v := (51 : Int32)) hx hb dX7_lands_9 rfl ?_
    replace hf := bd2_inv hf
    obtain ⟨y7, g8, hc9, hf⟩ := hf
    refine r_cvV (ws' := [(h_this, ob 7 [.ref h_this_bodies, .int y7, .int x_this_parted, .int x_this_kind, .int x_this_n, .int x_this_a]), (h_this_bodies, ia G 30 g8)]) C h (c_X7_begin hc9) mv_X7_32 rfl 0 rfl [0, 1] rfl rfl [0, 1] [(h_this, ob 7 [.ref h_this_bodies, .int y7, .int x_this_parted, .int x_this_kind, .int x_this_n, .int x_this_a]), (h_this_bodies, ia G 30 g8)] rfl rfl (by decide +kernel) rfl hl.1 rfl (Nat.le_of_ble_eq_true rfl) (rok (by decide)) dX7_lands_11 (fun H locs h => ?_)
    refine lv_aload_n hx hb dX7_lands_14 rfl (lv_at hl 0 rfl) ?_
    refine lv_iload_n hx hb dX7_lands_15 rfl (lv_at hl 1 rfl) ?_
    replace hf := bd4_inv hf
    obtain ⟨r10, y11, y12, g13, hc14, hf⟩ := hf
    refine r_ciV (ws' := [(h_this, ob 7 [.ref h_this_bodies, .int y11, .int y12, .int x_this_kind, .int x_this_n, .int x_this_a]), (h_this_bodies, ia G 30 g13)]) C h (c_X7_shipLands hc14) mv_X7_52 rfl 0 rfl [0, 1] rfl rfl [0, 1] [(h_this, ob 7 [.ref h_this_bodies, .int y11, .int y12, .int x_this_kind, .int x_this_n, .int x_this_a]), (h_this_bodies, ia G 30 g13)] rfl rfl (by decide +kernel) rfl hl.1 rfl (Nat.le_of_ble_eq_true rfl) (rok (by decide)) dX7_lands_16 (fun H locs h => ?_)
    refine lv_aload_n hx hb dX7_lands_19 rfl (lv_at hl 0 rfl) ?_
    refine lv_aload_n hx hb dX7_lands_20 rfl (lv_at hl 0 rfl) ?_
    refine r_get C h fk_X7_29 0 rfl rfl dX7_lands_21 ?_
    replace hf := bd3_inv hf
    obtain ⟨r15, y16, g17, hc18, hf⟩ := hf
    refine r_ciV (ws' := [(h_this, ob 7 [.ref h_this_bodies, .int y16, .int y12, .int x_this_kind, .int x_this_n, .int x_this_a]), (h_this_bodies, ia G 30 g17)]) C h (c_X7_tacks hc18) mv_X7_55 rfl 0 rfl [0, 1] rfl rfl [0, 1] [(h_this, ob 7 [.ref h_this_bodies, .int y16, .int y12, .int x_this_kind, .int x_this_n, .int x_this_a]), (h_this_bodies, ia G 30 g17)] rfl rfl (by decide +kernel) rfl hl.1 rfl (Nat.le_of_ble_eq_true rfl) (rok (by decide)) dX7_lands_24 (fun H locs h => ?_)
    refine lv_isub hx hb dX7_lands_27 ?_
    cases hf
    exact r_iret C h hr hlk rfl dX7_lands_28
set_option maxRecDepth 100000 in
set_option maxHeartbeats 4000000 in
theorem c_X8_act {l : Launch} {G : Gt} {h_this h_this_rock h_this_kept h_this_trial h_this_planner h_this_reader h_this_draft h_this_host h_this_thing h_this_tape h_this_rows h_this_host_sorts h_this_host_sizes h_this_host_items h_this_host_holds h_this_host_shelfShips h_this_host_shelfSorts h_this_host_shelfSizes h_this_rock_kinds h_this_rock_trims h_this_rock_lanes h_this_rock_lights h_this_rock_currents h_this_rock_buoys h_this_rock_now h_this_rock_rules h_this_rock_reports h_this_thing_bodies : Nat} {p0 : Int32} {p1 : Int32} {p2 : Int32} {x_this_tapeCount : Int32} {x_this_rowCount : Int32} {x_this_isKept : Int32} {f_this_host_holds : Nat → Int32} {f_this_host_shelfShips : Nat → Int32} {x_this_rock_count : Int32} {x_this_rock_end : Int32} {x_this_rock_z : Int32} {f_this_rock_kinds : Nat → Int32} {f_this_rock_lanes : Nat → Int32} {x_this_thing_traceCount : Int32} {x_this_thing_parted : Int32} {x_this_thing_kind : Int32} {x_this_thing_n : Int32} {x_this_thing_a : Int32} {f_this_thing_bodies : Nat → Int32} {r : Int32} {m_this_thing_traceCount : Int32} {m_this_thing_parted : Int32} {m_this_thing_kind : Int32} {m_this_thing_n : Int32} {m_this_thing_a : Int32} {m_this_thing_bodies : Nat → Int32} (hf : f_X8_act p0 p1 p2 f_this_host_holds f_this_host_shelfShips x_this_rock_count f_this_rock_kinds f_this_rock_lanes x_this_thing_kind x_this_thing_n x_this_thing_a f_this_thing_bodies = some (r, m_this_thing_traceCount, m_this_thing_parted, m_this_thing_kind, m_this_thing_n, m_this_thing_a, m_this_thing_bodies)) : mFi l G yX8_act cX8_act 6 .int 7 [.ref h_this, .int p0, .int p1, .int p2] [(h_this, ob 8 [.ref h_this_rock, .ref h_this_kept, .ref h_this_trial, .ref h_this_planner, .ref h_this_reader, .ref h_this_draft, .ref h_this_host, .ref h_this_thing, .ref h_this_tape, .ref h_this_rows, .int x_this_tapeCount, .int x_this_rowCount, .int x_this_isKept]), (h_this_host, ob 0 [.ref h_this_host_sorts, .ref h_this_host_sizes, .ref h_this_host_items, .ref h_this_host_holds, .ref h_this_host_shelfShips, .ref h_this_host_shelfSorts, .ref h_this_host_shelfSizes]), (h_this_host_holds, ia G 4 f_this_host_holds), (h_this_host_shelfShips, ia G 4 f_this_host_shelfShips), (h_this_rock, ob 3 [.ref h_this_rock_kinds, .ref h_this_rock_trims, .ref h_this_rock_lanes, .ref h_this_rock_lights, .ref h_this_rock_currents, .ref h_this_rock_buoys, .ref h_this_rock_now, .ref h_this_rock_rules, .ref h_this_rock_reports, .int x_this_rock_count, .int x_this_rock_end, .int x_this_rock_z]), (h_this_rock_kinds, ia G 6 f_this_rock_kinds), (h_this_rock_lanes, ia G 6 f_this_rock_lanes), (h_this_thing, ob 7 [.ref h_this_thing_bodies, .int x_this_thing_traceCount, .int x_this_thing_parted, .int x_this_thing_kind, .int x_this_thing_n, .int x_this_thing_a]), (h_this_thing_bodies, ia G 30 f_this_thing_bodies)] r [(h_this, ob 8 [.ref h_this_rock, .ref h_this_kept, .ref h_this_trial, .ref h_this_planner, .ref h_this_reader, .ref h_this_draft, .ref h_this_host, .ref h_this_thing, .ref h_this_tape, .ref h_this_rows, .int x_this_tapeCount, .int x_this_rowCount, .int x_this_isKept]), (h_this_host, ob 0 [.ref h_this_host_sorts, .ref h_this_host_sizes, .ref h_this_host_items, .ref h_this_host_holds, .ref h_this_host_shelfShips, .ref h_this_host_shelfSorts, .ref h_this_host_shelfSizes]), (h_this_host_holds, ia G 4 f_this_host_holds), (h_this_host_shelfShips, ia G 4 f_this_host_shelfShips), (h_this_rock, ob 3 [.ref h_this_rock_kinds, .ref h_this_rock_trims, .ref h_this_rock_lanes, .ref h_this_rock_lights, .ref h_this_rock_currents, .ref h_this_rock_buoys, .ref h_this_rock_now, .ref h_this_rock_rules, .ref h_this_rock_reports, .int x_this_rock_count, .int x_this_rock_end, .int x_this_rock_z]), (h_this_rock_kinds, ia G 6 f_this_rock_kinds), (h_this_rock_lanes, ia G 6 f_this_rock_lanes), (h_this_thing, ob 7 [.ref h_this_thing_bodies, .int m_this_thing_traceCount, .int m_this_thing_parted, .int m_this_thing_kind, .int m_this_thing_n, .int m_this_thing_a]), (h_this_thing_bodies, ia G 30 m_this_thing_bodies)] := by
  refine mFi.of (by decide +kernel) (Nat.le_of_ble_eq_true rfl) ?_
  intro p e s m below meth c A C hr hlk h ls hl
  obtain ⟨hx, hb, hml, hown, hts⟩ := id C
  replace hl : lv_has ls 6 [(0, .ref h_this), (1, .int p0), (2, .int p1), (3, .int p2)] := hl
  unfold f_X8_act at hf
  refine with_K G A 6 (fun K hK1 hK2 => ?_)
  have B162 : ∀ (v5 : Int32) (y_this_thing_traceCount : Int32) (y_this_thing_parted : Int32) (y_this_thing_kind : Int32) (y_this_thing_n : Int32) (y_this_thing_a : Int32) (g_this_thing_bodies : Nat → Int32), f_X8_act_b162 v5 y_this_thing_traceCount y_this_thing_parted y_this_thing_kind y_this_thing_n y_this_thing_a g_this_thing_bodies = some (r, m_this_thing_traceCount, m_this_thing_parted, m_this_thing_kind, m_this_thing_n, m_this_thing_a, m_this_thing_bodies) → K 162 ([] : List Value) [(h_this, ob 8 [.ref h_this_rock, .ref h_this_kept, .ref h_this_trial, .ref h_this_planner, .ref h_this_reader, .ref h_this_draft, .ref h_this_host, .ref h_this_thing, .ref h_this_tape, .ref h_this_rows, .int x_this_tapeCount, .int x_this_rowCount, .int x_this_isKept]), (h_this_host, ob 0 [.ref h_this_host_sorts, .ref h_this_host_sizes, .ref h_this_host_items, .ref h_this_host_holds, .ref h_this_host_shelfShips, .ref h_this_host_shelfSorts, .ref h_this_host_shelfSizes]), (h_this_host_holds, ia G 4 f_this_host_holds), (h_this_host_shelfShips, ia G 4 f_this_host_shelfShips), (h_this_rock, ob 3 [.ref h_this_rock_kinds, .ref h_this_rock_trims, .ref h_this_rock_lanes, .ref h_this_rock_lights, .ref h_this_rock_currents, .ref h_this_rock_buoys, .ref h_this_rock_now, .ref h_this_rock_rules, .ref h_this_rock_reports, .int x_this_rock_count, .int x_this_rock_end, .int x_this_rock_z]), (h_this_rock_kinds, ia G 6 f_this_rock_kinds), (h_this_rock_lanes, ia G 6 f_this_rock_lanes), (h_this_thing, ob 7 [.ref h_this_thing_bodies, .int y_this_thing_traceCount, .int y_this_thing_parted, .int y_this_thing_kind, .int y_this_thing_n, .int y_this_thing_a]), (h_this_thing_bodies, ia G 30 g_this_thing_bodies)] [(0, .ref h_this), (5, .int v5)] := by
    intro v5 y_this_thing_traceCount y_this_thing_parted y_this_thing_kind y_this_thing_n y_this_thing_a g_this_thing_bodies hf
    unfold f_X8_act_b162 at hf
    refine hK1 _ _ _ _ (fun H locs ls h hl => ?_)
    refine lv_aload_n hx hb dX8_act_162 rfl (lv_at hl 0 rfl) ?_
    refine r_get C h fk_X8_57 0 rfl rfl dX8_act_163 ?_
    refine r_get C h fk_X8_363 7 rfl rfl dX8_act_166 ?_
    refine lv_if_eq (tgt := 177) hx hb dX8_act_169 rfl (fun c24 => ?_) (fun c24 => ?_)
    · replace hf := ifp c24 hf
      refine lv_iload hx hb dX8_act_177 (lv_at hl 1 rfl) ?_
      obtain ⟨rfl, rfl, rfl, rfl, rfl, rfl, rfl⟩ := sm7 hf
      exact r_iret C h hr hlk rfl dX8_act_179
    · replace hf := ifn c24 hf
      refine lv_bipush (v := (-15 : Int32)) hx hb dX8_act_172 rfl ?_
      refine lv_goto (tgt := 179) hx hb dX8_act_174 rfl ?_
      obtain ⟨rfl, rfl, rfl, rfl, rfl, rfl, rfl⟩ := sm7 hf
      exact r_iret C h hr hlk rfl dX8_act_179
  have B27 : ∀ (s0 : Int32) (y_this_thing_traceCount : Int32) (y_this_thing_parted : Int32), f_X8_act_b27 p1 p2 x_this_rock_count f_this_rock_kinds f_this_rock_lanes x_this_thing_kind x_this_thing_n x_this_thing_a f_this_thing_bodies s0 y_this_thing_traceCount y_this_thing_parted = some (r, m_this_thing_traceCount, m_this_thing_parted, m_this_thing_kind, m_this_thing_n, m_this_thing_a, m_this_thing_bodies) → K 27 [.int s0] [(h_this, ob 8 [.ref h_this_rock, .ref h_this_kept, .ref h_this_trial, .ref h_this_planner, .ref h_this_reader, .ref h_this_draft, .ref h_this_host, .ref h_this_thing, .ref h_this_tape, .ref h_this_rows, .int x_this_tapeCount, .int x_this_rowCount, .int x_this_isKept]), (h_this_host, ob 0 [.ref h_this_host_sorts, .ref h_this_host_sizes, .ref h_this_host_items, .ref h_this_host_holds, .ref h_this_host_shelfShips, .ref h_this_host_shelfSorts, .ref h_this_host_shelfSizes]), (h_this_host_holds, ia G 4 f_this_host_holds), (h_this_host_shelfShips, ia G 4 f_this_host_shelfShips), (h_this_rock, ob 3 [.ref h_this_rock_kinds, .ref h_this_rock_trims, .ref h_this_rock_lanes, .ref h_this_rock_lights, .ref h_this_rock_currents, .ref h_this_rock_buoys, .ref h_this_rock_now, .ref h_this_rock_rules, .ref h_this_rock_reports, .int x_this_rock_count, .int x_this_rock_end, .int x_this_rock_z]), (h_this_rock_kinds, ia G 6 f_this_rock_kinds), (h_this_rock_lanes, ia G 6 f_this_rock_lanes), (h_this_thing, ob 7 [.ref h_this_thing_bodies, .int y_this_thing_traceCount, .int y_this_thing_parted, .int x_this_thing_kind, .int x_this_thing_n, .int x_this_thing_a]), (h_this_thing_bodies, ia G 30 f_this_thing_bodies)] [(0, .ref h_this), (2, .int p1), (3, .int p2)] := by
    intro s0 y_this_thing_traceCount y_this_thing_parted hf
    unfold f_X8_act_b27 at hf
    refine hK1 _ _ _ _ (fun H locs ls h hl => ?_)
    refine lv_istore (lv' := [(4, .int s0), (0, .ref h_this), (2, .int p1), (3, .int p2)]) hx hb dX8_act_27 hl (by decide) rfl (fun ls hl => ?_)
    refine lv_aload_n hx hb dX8_act_29 rfl (lv_at hl 1 rfl) ?_
    refine r_get C h fk_X8_10 0 rfl rfl dX8_act_30 ?_
    refine lv_iload hx hb dX8_act_33 (lv_at hl 0 rfl) ?_
    replace hf := bd1_inv hf
    obtain ⟨r7, hc8, hf⟩ := hf
    refine r_ciV0 C h (c_X3_has hc8) mv_X8_90 rfl 4 rfl [4] rfl rfl hl.1 rfl (Nat.le_of_ble_eq_true rfl) (rok (by decide)) dX8_act_35 (fun H locs h => ?_)
    refine lv_if_ne (tgt := 43) hx hb dX8_act_38 rfl (fun c9 => ?_) (fun c9 => ?_)
    · replace hf := ifn c9 hf
      refine lv_aload_n hx hb dX8_act_43 rfl (lv_at hl 1 rfl) ?_
      refine r_get C h fk_X8_57 0 rfl rfl dX8_act_44 ?_
      refine lv_aload_n hx hb dX8_act_47 rfl (lv_at hl 1 rfl) ?_
      refine r_get C h fk_X8_10 0 rfl rfl dX8_act_48 ?_
      refine r_get C h fk_X8_97 4 rfl rfl dX8_act_51 ?_
      refine lv_iload hx hb dX8_act_54 (lv_at hl 0 rfl) ?_
      replace hf := chkI_inv hf
      obtain ⟨hi10, hf⟩ := hf
      refine r_iald C h 5 rfl hi10 dX8_act_56 ?_
      refine lv_iload hx hb dX8_act_57 (lv_at hl 0 rfl) ?_
      refine lv_aload_n hx hb dX8_act_59 rfl (lv_at hl 1 rfl) ?_
      refine r_get C h fk_X8_10 0 rfl rfl dX8_act_60 ?_
      refine r_get C h fk_X8_106 4 rfl rfl dX8_act_63 ?_
      refine lv_iload hx hb dX8_act_66 (lv_at hl 0 rfl) ?_
      replace hf := chkI_inv hf
      obtain ⟨hi11, hf⟩ := hf
      refine r_iald C h 6 rfl hi11 dX8_act_68 ?_
      replace hf := bd3_inv hf
      obtain ⟨y12, y13, y14, hc15, hf⟩ := hf
      refine r_cvV (ws' := [(h_this, ob 8 [.ref h_this_rock, .ref h_this_kept, .ref h_this_trial, .ref h_this_planner, .ref h_this_reader, .ref h_this_draft, .ref h_this_host, .ref h_this_thing, .ref h_this_tape, .ref h_this_rows, .int x_this_tapeCount, .int x_this_rowCount, .int x_this_isKept]), (h_this_host, ob 0 [.ref h_this_host_sorts, .ref h_this_host_sizes, .ref h_this_host_items, .ref h_this_host_holds, .ref h_this_host_shelfShips, .ref h_this_host_shelfSorts, .ref h_this_host_shelfSizes]), (h_this_host_holds, ia G 4 f_this_host_holds), (h_this_host_shelfShips, ia G 4 f_this_host_shelfShips), (h_this_rock, ob 3 [.ref h_this_rock_kinds, .ref h_this_rock_trims, .ref h_this_rock_lanes, .ref h_this_rock_lights, .ref h_this_rock_currents, .ref h_this_rock_buoys, .ref h_this_rock_now, .ref h_this_rock_rules, .ref h_this_rock_reports, .int x_this_rock_count, .int x_this_rock_end, .int x_this_rock_z]), (h_this_rock_kinds, ia G 6 f_this_rock_kinds), (h_this_rock_lanes, ia G 6 f_this_rock_lanes), (h_this_thing, ob 7 [.ref h_this_thing_bodies, .int y_this_thing_traceCount, .int y_this_thing_parted, .int y12, .int y13, .int y14]), (h_this_thing_bodies, ia G 30 f_this_thing_bodies)]) C h (c_X7_stand hc15) mv_X8_348 rfl 7 rfl [7] rfl rfl [7] [(h_this_thing, ob 7 [.ref h_this_thing_bodies, .int y_this_thing_traceCount, .int y_this_thing_parted, .int y12, .int y13, .int y14])] rfl rfl (by decide +kernel) rfl hl.1 rfl (Nat.le_of_ble_eq_true rfl) (rok (by decide)) dX8_act_69 (fun H locs h => ?_)
      refine lv_iconst (v := (0 : Int32)) hx hb dX8_act_72 rfl ?_
      refine lv_istore (lv' := [(5, .int (0 : Int32)), (4, .int s0), (0, .ref h_this), (2, .int p1), (3, .int p2)]) hx hb dX8_act_73 hl (by decide) rfl (fun ls hl => ?_)
      refine lv_iload_n hx hb dX8_act_75 rfl (lv_at hl 3 rfl) ?_
      by_cases c16 : p1 = (0 : Int32)
      · replace hf := ifp c16 hf
        refine r_tab (tgt := 108) C dX8_act_76 (0 : Int32) c16 (by decide) rfl rfl ?_
        refine lv_aload_n hx hb dX8_act_108 rfl (lv_at hl 2 rfl) ?_
        refine r_get C h fk_X8_57 0 rfl rfl dX8_act_109 ?_
        refine lv_iload_n hx hb dX8_act_112 rfl (lv_at hl 4 rfl) ?_
        replace hf := bd3_inv hf
        obtain ⟨r20, y21, g22, hc23, hf⟩ := hf
        refine r_ciV (ws' := [(h_this, ob 8 [.ref h_this_rock, .ref h_this_kept, .ref h_this_trial, .ref h_this_planner, .ref h_this_reader, .ref h_this_draft, .ref h_this_host, .ref h_this_thing, .ref h_this_tape, .ref h_this_rows, .int x_this_tapeCount, .int x_this_rowCount, .int x_this_isKept]), (h_this_host, ob 0 [.ref h_this_host_sorts, .ref h_this_host_sizes, .ref h_this_host_items, .ref h_this_host_holds, .ref h_this_host_shelfShips, .ref h_this_host_shelfSorts, .ref h_this_host_shelfSizes]), (h_this_host_holds, ia G 4 f_this_host_holds), (h_this_host_shelfShips, ia G 4 f_this_host_shelfShips), (h_this_rock, ob 3 [.ref h_this_rock_kinds, .ref h_this_rock_trims, .ref h_this_rock_lanes, .ref h_this_rock_lights, .ref h_this_rock_currents, .ref h_this_rock_buoys, .ref h_this_rock_now, .ref h_this_rock_rules, .ref h_this_rock_reports, .int x_this_rock_count, .int x_this_rock_end, .int x_this_rock_z]), (h_this_rock_kinds, ia G 6 f_this_rock_kinds), (h_this_rock_lanes, ia G 6 f_this_rock_lanes), (h_this_thing, ob 7 [.ref h_this_thing_bodies, .int y21, .int y_this_thing_parted, .int y12, .int y13, .int y14]), (h_this_thing_bodies, ia G 30 g22)]) C h (c_X7_sights hc23) mv_X8_351 rfl 7 rfl [7, 8] rfl rfl [7, 8] [(h_this_thing, ob 7 [.ref h_this_thing_bodies, .int y21, .int y_this_thing_parted, .int y12, .int y13, .int y14]), (h_this_thing_bodies, ia G 30 g22)] rfl rfl (by decide +kernel) rfl hl.1 rfl (Nat.le_of_ble_eq_true rfl) (rok (by decide)) dX8_act_113 (fun H locs h => ?_)
        refine lv_istore (lv' := [(5, .int r20), (4, .int s0), (0, .ref h_this), (2, .int p1), (3, .int p2)]) hx hb dX8_act_116 hl (by decide) rfl (fun ls hl => ?_)
        refine lv_goto (tgt := 162) hx hb dX8_act_118 rfl ?_
        exact hK2 _ _ _ _ (B162 r20 y21 y_this_thing_parted y12 y13 y14 g22 hf) _ _ _ h (lv_sub hl [2, 0] rfl)
      · replace hf := ifn c16 hf
        by_cases c17 : p1 = (1 : Int32)
        · replace hf := ifp c17 hf
          refine r_tab (tgt := 121) C dX8_act_76 (1 : Int32) c17 (by decide) rfl rfl ?_
          refine lv_aload_n hx hb dX8_act_121 rfl (lv_at hl 2 rfl) ?_
          refine r_get C h fk_X8_57 0 rfl rfl dX8_act_122 ?_
          refine lv_iload_n hx hb dX8_act_125 rfl (lv_at hl 4 rfl) ?_
          replace hf := bd3_inv hf
          obtain ⟨r25, y26, g27, hc28, hf⟩ := hf
          refine r_ciV (ws' := [(h_this, ob 8 [.ref h_this_rock, .ref h_this_kept, .ref h_this_trial, .ref h_this_planner, .ref h_this_reader, .ref h_this_draft, .ref h_this_host, .ref h_this_thing, .ref h_this_tape, .ref h_this_rows, .int x_this_tapeCount, .int x_this_rowCount, .int x_this_isKept]), (h_this_host, ob 0 [.ref h_this_host_sorts, .ref h_this_host_sizes, .ref h_this_host_items, .ref h_this_host_holds, .ref h_this_host_shelfShips, .ref h_this_host_shelfSorts, .ref h_this_host_shelfSizes]), (h_this_host_holds, ia G 4 f_this_host_holds), (h_this_host_shelfShips, ia G 4 f_this_host_shelfShips), (h_this_rock, ob 3 [.ref h_this_rock_kinds, .ref h_this_rock_trims, .ref h_this_rock_lanes, .ref h_this_rock_lights, .ref h_this_rock_currents, .ref h_this_rock_buoys, .ref h_this_rock_now, .ref h_this_rock_rules, .ref h_this_rock_reports, .int x_this_rock_count, .int x_this_rock_end, .int x_this_rock_z]), (h_this_rock_kinds, ia G 6 f_this_rock_kinds), (h_this_rock_lanes, ia G 6 f_this_rock_lanes), (h_this_thing, ob 7 [.ref h_this_thing_bodies, .int y26, .int y_this_thing_parted, .int y12, .int y13, .int y14]), (h_this_thing_bodies, ia G 30 g27)]) C h (c_X7_tacks hc28) mv_X8_354 rfl 7 rfl [7, 8] rfl rfl [7, 8] [(h_this_thing, ob 7 [.ref h_this_thing_bodies, .int y26, .int y_this_thing_parted, .int y12, .int y13, .int y14]), (h_this_thing_bodies, ia G 30 g27)] rfl rfl (by decide +kernel) rfl hl.1 rfl (Nat.le_of_ble_eq_true rfl) (rok (by decide)) dX8_act_126 (fun H locs h => ?_)
          refine lv_istore (lv' := [(5, .int r25), (4, .int s0), (0, .ref h_this), (2, .int p1), (3, .int p2)]) hx hb dX8_act_129 hl (by decide) rfl (fun ls hl => ?_)
          refine lv_goto (tgt := 162) hx hb dX8_act_131 rfl ?_
          exact hK2 _ _ _ _ (B162 r25 y26 y_this_thing_parted y12 y13 y14 g27 hf) _ _ _ h (lv_sub hl [2, 0] rfl)
        · replace hf := ifn c17 hf
          by_cases c18 : p1 = (2 : Int32)
          · replace hf := ifp c18 hf
            refine r_tab (tgt := 134) C dX8_act_76 (2 : Int32) c18 (by decide) rfl rfl ?_
            refine lv_aload_n hx hb dX8_act_134 rfl (lv_at hl 2 rfl) ?_
            refine r_get C h fk_X8_57 0 rfl rfl dX8_act_135 ?_
            refine lv_iload_n hx hb dX8_act_138 rfl (lv_at hl 4 rfl) ?_
            replace hf := bd4_inv hf
            obtain ⟨r29, y30, y31, g32, hc33, hf⟩ := hf
            refine r_ciV (ws' := [(h_this, ob 8 [.ref h_this_rock, .ref h_this_kept, .ref h_this_trial, .ref h_this_planner, .ref h_this_reader, .ref h_this_draft, .ref h_this_host, .ref h_this_thing, .ref h_this_tape, .ref h_this_rows, .int x_this_tapeCount, .int x_this_rowCount, .int x_this_isKept]), (h_this_host, ob 0 [.ref h_this_host_sorts, .ref h_this_host_sizes, .ref h_this_host_items, .ref h_this_host_holds, .ref h_this_host_shelfShips, .ref h_this_host_shelfSorts, .ref h_this_host_shelfSizes]), (h_this_host_holds, ia G 4 f_this_host_holds), (h_this_host_shelfShips, ia G 4 f_this_host_shelfShips), (h_this_rock, ob 3 [.ref h_this_rock_kinds, .ref h_this_rock_trims, .ref h_this_rock_lanes, .ref h_this_rock_lights, .ref h_this_rock_currents, .ref h_this_rock_buoys, .ref h_this_rock_now, .ref h_this_rock_rules, .ref h_this_rock_reports, .int x_this_rock_count, .int x_this_rock_end, .int x_this_rock_z]), (h_this_rock_kinds, ia G 6 f_this_rock_kinds), (h_this_rock_lanes, ia G 6 f_this_rock_lanes), (h_this_thing, ob 7 [.ref h_this_thing_bodies, .int y30, .int y31, .int y12, .int y13, .int y14]), (h_this_thing_bodies, ia G 30 g32)]) C h (c_X7_sounds hc33) mv_X8_357 rfl 7 rfl [7, 8] rfl rfl [7, 8] [(h_this_thing, ob 7 [.ref h_this_thing_bodies, .int y30, .int y31, .int y12, .int y13, .int y14]), (h_this_thing_bodies, ia G 30 g32)] rfl rfl (by decide +kernel) rfl hl.1 rfl (Nat.le_of_ble_eq_true rfl) (rok (by decide)) dX8_act_139 (fun H locs h => ?_)
            refine lv_istore (lv' := [(5, .int r29), (4, .int s0), (0, .ref h_this), (2, .int p1), (3, .int p2)]) hx hb dX8_act_142 hl (by decide) rfl (fun ls hl => ?_)
            refine lv_goto (tgt := 162) hx hb dX8_act_144 rfl ?_
            exact hK2 _ _ _ _ (B162 r29 y30 y31 y12 y13 y14 g32 hf) _ _ _ h (lv_sub hl [2, 0] rfl)
          · replace hf := ifn c18 hf
            by_cases c19 : p1 = (3 : Int32)
            · replace hf := ifp c19 hf
              refine r_tab (tgt := 147) C dX8_act_76 (3 : Int32) c19 (by decide) rfl rfl ?_
              refine lv_aload_n hx hb dX8_act_147 rfl (lv_at hl 2 rfl) ?_
              refine r_get C h fk_X8_57 0 rfl rfl dX8_act_148 ?_
              refine lv_iload_n hx hb dX8_act_151 rfl (lv_at hl 4 rfl) ?_
              replace hf := bd4_inv hf
              obtain ⟨r34, y35, y36, g37, hc38, hf⟩ := hf
              refine r_ciV (ws' := [(h_this, ob 8 [.ref h_this_rock, .ref h_this_kept, .ref h_this_trial, .ref h_this_planner, .ref h_this_reader, .ref h_this_draft, .ref h_this_host, .ref h_this_thing, .ref h_this_tape, .ref h_this_rows, .int x_this_tapeCount, .int x_this_rowCount, .int x_this_isKept]), (h_this_host, ob 0 [.ref h_this_host_sorts, .ref h_this_host_sizes, .ref h_this_host_items, .ref h_this_host_holds, .ref h_this_host_shelfShips, .ref h_this_host_shelfSorts, .ref h_this_host_shelfSizes]), (h_this_host_holds, ia G 4 f_this_host_holds), (h_this_host_shelfShips, ia G 4 f_this_host_shelfShips), (h_this_rock, ob 3 [.ref h_this_rock_kinds, .ref h_this_rock_trims, .ref h_this_rock_lanes, .ref h_this_rock_lights, .ref h_this_rock_currents, .ref h_this_rock_buoys, .ref h_this_rock_now, .ref h_this_rock_rules, .ref h_this_rock_reports, .int x_this_rock_count, .int x_this_rock_end, .int x_this_rock_z]), (h_this_rock_kinds, ia G 6 f_this_rock_kinds), (h_this_rock_lanes, ia G 6 f_this_rock_lanes), (h_this_thing, ob 7 [.ref h_this_thing_bodies, .int y35, .int y36, .int y12, .int y13, .int y14]), (h_this_thing_bodies, ia G 30 g37)]) C h (c_X7_lands hc38) mv_X8_360 rfl 7 rfl [7, 8] rfl rfl [7, 8] [(h_this_thing, ob 7 [.ref h_this_thing_bodies, .int y35, .int y36, .int y12, .int y13, .int y14]), (h_this_thing_bodies, ia G 30 g37)] rfl rfl (by decide +kernel) rfl hl.1 rfl (Nat.le_of_ble_eq_true rfl) (rok (by decide)) dX8_act_152 (fun H locs h => ?_)
              refine lv_istore (lv' := [(5, .int r34), (4, .int s0), (0, .ref h_this), (2, .int p1), (3, .int p2)]) hx hb dX8_act_155 hl (by decide) rfl (fun ls hl => ?_)
              refine lv_goto (tgt := 162) hx hb dX8_act_157 rfl ?_
              exact hK2 _ _ _ _ (B162 r34 y35 y36 y12 y13 y14 g37 hf) _ _ _ h (lv_sub hl [2, 0] rfl)
            · replace hf := ifn c19 hf
              refine r_tabD (tgt := 160) C dX8_act_76 [(0 : Int32), (1 : Int32), (2 : Int32), (3 : Int32)] (by decide) (nel_c c16 (nel_c c17 (nel_c c18 (nel_c c19 nel_0)))) rfl ?_
              refine lv_iconst (v := (0 : Int32)) hx hb dX8_act_160 rfl ?_
              obtain ⟨rfl, rfl, rfl, rfl, rfl, rfl, rfl⟩ := sm7 hf
              exact r_iret C h hr hlk rfl dX8_act_161
    · replace hf := ifp c9 hf
      refine lv_iconst (v := (0 : Int32)) hx hb dX8_act_41 rfl ?_
      obtain ⟨rfl, rfl, rfl, rfl, rfl, rfl, rfl⟩ := sm7 hf
      exact r_iret C h hr hlk rfl dX8_act_42
  refine lv_aload_n hx hb dX8_act_0 rfl (lv_at hl 0 rfl) ?_
  refine r_get C h fk_X8_57 0 rfl rfl dX8_act_1 ?_
  replace hf := bd2_inv hf
  obtain ⟨y1, y2, hc3, hf⟩ := hf
  refine r_cvV (ws' := [(h_this, ob 8 [.ref h_this_rock, .ref h_this_kept, .ref h_this_trial, .ref h_this_planner, .ref h_this_reader, .ref h_this_draft, .ref h_this_host, .ref h_this_thing, .ref h_this_tape, .ref h_this_rows, .int x_this_tapeCount, .int x_this_rowCount, .int x_this_isKept]), (h_this_host, ob 0 [.ref h_this_host_sorts, .ref h_this_host_sizes, .ref h_this_host_items, .ref h_this_host_holds, .ref h_this_host_shelfShips, .ref h_this_host_shelfSorts, .ref h_this_host_shelfSizes]), (h_this_host_holds, ia G 4 f_this_host_holds), (h_this_host_shelfShips, ia G 4 f_this_host_shelfShips), (h_this_rock, ob 3 [.ref h_this_rock_kinds, .ref h_this_rock_trims, .ref h_this_rock_lanes, .ref h_this_rock_lights, .ref h_this_rock_currents, .ref h_this_rock_buoys, .ref h_this_rock_now, .ref h_this_rock_rules, .ref h_this_rock_reports, .int x_this_rock_count, .int x_this_rock_end, .int x_this_rock_z]), (h_this_rock_kinds, ia G 6 f_this_rock_kinds), (h_this_rock_lanes, ia G 6 f_this_rock_lanes), (h_this_thing, ob 7 [.ref h_this_thing_bodies, .int y1, .int y2, .int x_this_thing_kind, .int x_this_thing_n, .int x_this_thing_a]), (h_this_thing_bodies, ia G 30 f_this_thing_bodies)]) C h (c_X7_forgetTrace hc3) mv_X8_345 rfl 7 rfl [7] rfl rfl [7] [(h_this_thing, ob 7 [.ref h_this_thing_bodies, .int y1, .int y2, .int x_this_thing_kind, .int x_this_thing_n, .int x_this_thing_a])] rfl rfl (by decide +kernel) rfl hl.1 rfl (Nat.le_of_ble_eq_true rfl) (rok (by decide)) dX8_act_4 (fun H locs h => ?_)
  refine lv_iload_n hx hb dX8_act_7 rfl (lv_at hl 1 rfl) ?_
  replace hf := bd1_inv hf
  obtain ⟨r4, hc5, hf⟩ := hf
  refine r_ciS0 C h (c_X0_hasShelf hc5) ms_X8_318 rfl [] rfl rfl hl.1 rfl (Nat.le_of_ble_eq_true rfl) (rok (by decide)) dX8_act_8 (fun H locs h => ?_)
  refine lv_if_eq (tgt := 25) hx hb dX8_act_11 rfl (fun c6 => ?_) (fun c6 => ?_)
  · replace hf := ifp c6 hf
    refine lv_bipush (v := (-3 : Int32)) hx hb dX8_act_25 rfl ?_
    exact hK2 _ _ _ _ (B27 (-3 : Int32) y1 y2 hf) _ _ _ h (lv_sub hl [0, 2, 3] rfl)
  · replace hf := ifn c6 hf
    refine lv_aload_n hx hb dX8_act_14 rfl (lv_at hl 0 rfl) ?_
    refine r_get C h fk_X8_50 0 rfl rfl dX8_act_15 ?_
    refine lv_iload_n hx hb dX8_act_18 rfl (lv_at hl 1 rfl) ?_
    replace hf := bd1_inv hf
    obtain ⟨r39, hc40, hf⟩ := hf
    refine r_ciV0 C h (c_X0_shipOn hc40) mv_X8_339 rfl 1 rfl [1, 2, 3] rfl rfl hl.1 rfl (Nat.le_of_ble_eq_true rfl) (rok (by decide)) dX8_act_19 (fun H locs h => ?_)
    refine lv_goto (tgt := 27) hx hb dX8_act_22 rfl ?_
    exact hK2 _ _ _ _ (B27 r39 y1 y2 hf) _ _ _ h (lv_sub hl [0, 2, 3] rfl)
