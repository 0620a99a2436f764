set_option maxRecDepth 100000 in
set_option maxHeartbeats 4000000 in
theorem c_X4_closes {l : Launch} {G : Gt} {h_a0 h_a0_kinds h_a0_deeds h_a0_begins h_a0_steps h_a0_lefts h_a0_rights h_a0_facts h_this h_this_waiting : Nat} {x_a0_count : Int32} {x_a0_size : Int32} {f_a0_lefts : Nat → Int32} {f_a0_rights : Nat → Int32} {f_a0_steps : Nat → Int32} {x_this_waitingCount : Int32} {x_this_open : Int32} {x_this_expected : Int32} {x_this_kind : Int32} {x_this_left : Int32} {x_this_sign : Int32} {x_this_token : Int32} {x_this_tokenAt : Int32} {x_this_numeral : Int32} {x_this_place : Int32} {f_this_waiting : Nat → Int32} {r : Int32} {m_a0_size : Int32} {m_a0_lefts : Nat → Int32} {m_a0_rights : Nat → Int32} {m_a0_steps : Nat → Int32} {m_this_waitingCount : Int32} {m_this_open : Int32} (hf : f_X4_closes x_a0_size f_a0_lefts f_a0_rights f_a0_steps x_this_waitingCount x_this_open f_this_waiting = some (r, m_a0_size, m_a0_lefts, m_a0_rights, m_a0_steps, m_this_waitingCount, m_this_open)) : mFi l G yX4_closes cX4_closes 2 .boolean 2 [.ref h_this, .ref h_a0] [(h_a0, ob 5 [.ref h_a0_kinds, .ref h_a0_deeds, .ref h_a0_begins, .ref h_a0_steps, .ref h_a0_lefts, .ref h_a0_rights, .ref h_a0_facts, .int x_a0_count, .int x_a0_size]), (h_a0_lefts, ia G 200 f_a0_lefts), (h_a0_rights, ia G 200 f_a0_rights), (h_a0_steps, ia G 200 f_a0_steps), (h_this, ob 4 [.ref h_this_waiting, .int x_this_waitingCount, .int x_this_open, .int x_this_expected, .int x_this_kind, .int x_this_left, .int x_this_sign, .int x_this_token, .int x_this_tokenAt, .int x_this_numeral, .int x_this_place]), (h_this_waiting, ia G 200 f_this_waiting)] r [(h_a0, ob 5 [.ref h_a0_kinds, .ref h_a0_deeds, .ref h_a0_begins, .ref h_a0_steps, .ref h_a0_lefts, .ref h_a0_rights, .ref h_a0_facts, .int x_a0_count, .int m_a0_size]), (h_a0_lefts, ia G 200 m_a0_lefts), (h_a0_rights, ia G 200 m_a0_rights), (h_a0_steps, ia G 200 m_a0_steps), (h_this, ob 4 [.ref h_this_waiting, .int m_this_waitingCount, .int m_this_open, .int x_this_expected, .int x_this_kind, .int x_this_left, .int x_this_sign, .int x_this_token, .int x_this_tokenAt, .int x_this_numeral, .int x_this_place]), (h_this_waiting, ia G 200 f_this_waiting)] := by
  refine mFi.of (by decide +kernel) (Nat.le_of_ble_eq_true rfl) ?_
  intro p e s m below meth c A C hr hlk h ls hl
  obtain ⟨hx, hb, hml, hown, hts⟩ := id C
  replace hl : lv_has ls 2 [(0, .ref h_this), (1, .ref h_a0)] := hl
  unfold f_X4_closes at hf
  refine lv_aload_n hx hb dX4_closes_0 rfl (lv_at hl 0 rfl) ?_
  refine lv_aload_n hx hb dX4_closes_1 rfl (lv_at hl 1 rfl) ?_
  refine lv_iconst (v := (1 : Int32)) hx hb dX4_closes_2 rfl ?_
  replace hf := bd5_inv hf
  obtain ⟨y1, g2, g3, g4, y5, hc6, hf⟩ := hf
  refine r_cvV (ws' := [(h_a0, ob 5 [.ref h_a0_kinds, .ref h_a0_deeds, .ref h_a0_begins, .ref h_a0_steps, .ref h_a0_lefts, .ref h_a0_rights, .ref h_a0_facts, .int x_a0_count, .int y1]), (h_a0_lefts, ia G 200 g2), (h_a0_rights, ia G 200 g3), (h_a0_steps, ia G 200 g4), (h_this, ob 4 [.ref h_this_waiting, .int y5, .int x_this_open, .int x_this_expected, .int x_this_kind, .int x_this_left, .int x_this_sign, .int x_this_token, .int x_this_tokenAt, .int x_this_numeral, .int x_this_place]), (h_this_waiting, ia G 200 f_this_waiting)]) C h (c_X4_join hc6) mv_X4_125 rfl 4 rfl [0, 1, 2, 3, 4, 5] rfl rfl [0, 1, 2, 3, 4] [(h_a0, ob 5 [.ref h_a0_kinds, .ref h_a0_deeds, .ref h_a0_begins, .ref h_a0_steps, .ref h_a0_lefts, .ref h_a0_rights, .ref h_a0_facts, .int x_a0_count, .int y1]), (h_a0_lefts, ia G 200 g2), (h_a0_rights, ia G 200 g3), (h_a0_steps, ia G 200 g4), (h_this, ob 4 [.ref h_this_waiting, .int y5, .int x_this_open, .int x_this_expected, .int x_this_kind, .int x_this_left, .int x_this_sign, .int x_this_token, .int x_this_tokenAt, .int x_this_numeral, .int x_this_place])] rfl rfl (by decide +kernel) rfl hl.1 rfl (Nat.le_of_ble_eq_true rfl) (rok (by decide)) dX4_closes_3 (fun H locs h => ?_)
  refine lv_aload_n hx hb dX4_closes_6 rfl (lv_at hl 0 rfl) ?_
  refine lv_dup hx hb dX4_closes_7 rfl ?_
  refine r_get C h fk_X4_19 4 rfl rfl dX4_closes_8 ?_
  refine lv_iconst (v := (1 : Int32)) hx hb dX4_closes_11 rfl ?_
  refine lv_isub hx hb dX4_closes_12 ?_
  refine lv_topi (fun t7 et7 => ?_)
  replace hf := lt1_inv et7 hf
  refine r_put (ws' := [(h_a0, ob 5 [.ref h_a0_kinds, .ref h_a0_deeds, .ref h_a0_begins, .ref h_a0_steps, .ref h_a0_lefts, .ref h_a0_rights, .ref h_a0_facts, .int x_a0_count, .int y1]), (h_a0_lefts, ia G 200 g2), (h_a0_rights, ia G 200 g3), (h_a0_steps, ia G 200 g4), (h_this, ob 4 [.ref h_this_waiting, .int y5, .int t7, .int x_this_expected, .int x_this_kind, .int x_this_left, .int x_this_sign, .int x_this_token, .int x_this_tokenAt, .int x_this_numeral, .int x_this_place]), (h_this_waiting, ia G 200 f_this_waiting)]) C h fw_X4_19 4 rfl rfl rfl (Nat.le_of_ble_eq_true rfl) dX4_closes_13 rfl (fun H locs h => ?_)
  refine lv_aload_n hx hb dX4_closes_16 rfl (lv_at hl 0 rfl) ?_
  refine r_get C h fk_X4_15 4 rfl rfl dX4_closes_17 ?_
  refine lv_if_le (tgt := 33) hx hb dX4_closes_20 rfl (fun c8 => ?_) (fun c8 => ?_)
  · replace hf := ifp c8 hf
    refine lv_iconst (v := (1 : Int32)) hx hb dX4_closes_33 rfl ?_
    obtain ⟨rfl, rfl, rfl, rfl, rfl, rfl, rfl⟩ := sm7 hf
    exact r_iret C h hr hlk rfl dX4_closes_34
  · replace hf := ifn c8 hf
    refine lv_aload_n hx hb dX4_closes_23 rfl (lv_at hl 0 rfl) ?_
    refine lv_dup hx hb dX4_closes_24 rfl ?_
    refine r_get C h fk_X4_15 4 rfl rfl dX4_closes_25 ?_
    refine lv_iconst (v := (1 : Int32)) hx hb dX4_closes_28 rfl ?_
    refine lv_isub hx hb dX4_closes_29 ?_
    refine lv_topi (fun t9 et9 => ?_)
    replace hf := lt1_inv et9 hf
    refine r_put (ws' := [(h_a0, ob 5 [.ref h_a0_kinds, .ref h_a0_deeds, .ref h_a0_begins, .ref h_a0_steps, .ref h_a0_lefts, .ref h_a0_rights, .ref h_a0_facts, .int x_a0_count, .int y1]), (h_a0_lefts, ia G 200 g2), (h_a0_rights, ia G 200 g3), (h_a0_steps, ia G 200 g4), (h_this, ob 4 [.ref h_this_waiting, .int t9, .int t7, .int x_this_expected, .int x_this_kind, .int x_this_left, .int x_this_sign, .int x_this_token, .int x_this_tokenAt, .int x_this_numeral, .int x_this_place]), (h_this_waiting, ia G 200 f_this_waiting)]) C h fw_X4_15 4 rfl rfl rfl (Nat.le_of_ble_eq_true rfl) dX4_closes_30 rfl (fun H locs h => ?_)
    refine lv_iconst (v := (1 : Int32)) hx hb dX4_closes_33 rfl ?_
    obtain ⟨rfl, rfl, rfl, rfl, rfl, rfl, rfl⟩ := sm7 hf
    exact r_iret C h hr hlk rfl dX4_closes_34
set_option maxRecDepth 100000 in
set_option maxHeartbeats 4000000 in
theorem c_X4_acceptsBehindOne {l : Launch} {G : Gt} {h_a0 h_a0_kinds h_a0_deeds h_a0_begins h_a0_steps h_a0_lefts h_a0_rights h_a0_facts h_this h_this_waiting : Nat} {x_a0_count : Int32} {x_a0_size : Int32} {f_a0_begins : Nat → Int32} {f_a0_deeds : Nat → Int32} {f_a0_kinds : Nat → Int32} {f_a0_lefts : Nat → Int32} {f_a0_rights : Nat → Int32} {f_a0_steps : Nat → Int32} {x_this_waitingCount : Int32} {x_this_open : Int32} {x_this_expected : Int32} {x_this_kind : Int32} {x_this_left : Int32} {x_this_sign : Int32} {x_this_token : Int32} {x_this_tokenAt : Int32} {x_this_numeral : Int32} {x_this_place : Int32} {f_this_waiting : Nat → Int32} {r : Int32} {m_a0_count : Int32} {m_a0_size : Int32} {m_a0_begins : Nat → Int32} {m_a0_deeds : Nat → Int32} {m_a0_kinds : Nat → Int32} {m_a0_lefts : Nat → Int32} {m_a0_rights : Nat → Int32} {m_a0_steps : Nat → Int32} {m_this_waitingCount : Int32} {m_this_open : Int32} {m_this_expected : Int32} {m_this_waiting : Nat → Int32} (hf : f_X4_acceptsBehindOne x_a0_count x_a0_size f_a0_begins f_a0_deeds f_a0_kinds f_a0_lefts f_a0_rights f_a0_steps x_this_waitingCount x_this_open x_this_expected x_this_kind x_this_token f_this_waiting = some (r, m_a0_count, m_a0_size, m_a0_begins, m_a0_deeds, m_a0_kinds, m_a0_lefts, m_a0_rights, m_a0_steps, m_this_waitingCount, m_this_open, m_this_expected, m_this_waiting)) : mFi l G yX4_acceptsBehindOne cX4_acceptsBehindOne 3 .boolean 3 [.ref h_this, .ref h_a0] [(h_a0, ob 5 [.ref h_a0_kinds, .ref h_a0_deeds, .ref h_a0_begins, .ref h_a0_steps, .ref h_a0_lefts, .ref h_a0_rights, .ref h_a0_facts, .int x_a0_count, .int x_a0_size]), (h_a0_begins, ia G 9 f_a0_begins), (h_a0_deeds, ia G 8 f_a0_deeds), (h_a0_kinds, ia G 8 f_a0_kinds), (h_a0_lefts, ia G 200 f_a0_lefts), (h_a0_rights, ia G 200 f_a0_rights), (h_a0_steps, ia G 200 f_a0_steps), (h_this, ob 4 [.ref h_this_waiting, .int x_this_waitingCount, .int x_this_open, .int x_this_expected, .int x_this_kind, .int x_this_left, .int x_this_sign, .int x_this_token, .int x_this_tokenAt, .int x_this_numeral, .int x_this_place]), (h_this_waiting, ia G 200 f_this_waiting)] r [(h_a0, ob 5 [.ref h_a0_kinds, .ref h_a0_deeds, .ref h_a0_begins, .ref h_a0_steps, .ref h_a0_lefts, .ref h_a0_rights, .ref h_a0_facts, .int m_a0_count, .int m_a0_size]), (h_a0_begins, ia G 9 m_a0_begins), (h_a0_deeds, ia G 8 m_a0_deeds), (h_a0_kinds, ia G 8 m_a0_kinds), (h_a0_lefts, ia G 200 m_a0_lefts), (h_a0_rights, ia G 200 m_a0_rights), (h_a0_steps, ia G 200 m_a0_steps), (h_this, ob 4 [.ref h_this_waiting, .int m_this_waitingCount, .int m_this_open, .int m_this_expected, .int x_this_kind, .int x_this_left, .int x_this_sign, .int x_this_token, .int x_this_tokenAt, .int x_this_numeral, .int x_this_place]), (h_this_waiting, ia G 200 m_this_waiting)] := by
  refine mFi.of (by decide +kernel) (Nat.le_of_ble_eq_true rfl) ?_
  intro p e s m below meth c A C hr hlk h ls hl
  obtain ⟨hx, hb, hml, hown, hts⟩ := id C
  replace hl : lv_has ls 3 [(0, .ref h_this), (1, .ref h_a0)] := hl
  unfold f_X4_acceptsBehindOne at hf
  refine with_K G A 3 (fun K hK1 hK2 => ?_)
  have B32 : ∀ (s0 : Int32), f_X4_acceptsBehindOne_b32 x_a0_count x_a0_size f_a0_begins f_a0_deeds f_a0_kinds f_a0_lefts f_a0_rights f_a0_steps x_this_waitingCount x_this_open f_this_waiting s0 = some (r, m_a0_count, m_a0_size, m_a0_begins, m_a0_deeds, m_a0_kinds, m_a0_lefts, m_a0_rights, m_a0_steps, m_this_waitingCount, m_this_open, m_this_expected, m_this_waiting) → K 32 [.int s0] [(h_a0, ob 5 [.ref h_a0_kinds, .ref h_a0_deeds, .ref h_a0_begins, .ref h_a0_steps, .ref h_a0_lefts, .ref h_a0_rights, .ref h_a0_facts, .int x_a0_count, .int x_a0_size]), (h_a0_begins, ia G 9 f_a0_begins), (h_a0_deeds, ia G 8 f_a0_deeds), (h_a0_kinds, ia G 8 f_a0_kinds), (h_a0_lefts, ia G 200 f_a0_lefts), (h_a0_rights, ia G 200 f_a0_rights), (h_a0_steps, ia G 200 f_a0_steps), (h_this, ob 4 [.ref h_this_waiting, .int x_this_waitingCount, .int x_this_open, .int x_this_expected, .int x_this_kind, .int x_this_left, .int x_this_sign, .int x_this_token, .int x_this_tokenAt, .int x_this_numeral, .int x_this_place]), (h_this_waiting, ia G 200 f_this_waiting)] [(0, .ref h_this), (1, .ref h_a0)] := by
    intro s0 hf
    unfold f_X4_acceptsBehindOne_b32 at hf
    refine hK1 _ _ _ _ (fun H locs ls h hl => ?_)
    refine lv_istore_n (lv' := [(2, .int s0), (0, .ref h_this), (1, .ref h_a0)]) hx hb dX4_acceptsBehindOne_32 rfl hl (by decide) rfl (fun ls hl => ?_)
    refine lv_aload_n hx hb dX4_acceptsBehindOne_33 rfl (lv_at hl 1 rfl) ?_
    refine lv_aload_n hx hb dX4_acceptsBehindOne_34 rfl (lv_at hl 2 rfl) ?_
    refine lv_iload_n hx hb dX4_acceptsBehindOne_35 rfl (lv_at hl 0 rfl) ?_
    replace hf := bd5_inv hf
    obtain ⟨y3, g4, g5, g6, y7, hc8, hf⟩ := hf
    refine r_cvV (ws' := [(h_a0, ob 5 [.ref h_a0_kinds, .ref h_a0_deeds, .ref h_a0_begins, .ref h_a0_steps, .ref h_a0_lefts, .ref h_a0_rights, .ref h_a0_facts, .int x_a0_count, .int y3]), (h_a0_begins, ia G 9 f_a0_begins), (h_a0_deeds, ia G 8 f_a0_deeds), (h_a0_kinds, ia G 8 f_a0_kinds), (h_a0_lefts, ia G 200 g4), (h_a0_rights, ia G 200 g5), (h_a0_steps, ia G 200 g6), (h_this, ob 4 [.ref h_this_waiting, .int y7, .int x_this_open, .int x_this_expected, .int x_this_kind, .int x_this_left, .int x_this_sign, .int x_this_token, .int x_this_tokenAt, .int x_this_numeral, .int x_this_place]), (h_this_waiting, ia G 200 f_this_waiting)]) C h (c_X4_join hc8) mv_X4_125 rfl 7 rfl [0, 4, 5, 6, 7, 8] rfl rfl [0, 4, 5, 6, 7] [(h_a0, ob 5 [.ref h_a0_kinds, .ref h_a0_deeds, .ref h_a0_begins, .ref h_a0_steps, .ref h_a0_lefts, .ref h_a0_rights, .ref h_a0_facts, .int x_a0_count, .int y3]), (h_a0_lefts, ia G 200 g4), (h_a0_rights, ia G 200 g5), (h_a0_steps, ia G 200 g6), (h_this, ob 4 [.ref h_this_waiting, .int y7, .int x_this_open, .int x_this_expected, .int x_this_kind, .int x_this_left, .int x_this_sign, .int x_this_token, .int x_this_tokenAt, .int x_this_numeral, .int x_this_place])] rfl rfl (by decide +kernel) rfl hl.1 rfl (Nat.le_of_ble_eq_true rfl) (rok (by decide)) dX4_acceptsBehindOne_36 (fun H locs h => ?_)
    refine lv_aload_n hx hb dX4_acceptsBehindOne_39 rfl (lv_at hl 1 rfl) ?_
    refine lv_iload_n hx hb dX4_acceptsBehindOne_40 rfl (lv_at hl 0 rfl) ?_
    replace hf := bd2_inv hf
    obtain ⟨y9, g10, hc11, hf⟩ := hf
    refine r_cvV (ws' := [(h_a0, ob 5 [.ref h_a0_kinds, .ref h_a0_deeds, .ref h_a0_begins, .ref h_a0_steps, .ref h_a0_lefts, .ref h_a0_rights, .ref h_a0_facts, .int x_a0_count, .int y3]), (h_a0_begins, ia G 9 f_a0_begins), (h_a0_deeds, ia G 8 f_a0_deeds), (h_a0_kinds, ia G 8 f_a0_kinds), (h_a0_lefts, ia G 200 g4), (h_a0_rights, ia G 200 g5), (h_a0_steps, ia G 200 g6), (h_this, ob 4 [.ref h_this_waiting, .int y9, .int x_this_open, .int x_this_expected, .int x_this_kind, .int x_this_left, .int x_this_sign, .int x_this_token, .int x_this_tokenAt, .int x_this_numeral, .int x_this_place]), (h_this_waiting, ia G 200 g10)]) C h (c_X4_await hc11) mv_X4_114 rfl 7 rfl [7, 8] rfl rfl [7, 8] [(h_this, ob 4 [.ref h_this_waiting, .int y9, .int x_this_open, .int x_this_expected, .int x_this_kind, .int x_this_left, .int x_this_sign, .int x_this_token, .int x_this_tokenAt, .int x_this_numeral, .int x_this_place]), (h_this_waiting, ia G 200 g10)] rfl rfl (by decide +kernel) rfl hl.1 rfl (Nat.le_of_ble_eq_true rfl) (rok (by decide)) dX4_acceptsBehindOne_41 (fun H locs h => ?_)
    refine lv_aload_n hx hb dX4_acceptsBehindOne_44 rfl (lv_at hl 1 rfl) ?_
    refine lv_iconst (v := (2 : Int32)) hx hb dX4_acceptsBehindOne_45 rfl ?_
    replace hf := bd2_inv hf
    obtain ⟨r12, y13, hc14, hf⟩ := hf
    refine r_ciV (ws' := [(h_a0, ob 5 [.ref h_a0_kinds, .ref h_a0_deeds, .ref h_a0_begins, .ref h_a0_steps, .ref h_a0_lefts, .ref h_a0_rights, .ref h_a0_facts, .int x_a0_count, .int y3]), (h_a0_begins, ia G 9 f_a0_begins), (h_a0_deeds, ia G 8 f_a0_deeds), (h_a0_kinds, ia G 8 f_a0_kinds), (h_a0_lefts, ia G 200 g4), (h_a0_rights, ia G 200 g5), (h_a0_steps, ia G 200 g6), (h_this, ob 4 [.ref h_this_waiting, .int y9, .int x_this_open, .int y13, .int x_this_kind, .int x_this_left, .int x_this_sign, .int x_this_token, .int x_this_tokenAt, .int x_this_numeral, .int x_this_place]), (h_this_waiting, ia G 200 g10)]) C h (c_X4_expect hc14) mv_X4_88 rfl 7 rfl [7] rfl rfl [7] [(h_this, ob 4 [.ref h_this_waiting, .int y9, .int x_this_open, .int y13, .int x_this_kind, .int x_this_left, .int x_this_sign, .int x_this_token, .int x_this_tokenAt, .int x_this_numeral, .int x_this_place])] rfl rfl (by decide +kernel) rfl hl.1 rfl (Nat.le_of_ble_eq_true rfl) (rok (by decide)) dX4_acceptsBehindOne_46 (fun H locs h => ?_)
    replace hf := chkB_inv hf
    obtain ⟨hb15, hf⟩ := hf
    obtain ⟨rfl, rfl, rfl, rfl, rfl, rfl, rfl, rfl, rfl, rfl, rfl, rfl, rfl⟩ := sm13 hf
    exact r_iret C h hr hlk hb15 dX4_acceptsBehindOne_49
  have B18 : f_X4_acceptsBehindOne_b18 x_a0_count x_a0_size f_a0_begins f_a0_deeds f_a0_kinds f_a0_lefts f_a0_rights f_a0_steps x_this_waitingCount x_this_open x_this_token f_this_waiting = some (r, m_a0_count, m_a0_size, m_a0_begins, m_a0_deeds, m_a0_kinds, m_a0_lefts, m_a0_rights, m_a0_steps, m_this_waitingCount, m_this_open, m_this_expected, m_this_waiting) → K 18 ([] : List Value) [(h_a0, ob 5 [.ref h_a0_kinds, .ref h_a0_deeds, .ref h_a0_begins, .ref h_a0_steps, .ref h_a0_lefts, .ref h_a0_rights, .ref h_a0_facts, .int x_a0_count, .int x_a0_size]), (h_a0_begins, ia G 9 f_a0_begins), (h_a0_deeds, ia G 8 f_a0_deeds), (h_a0_kinds, ia G 8 f_a0_kinds), (h_a0_lefts, ia G 200 f_a0_lefts), (h_a0_rights, ia G 200 f_a0_rights), (h_a0_steps, ia G 200 f_a0_steps), (h_this, ob 4 [.ref h_this_waiting, .int x_this_waitingCount, .int x_this_open, .int x_this_expected, .int x_this_kind, .int x_this_left, .int x_this_sign, .int x_this_token, .int x_this_tokenAt, .int x_this_numeral, .int x_this_place]), (h_this_waiting, ia G 200 f_this_waiting)] [(0, .ref h_this), (1, .ref h_a0)] := by
    intro hf
    unfold f_X4_acceptsBehindOne_b18 at hf
    refine hK1 _ _ _ _ (fun H locs ls h hl => ?_)
    refine lv_aload_n hx hb dX4_acceptsBehindOne_18 rfl (lv_at hl 0 rfl) ?_
    refine r_get C h fk_X4_34 7 rfl rfl dX4_acceptsBehindOne_19 ?_
    refine lv_bipush (v := (10 : Int32)) hx hb dX4_acceptsBehindOne_22 rfl ?_
    refine lv_icmp_ne (tgt := 31) hx hb dX4_acceptsBehindOne_24 rfl (fun c2 => ?_) (fun c2 => ?_)
    · replace hf := ifn c2 hf
      refine lv_iconst (v := (1 : Int32)) hx hb dX4_acceptsBehindOne_31 rfl ?_
      exact hK2 _ _ _ _ (B32 (1 : Int32) hf) _ _ _ h (lv_sub hl [0, 1] rfl)
    · replace hf := ifp c2 hf
      refine lv_iconst (v := (2 : Int32)) hx hb dX4_acceptsBehindOne_27 rfl ?_
      refine lv_goto (tgt := 32) hx hb dX4_acceptsBehindOne_28 rfl ?_
      exact hK2 _ _ _ _ (B32 (2 : Int32) hf) _ _ _ h (lv_sub hl [0, 1] rfl)
  refine lv_aload_n hx hb dX4_acceptsBehindOne_0 rfl (lv_at hl 0 rfl) ?_
  refine r_get C h fk_X4_34 7 rfl rfl dX4_acceptsBehindOne_1 ?_
  refine lv_bipush (v := (10 : Int32)) hx hb dX4_acceptsBehindOne_4 rfl ?_
  refine lv_icmp_eq (tgt := 18) hx hb dX4_acceptsBehindOne_6 rfl (fun c1 => ?_) (fun c1 => ?_)
  · replace hf := ifp c1 hf
    exact hK2 _ _ _ _ (B18 hf) _ _ _ h (lv_sub hl [0, 1] rfl)
  · replace hf := ifn c1 hf
    refine lv_aload_n hx hb dX4_acceptsBehindOne_9 rfl (lv_at hl 0 rfl) ?_
    refine r_get C h fk_X4_34 7 rfl rfl dX4_acceptsBehindOne_10 ?_
    refine lv_bipush (v := (11 : Int32)) hx hb dX4_acceptsBehindOne_13 rfl ?_
    refine lv_icmp_ne (tgt := 50) hx hb dX4_acceptsBehindOne_15 rfl (fun c16 => ?_) (fun c16 => ?_)
    · replace hf := ifn c16 hf
      refine lv_aload_n hx hb dX4_acceptsBehindOne_50 rfl (lv_at hl 0 rfl) ?_
      refine r_get C h fk_X4_19 7 rfl rfl dX4_acceptsBehindOne_51 ?_
      refine lv_if_ne (tgt := 69) hx hb dX4_acceptsBehindOne_54 rfl (fun c17 => ?_) (fun c17 => ?_)
      · replace hf := ifn c17 hf
        refine lv_aload_n hx hb dX4_acceptsBehindOne_69 rfl (lv_at hl 0 rfl) ?_
        refine r_get C h fk_X4_34 7 rfl rfl dX4_acceptsBehindOne_70 ?_
        refine lv_sipush (v := (297 : Int32)) hx hb dX4_acceptsBehindOne_73 rfl ?_
        refine lv_icmp_ne (tgt := 91) hx hb dX4_acceptsBehindOne_76 rfl (fun c18 => ?_) (fun c18 => ?_)
        · replace hf := ifn c18 hf
          refine lv_iconst (v := (0 : Int32)) hx hb dX4_acceptsBehindOne_91 rfl ?_
          obtain ⟨rfl, rfl, rfl, rfl, rfl, rfl, rfl, rfl, rfl, rfl, rfl, rfl, rfl⟩ := sm13 hf
          exact r_iret C h hr hlk rfl dX4_acceptsBehindOne_92
        · replace hf := ifp c18 hf
          refine lv_aload_n hx hb dX4_acceptsBehindOne_79 rfl (lv_at hl 0 rfl) ?_
          refine lv_aload_n hx hb dX4_acceptsBehindOne_80 rfl (lv_at hl 1 rfl) ?_
          replace hf := bd7_inv hf
          obtain ⟨r19, y20, g21, g22, g23, y24, y25, hc26, hf⟩ := hf
          refine r_ciV (ws' := [(h_a0, ob 5 [.ref h_a0_kinds, .ref h_a0_deeds, .ref h_a0_begins, .ref h_a0_steps, .ref h_a0_lefts, .ref h_a0_rights, .ref h_a0_facts, .int x_a0_count, .int y20]), (h_a0_begins, ia G 9 f_a0_begins), (h_a0_deeds, ia G 8 f_a0_deeds), (h_a0_kinds, ia G 8 f_a0_kinds), (h_a0_lefts, ia G 200 g21), (h_a0_rights, ia G 200 g22), (h_a0_steps, ia G 200 g23), (h_this, ob 4 [.ref h_this_waiting, .int y24, .int y25, .int x_this_expected, .int x_this_kind, .int x_this_left, .int x_this_sign, .int x_this_token, .int x_this_tokenAt, .int x_this_numeral, .int x_this_place]), (h_this_waiting, ia G 200 f_this_waiting)]) C h (c_X4_closes hc26) mv_X4_129 rfl 7 rfl [0, 4, 5, 6, 7, 8] rfl rfl [0, 4, 5, 6, 7] [(h_a0, ob 5 [.ref h_a0_kinds, .ref h_a0_deeds, .ref h_a0_begins, .ref h_a0_steps, .ref h_a0_lefts, .ref h_a0_rights, .ref h_a0_facts, .int x_a0_count, .int y20]), (h_a0_lefts, ia G 200 g21), (h_a0_rights, ia G 200 g22), (h_a0_steps, ia G 200 g23), (h_this, ob 4 [.ref h_this_waiting, .int y24, .int y25, .int x_this_expected, .int x_this_kind, .int x_this_left, .int x_this_sign, .int x_this_token, .int x_this_tokenAt, .int x_this_numeral, .int x_this_place])] rfl rfl (by decide +kernel) rfl hl.1 rfl (Nat.le_of_ble_eq_true rfl) (rok (by decide)) dX4_acceptsBehindOne_81 (fun H locs h => ?_)
          refine lv_if_eq (tgt := 91) hx hb dX4_acceptsBehindOne_84 rfl (fun c27 => ?_) (fun c27 => ?_)
          · replace hf := ifp c27 hf
            refine lv_iconst (v := (0 : Int32)) hx hb dX4_acceptsBehindOne_91 rfl ?_
            obtain ⟨rfl, rfl, rfl, rfl, rfl, rfl, rfl, rfl, rfl, rfl, rfl, rfl, rfl⟩ := sm13 hf
            exact r_iret C h hr hlk rfl dX4_acceptsBehindOne_92
          · replace hf := ifn c27 hf
            refine lv_iconst (v := (1 : Int32)) hx hb dX4_acceptsBehindOne_87 rfl ?_
            refine lv_goto (tgt := 92) hx hb dX4_acceptsBehindOne_88 rfl ?_
            obtain ⟨rfl, rfl, rfl, rfl, rfl, rfl, rfl, rfl, rfl, rfl, rfl, rfl, rfl⟩ := sm13 hf
            exact r_iret C h hr hlk rfl dX4_acceptsBehindOne_92
      · replace hf := ifp c17 hf
        refine lv_aload_n hx hb dX4_acceptsBehindOne_57 rfl (lv_at hl 0 rfl) ?_
        refine lv_aload_n hx hb dX4_acceptsBehindOne_58 rfl (lv_at hl 1 rfl) ?_
        refine lv_iconst (v := (1 : Int32)) hx hb dX4_acceptsBehindOne_59 rfl ?_
        replace hf := bd5_inv hf
        obtain ⟨y28, g29, g30, g31, y32, hc33, hf⟩ := hf
        refine r_cvV (ws' := [(h_a0, ob 5 [.ref h_a0_kinds, .ref h_a0_deeds, .ref h_a0_begins, .ref h_a0_steps, .ref h_a0_lefts, .ref h_a0_rights, .ref h_a0_facts, .int x_a0_count, .int y28]), (h_a0_begins, ia G 9 f_a0_begins), (h_a0_deeds, ia G 8 f_a0_deeds), (h_a0_kinds, ia G 8 f_a0_kinds), (h_a0_lefts, ia G 200 g29), (h_a0_rights, ia G 200 g30), (h_a0_steps, ia G 200 g31), (h_this, ob 4 [.ref h_this_waiting, .int y32, .int x_this_open, .int x_this_expected, .int x_this_kind, .int x_this_left, .int x_this_sign, .int x_this_token, .int x_this_tokenAt, .int x_this_numeral, .int x_this_place]), (h_this_waiting, ia G 200 f_this_waiting)]) C h (c_X4_join hc33) mv_X4_125 rfl 7 rfl [0, 4, 5, 6, 7, 8] rfl rfl [0, 4, 5, 6, 7] [(h_a0, ob 5 [.ref h_a0_kinds, .ref h_a0_deeds, .ref h_a0_begins, .ref h_a0_steps, .ref h_a0_lefts, .ref h_a0_rights, .ref h_a0_facts, .int x_a0_count, .int y28]), (h_a0_lefts, ia G 200 g29), (h_a0_rights, ia G 200 g30), (h_a0_steps, ia G 200 g31), (h_this, ob 4 [.ref h_this_waiting, .int y32, .int x_this_open, .int x_this_expected, .int x_this_kind, .int x_this_left, .int x_this_sign, .int x_this_token, .int x_this_tokenAt, .int x_this_numeral, .int x_this_place])] rfl rfl (by decide +kernel) rfl hl.1 rfl (Nat.le_of_ble_eq_true rfl) (rok (by decide)) dX4_acceptsBehindOne_60 (fun H locs h => ?_)
        refine lv_aload_n hx hb dX4_acceptsBehindOne_63 rfl (lv_at hl 0 rfl) ?_
        refine lv_aload_n hx hb dX4_acceptsBehindOne_64 rfl (lv_at hl 1 rfl) ?_
        replace hf := bd6_inv hf
        obtain ⟨r34, y35, g36, g37, g38, y39, hc40, hf⟩ := hf
        refine r_ciV (ws' := [(h_a0, ob 5 [.ref h_a0_kinds, .ref h_a0_deeds, .ref h_a0_begins, .ref h_a0_steps, .ref h_a0_lefts, .ref h_a0_rights, .ref h_a0_facts, .int y35, .int y28]), (h_a0_begins, ia G 9 g36), (h_a0_deeds, ia G 8 g37), (h_a0_kinds, ia G 8 g38), (h_a0_lefts, ia G 200 g29), (h_a0_rights, ia G 200 g30), (h_a0_steps, ia G 200 g31), (h_this, ob 4 [.ref h_this_waiting, .int y32, .int x_this_open, .int y39, .int x_this_kind, .int x_this_left, .int x_this_sign, .int x_this_token, .int x_this_tokenAt, .int x_this_numeral, .int x_this_place]), (h_this_waiting, ia G 200 f_this_waiting)]) C h (c_X4_acceptsDo hc40) mv_X4_91 rfl 7 rfl [0, 1, 2, 3, 7] rfl rfl [0, 1, 2, 3, 7] [(h_a0, ob 5 [.ref h_a0_kinds, .ref h_a0_deeds, .ref h_a0_begins, .ref h_a0_steps, .ref h_a0_lefts, .ref h_a0_rights, .ref h_a0_facts, .int y35, .int y28]), (h_a0_begins, ia G 9 g36), (h_a0_deeds, ia G 8 g37), (h_a0_kinds, ia G 8 g38), (h_this, ob 4 [.ref h_this_waiting, .int y32, .int x_this_open, .int y39, .int x_this_kind, .int x_this_left, .int x_this_sign, .int x_this_token, .int x_this_tokenAt, .int x_this_numeral, .int x_this_place])] rfl rfl (by decide +kernel) rfl hl.1 rfl (Nat.le_of_ble_eq_true rfl) (rok (by decide)) dX4_acceptsBehindOne_65 (fun H locs h => ?_)
        replace hf := chkB_inv hf
        obtain ⟨hb41, hf⟩ := hf
        obtain ⟨rfl, rfl, rfl, rfl, rfl, rfl, rfl, rfl, rfl, rfl, rfl, rfl, rfl⟩ := sm13 hf
        exact r_iret C h hr hlk hb41 dX4_acceptsBehindOne_68
    · replace hf := ifp c16 hf
      exact hK2 _ _ _ _ (B18 hf) _ _ _ h (lv_sub hl [0, 1] rfl)
set_option maxRecDepth 100000 in
set_option maxHeartbeats 4000000 in
theorem c_X4_accepts {l : Launch} {G : Gt} {h_a0 h_a0_kinds h_a0_deeds h_a0_begins h_a0_steps h_a0_lefts h_a0_rights h_a0_facts h_this h_this_waiting : Nat} {x_a0_count : Int32} {x_a0_size : Int32} {f_a0_begins : Nat → Int32} {f_a0_deeds : Nat → Int32} {f_a0_kinds : Nat → Int32} {f_a0_lefts : Nat → Int32} {f_a0_rights : Nat → Int32} {f_a0_steps : Nat → Int32} {x_this_waitingCount : Int32} {x_this_open : Int32} {x_this_expected : Int32} {x_this_kind : Int32} {x_this_left : Int32} {x_this_sign : Int32} {x_this_token : Int32} {x_this_tokenAt : Int32} {x_this_numeral : Int32} {x_this_place : Int32} {f_this_waiting : Nat → Int32} {r : Int32} {m_a0_count : Int32} {m_a0_size : Int32} {m_a0_begins : Nat → Int32} {m_a0_deeds : Nat → Int32} {m_a0_kinds : Nat → Int32} {m_a0_lefts : Nat → Int32} {m_a0_rights : Nat → Int32} {m_a0_steps : Nat → Int32} {m_this_waitingCount : Int32} {m_this_open : Int32} {m_this_expected : Int32} {m_this_kind : Int32} {m_this_left : Int32} {m_this_sign : Int32} {m_this_waiting : Nat → Int32} (hf : f_X4_accepts x_a0_count x_a0_size f_a0_begins f_a0_deeds f_a0_kinds f_a0_lefts f_a0_rights f_a0_steps x_this_waitingCount x_this_open x_this_expected x_this_kind x_this_left x_this_sign x_this_token x_this_numeral f_this_waiting = some (r, m_a0_count, m_a0_size, m_a0_begins, m_a0_deeds, m_a0_kinds, m_a0_lefts, m_a0_rights, m_a0_steps, m_this_waitingCount, m_this_open, m_this_expected, m_this_kind, m_this_left, m_this_sign, m_this_waiting)) : mFi l G yX4_accepts cX4_accepts 2 .boolean 4 [.ref h_this, .ref h_a0] [(h_a0, ob 5 [.ref h_a0_kinds, .ref h_a0_deeds, .ref h_a0_begins, .ref h_a0_steps, .ref h_a0_lefts, .ref h_a0_rights, .ref h_a0_facts, .int x_a0_count, .int x_a0_size]), (h_a0_begins, ia G 9 f_a0_begins), (h_a0_deeds, ia G 8 f_a0_deeds), (h_a0_kinds, ia G 8 f_a0_kinds), (h_a0_lefts, ia G 200 f_a0_lefts), (h_a0_rights, ia G 200 f_a0_rights), (h_a0_steps, ia G 200 f_a0_steps), (h_this, ob 4 [.ref h_this_waiting, .int x_this_waitingCount, .int x_this_open, .int x_this_expected, .int x_this_kind, .int x_this_left, .int x_this_sign, .int x_this_token, .int x_this_tokenAt, .int x_this_numeral, .int x_this_place]), (h_this_waiting, ia G 200 f_this_waiting)] r [(h_a0, ob 5 [.ref h_a0_kinds, .ref h_a0_deeds, .ref h_a0_begins, .ref h_a0_steps, .ref h_a0_lefts, .ref h_a0_rights, .ref h_a0_facts, .int m_a0_count, .int m_a0_size]), (h_a0_begins, ia G 9 m_a0_begins), (h_a0_deeds, ia G 8 m_a0_deeds), (h_a0_kinds, ia G 8 m_a0_kinds), (h_a0_lefts, ia G 200 m_a0_lefts), (h_a0_rights, ia G 200 m_a0_rights), (h_a0_steps, ia G 200 m_a0_steps), (h_this, ob 4 [.ref h_this_waiting, .int m_this_waitingCount, .int m_this_open, .int m_this_expected, .int m_this_kind, .int m_this_left, .int m_this_sign, .int x_this_token, .int x_this_tokenAt, .int x_this_numeral, .int x_this_place]), (h_this_waiting, ia G 200 m_this_waiting)] := by
  refine mFi.of (by decide +kernel) (Nat.le_of_ble_eq_true rfl) ?_
  intro p e s m below meth c A C hr hlk h ls hl
  obtain ⟨hx, hb, hml, hown, hts⟩ := id C
  replace hl : lv_has ls 2 [(0, .ref h_this), (1, .ref h_a0)] := hl
  unfold f_X4_accepts at hf
  refine lv_aload_n hx hb dX4_accepts_0 rfl (lv_at hl 0 rfl) ?_
  refine r_get C h fk_X4_22 7 rfl rfl dX4_accepts_1 ?_
  by_cases c1 : x_this_expected = (0 : Int32)
  · replace hf := ifp c1 hf
    refine r_tab (tgt := 44) C dX4_accepts_4 (0 : Int32) c1 (by decide) rfl rfl ?_
    refine lv_aload_n hx hb dX4_accepts_44 rfl (lv_at hl 0 rfl) ?_
    refine lv_aload_n hx hb dX4_accepts_45 rfl (lv_at hl 1 rfl) ?_
    replace hf := bd3_inv hf
    obtain ⟨r7, y8, y9, hc10, hf⟩ := hf
    refine r_ciV (ws' := [(h_a0, ob 5 [.ref h_a0_kinds, .ref h_a0_deeds, .ref h_a0_begins, .ref h_a0_steps, .ref h_a0_lefts, .ref h_a0_rights, .ref h_a0_facts, .int x_a0_count, .int x_a0_size]), (h_a0_begins, ia G 9 f_a0_begins), (h_a0_deeds, ia G 8 f_a0_deeds), (h_a0_kinds, ia G 8 f_a0_kinds), (h_a0_lefts, ia G 200 f_a0_lefts), (h_a0_rights, ia G 200 f_a0_rights), (h_a0_steps, ia G 200 f_a0_steps), (h_this, ob 4 [.ref h_this_waiting, .int x_this_waitingCount, .int x_this_open, .int y8, .int y9, .int x_this_left, .int x_this_sign, .int x_this_token, .int x_this_tokenAt, .int x_this_numeral, .int x_this_place]), (h_this_waiting, ia G 200 f_this_waiting)]) C h (c_X4_acceptsKind hc10) mv_X4_85 rfl 7 rfl [0, 7] rfl rfl [7] [(h_this, ob 4 [.ref h_this_waiting, .int x_this_waitingCount, .int x_this_open, .int y8, .int y9, .int x_this_left, .int x_this_sign, .int x_this_token, .int x_this_tokenAt, .int x_this_numeral, .int x_this_place])] rfl rfl (by decide +kernel) rfl hl.1 rfl (Nat.le_of_ble_eq_true rfl) (rok (by decide)) dX4_accepts_46 (fun H locs h => ?_)
    replace hf := chkB_inv hf
    obtain ⟨hb11, hf⟩ := hf
    obtain ⟨rfl, rfl, rfl, rfl, rfl, rfl, rfl, rfl, rfl, rfl, rfl, rfl, rfl, rfl, rfl, rfl⟩ := sm16 hf
    exact r_iret C h hr hlk hb11 dX4_accepts_49
  · replace hf := ifn c1 hf
    by_cases c2 : x_this_expected = (1 : Int32)
    · replace hf := ifp c2 hf
      refine r_tab (tgt := 50) C dX4_accepts_4 (1 : Int32) c2 (by decide) rfl rfl ?_
      refine lv_aload_n hx hb dX4_accepts_50 rfl (lv_at hl 0 rfl) ?_
      refine r_get C h fk_X4_34 7 rfl rfl dX4_accepts_51 ?_
      refine lv_bipush (v := (9 : Int32)) hx hb dX4_accepts_54 rfl ?_
      refine lv_icmp_ne (tgt := 67) hx hb dX4_accepts_56 rfl (fun c12 => ?_) (fun c12 => ?_)
      · replace hf := ifn c12 hf
        refine lv_aload_n hx hb dX4_accepts_67 rfl (lv_at hl 0 rfl) ?_
        refine lv_aload_n hx hb dX4_accepts_68 rfl (lv_at hl 1 rfl) ?_
        replace hf := bd6_inv hf
        obtain ⟨r13, y14, g15, g16, g17, y18, hc19, hf⟩ := hf
        refine r_ciV (ws' := [(h_a0, ob 5 [.ref h_a0_kinds, .ref h_a0_deeds, .ref h_a0_begins, .ref h_a0_steps, .ref h_a0_lefts, .ref h_a0_rights, .ref h_a0_facts, .int y14, .int x_a0_size]), (h_a0_begins, ia G 9 g15), (h_a0_deeds, ia G 8 g16), (h_a0_kinds, ia G 8 g17), (h_a0_lefts, ia G 200 f_a0_lefts), (h_a0_rights, ia G 200 f_a0_rights), (h_a0_steps, ia G 200 f_a0_steps), (h_this, ob 4 [.ref h_this_waiting, .int x_this_waitingCount, .int x_this_open, .int y18, .int x_this_kind, .int x_this_left, .int x_this_sign, .int x_this_token, .int x_this_tokenAt, .int x_this_numeral, .int x_this_place]), (h_this_waiting, ia G 200 f_this_waiting)]) C h (c_X4_acceptsDo hc19) mv_X4_91 rfl 7 rfl [0, 1, 2, 3, 7] rfl rfl [0, 1, 2, 3, 7] [(h_a0, ob 5 [.ref h_a0_kinds, .ref h_a0_deeds, .ref h_a0_begins, .ref h_a0_steps, .ref h_a0_lefts, .ref h_a0_rights, .ref h_a0_facts, .int y14, .int x_a0_size]), (h_a0_begins, ia G 9 g15), (h_a0_deeds, ia G 8 g16), (h_a0_kinds, ia G 8 g17), (h_this, ob 4 [.ref h_this_waiting, .int x_this_waitingCount, .int x_this_open, .int y18, .int x_this_kind, .int x_this_left, .int x_this_sign, .int x_this_token, .int x_this_tokenAt, .int x_this_numeral, .int x_this_place])] rfl rfl (by decide +kernel) rfl hl.1 rfl (Nat.le_of_ble_eq_true rfl) (rok (by decide)) dX4_accepts_69 (fun H locs h => ?_)
        replace hf := chkB_inv hf
        obtain ⟨hb20, hf⟩ := hf
        obtain ⟨rfl, rfl, rfl, rfl, rfl, rfl, rfl, rfl, rfl, rfl, rfl, rfl, rfl, rfl, rfl, rfl⟩ := sm16 hf
        exact r_iret C h hr hlk hb20 dX4_accepts_72
      · replace hf := ifp c12 hf
        refine lv_aload_n hx hb dX4_accepts_59 rfl (lv_at hl 0 rfl) ?_
        refine lv_iconst (v := (2 : Int32)) hx hb dX4_accepts_60 rfl ?_
        replace hf := bd2_inv hf
        obtain ⟨r21, y22, hc23, hf⟩ := hf
        refine r_ciV (ws' := [(h_a0, ob 5 [.ref h_a0_kinds, .ref h_a0_deeds, .ref h_a0_begins, .ref h_a0_steps, .ref h_a0_lefts, .ref h_a0_rights, .ref h_a0_facts, .int x_a0_count, .int x_a0_size]), (h_a0_begins, ia G 9 f_a0_begins), (h_a0_deeds, ia G 8 f_a0_deeds), (h_a0_kinds, ia G 8 f_a0_kinds), (h_a0_lefts, ia G 200 f_a0_lefts), (h_a0_rights, ia G 200 f_a0_rights), (h_a0_steps, ia G 200 f_a0_steps), (h_this, ob 4 [.ref h_this_waiting, .int x_this_waitingCount, .int x_this_open, .int y22, .int x_this_kind, .int x_this_left, .int x_this_sign, .int x_this_token, .int x_this_tokenAt, .int x_this_numeral, .int x_this_place]), (h_this_waiting, ia G 200 f_this_waiting)]) C h (c_X4_expect hc23) mv_X4_88 rfl 7 rfl [7] rfl rfl [7] [(h_this, ob 4 [.ref h_this_waiting, .int x_this_waitingCount, .int x_this_open, .int y22, .int x_this_kind, .int x_this_left, .int x_this_sign, .int x_this_token, .int x_this_tokenAt, .int x_this_numeral, .int x_this_place])] rfl rfl (by decide +kernel) rfl hl.1 rfl (Nat.le_of_ble_eq_true rfl) (rok (by decide)) dX4_accepts_61 (fun H locs h => ?_)
        refine lv_goto (tgt := 72) hx hb dX4_accepts_64 rfl ?_
        replace hf := chkB_inv hf
        obtain ⟨hb24, hf⟩ := hf
        obtain ⟨rfl, rfl, rfl, rfl, rfl, rfl, rfl, rfl, rfl, rfl, rfl, rfl, rfl, rfl, rfl, rfl⟩ := sm16 hf
        exact r_iret C h hr hlk hb24 dX4_accepts_72
    · replace hf := ifn c2 hf
      by_cases c3 : x_this_expected = (2 : Int32)
      · replace hf := ifp c3 hf
        refine r_tab (tgt := 73) C dX4_accepts_4 (2 : Int32) c3 (by decide) rfl rfl ?_
        refine lv_aload_n hx hb dX4_accepts_73 rfl (lv_at hl 0 rfl) ?_
        replace hf := bd6_inv hf
        obtain ⟨r25, y26, y27, y28, y29, g30, hc31, hf⟩ := hf
        refine r_ciV (ws' := [(h_a0, ob 5 [.ref h_a0_kinds, .ref h_a0_deeds, .ref h_a0_begins, .ref h_a0_steps, .ref h_a0_lefts, .ref h_a0_rights, .ref h_a0_facts, .int x_a0_count, .int x_a0_size]), (h_a0_begins, ia G 9 f_a0_begins), (h_a0_deeds, ia G 8 f_a0_deeds), (h_a0_kinds, ia G 8 f_a0_kinds), (h_a0_lefts, ia G 200 f_a0_lefts), (h_a0_rights, ia G 200 f_a0_rights), (h_a0_steps, ia G 200 f_a0_steps), (h_this, ob 4 [.ref h_this_waiting, .int y26, .int y27, .int y28, .int x_this_kind, .int y29, .int x_this_sign, .int x_this_token, .int x_this_tokenAt, .int x_this_numeral, .int x_this_place]), (h_this_waiting, ia G 200 g30)]) C h (c_X4_acceptsOne hc31) mv_X4_94 rfl 7 rfl [7, 8] rfl rfl [7, 8] [(h_this, ob 4 [.ref h_this_waiting, .int y26, .int y27, .int y28, .int x_this_kind, .int y29, .int x_this_sign, .int x_this_token, .int x_this_tokenAt, .int x_this_numeral, .int x_this_place]), (h_this_waiting, ia G 200 g30)] rfl rfl (by decide +kernel) rfl hl.1 rfl (Nat.le_of_ble_eq_true rfl) (rok (by decide)) dX4_accepts_74 (fun H locs h => ?_)
        replace hf := chkB_inv hf
        obtain ⟨hb32, hf⟩ := hf
        obtain ⟨rfl, rfl, rfl, rfl, rfl, rfl, rfl, rfl, rfl, rfl, rfl, rfl, rfl, rfl, rfl, rfl⟩ := sm16 hf
        exact r_iret C h hr hlk hb32 dX4_accepts_77
      · replace hf := ifn c3 hf
        by_cases c4 : x_this_expected = (3 : Int32)
        · replace hf := ifp c4 hf
          refine r_tab (tgt := 78) C dX4_accepts_4 (3 : Int32) c4 (by decide) rfl rfl ?_
          refine lv_aload_n hx hb dX4_accepts_78 rfl (lv_at hl 0 rfl) ?_
          replace hf := bd3_inv hf
          obtain ⟨r33, y34, y35, hc36, hf⟩ := hf
          refine r_ciV (ws' := [(h_a0, ob 5 [.ref h_a0_kinds, .ref h_a0_deeds, .ref h_a0_begins, .ref h_a0_steps, .ref h_a0_lefts, .ref h_a0_rights, .ref h_a0_facts, .int x_a0_count, .int x_a0_size]), (h_a0_begins, ia G 9 f_a0_begins), (h_a0_deeds, ia G 8 f_a0_deeds), (h_a0_kinds, ia G 8 f_a0_kinds), (h_a0_lefts, ia G 200 f_a0_lefts), (h_a0_rights, ia G 200 f_a0_rights), (h_a0_steps, ia G 200 f_a0_steps), (h_this, ob 4 [.ref h_this_waiting, .int x_this_waitingCount, .int x_this_open, .int y34, .int x_this_kind, .int x_this_left, .int y35, .int x_this_token, .int x_this_tokenAt, .int x_this_numeral, .int x_this_place]), (h_this_waiting, ia G 200 f_this_waiting)]) C h (c_X4_acceptsSign hc36) mv_X4_98 rfl 7 rfl [7] rfl rfl [7] [(h_this, ob 4 [.ref h_this_waiting, .int x_this_waitingCount, .int x_this_open, .int y34, .int x_this_kind, .int x_this_left, .int y35, .int x_this_token, .int x_this_tokenAt, .int x_this_numeral, .int x_this_place])] rfl rfl (by decide +kernel) rfl hl.1 rfl (Nat.le_of_ble_eq_true rfl) (rok (by decide)) dX4_accepts_79 (fun H locs h => ?_)
          replace hf := chkB_inv hf
          obtain ⟨hb37, hf⟩ := hf
          obtain ⟨rfl, rfl, rfl, rfl, rfl, rfl, rfl, rfl, rfl, rfl, rfl, rfl, rfl, rfl, rfl, rfl⟩ := sm16 hf
          exact r_iret C h hr hlk hb37 dX4_accepts_82
        · replace hf := ifn c4 hf
          by_cases c5 : x_this_expected = (4 : Int32)
          · replace hf := ifp c5 hf
            refine r_tab (tgt := 83) C dX4_accepts_4 (4 : Int32) c5 (by decide) rfl rfl ?_
            refine lv_aload_n hx hb dX4_accepts_83 rfl (lv_at hl 0 rfl) ?_
            refine lv_aload_n hx hb dX4_accepts_84 rfl (lv_at hl 1 rfl) ?_
            replace hf := bd6_inv hf
            obtain ⟨r38, y39, g40, g41, g42, y43, hc44, hf⟩ := hf
            refine r_ciV (ws' := [(h_a0, ob 5 [.ref h_a0_kinds, .ref h_a0_deeds, .ref h_a0_begins, .ref h_a0_steps, .ref h_a0_lefts, .ref h_a0_rights, .ref h_a0_facts, .int x_a0_count, .int y39]), (h_a0_begins, ia G 9 f_a0_begins), (h_a0_deeds, ia G 8 f_a0_deeds), (h_a0_kinds, ia G 8 f_a0_kinds), (h_a0_lefts, ia G 200 g40), (h_a0_rights, ia G 200 g41), (h_a0_steps, ia G 200 g42), (h_this, ob 4 [.ref h_this_waiting, .int x_this_waitingCount, .int x_this_open, .int y43, .int x_this_kind, .int x_this_left, .int x_this_sign, .int x_this_token, .int x_this_tokenAt, .int x_this_numeral, .int x_this_place]), (h_this_waiting, ia G 200 f_this_waiting)]) C h (c_X4_acceptsRight hc44) mv_X4_101 rfl 7 rfl [0, 4, 5, 6, 7] rfl rfl [0, 4, 5, 6, 7] [(h_a0, ob 5 [.ref h_a0_kinds, .ref h_a0_deeds, .ref h_a0_begins, .ref h_a0_steps, .ref h_a0_lefts, .ref h_a0_rights, .ref h_a0_facts, .int x_a0_count, .int y39]), (h_a0_lefts, ia G 200 g40), (h_a0_rights, ia G 200 g41), (h_a0_steps, ia G 200 g42), (h_this, ob 4 [.ref h_this_waiting, .int x_this_waitingCount, .int x_this_open, .int y43, .int x_this_kind, .int x_this_left, .int x_this_sign, .int x_this_token, .int x_this_tokenAt, .int x_this_numeral, .int x_this_place])] rfl rfl (by decide +kernel) rfl hl.1 rfl (Nat.le_of_ble_eq_true rfl) (rok (by decide)) dX4_accepts_85 (fun H locs h => ?_)
            replace hf := chkB_inv hf
            obtain ⟨hb45, hf⟩ := hf
            obtain ⟨rfl, rfl, rfl, rfl, rfl, rfl, rfl, rfl, rfl, rfl, rfl, rfl, rfl, rfl, rfl, rfl⟩ := sm16 hf
            exact r_iret C h hr hlk hb45 dX4_accepts_88
          · replace hf := ifn c5 hf
            by_cases c6 : x_this_expected = (5 : Int32)
            · replace hf := ifp c6 hf
              refine r_tab (tgt := 89) C dX4_accepts_4 (5 : Int32) c6 (by decide) rfl rfl ?_
              refine lv_aload_n hx hb dX4_accepts_89 rfl (lv_at hl 0 rfl) ?_
              refine lv_aload_n hx hb dX4_accepts_90 rfl (lv_at hl 1 rfl) ?_
              replace hf := bd13_inv hf
              obtain ⟨r46, y47, y48, g49, g50, g51, g52, g53, g54, y55, y56, y57, g58, hc59, hf⟩ := hf
              refine r_ciV (ws' := [(h_a0, ob 5 [.ref h_a0_kinds, .ref h_a0_deeds, .ref h_a0_begins, .ref h_a0_steps, .ref h_a0_lefts, .ref h_a0_rights, .ref h_a0_facts, .int y47, .int y48]), (h_a0_begins, ia G 9 g49), (h_a0_deeds, ia G 8 g50), (h_a0_kinds, ia G 8 g51), (h_a0_lefts, ia G 200 g52), (h_a0_rights, ia G 200 g53), (h_a0_steps, ia G 200 g54), (h_this, ob 4 [.ref h_this_waiting, .int y55, .int y56, .int y57, .int x_this_kind, .int x_this_left, .int x_this_sign, .int x_this_token, .int x_this_tokenAt, .int x_this_numeral, .int x_this_place]), (h_this_waiting, ia G 200 g58)]) C h (c_X4_acceptsBehindOne hc59) mv_X4_104 rfl 7 rfl [0, 1, 2, 3, 4, 5, 6, 7, 8] rfl rfl [0, 1, 2, 3, 4, 5, 6, 7, 8] [(h_a0, ob 5 [.ref h_a0_kinds, .ref h_a0_deeds, .ref h_a0_begins, .ref h_a0_steps, .ref h_a0_lefts, .ref h_a0_rights, .ref h_a0_facts, .int y47, .int y48]), (h_a0_begins, ia G 9 g49), (h_a0_deeds, ia G 8 g50), (h_a0_kinds, ia G 8 g51), (h_a0_lefts, ia G 200 g52), (h_a0_rights, ia G 200 g53), (h_a0_steps, ia G 200 g54), (h_this, ob 4 [.ref h_this_waiting, .int y55, .int y56, .int y57, .int x_this_kind, .int x_this_left, .int x_this_sign, .int x_this_token, .int x_this_tokenAt, .int x_this_numeral, .int x_this_place]), (h_this_waiting, ia G 200 g58)] rfl rfl (by decide +kernel) rfl hl.1 rfl (Nat.le_of_ble_eq_true rfl) (rok (by decide)) dX4_accepts_91 (fun H locs h => ?_)
              replace hf := chkB_inv hf
              obtain ⟨hb60, hf⟩ := hf
              obtain ⟨rfl, rfl, rfl, rfl, rfl, rfl, rfl, rfl, rfl, rfl, rfl, rfl, rfl, rfl, rfl, rfl⟩ := sm16 hf
              exact r_iret C h hr hlk hb60 dX4_accepts_94
            · replace hf := ifn c6 hf
              refine r_tabD (tgt := 95) C dX4_accepts_4 [(0 : Int32), (1 : Int32), (2 : Int32), (3 : Int32), (4 : Int32), (5 : Int32)] (by decide) (nel_c c1 (nel_c c2 (nel_c c3 (nel_c c4 (nel_c c5 (nel_c c6 nel_0)))))) rfl ?_
              refine lv_aload_n hx hb dX4_accepts_95 rfl (lv_at hl 0 rfl) ?_
              refine r_get C h fk_X4_34 7 rfl rfl dX4_accepts_96 ?_
              refine lv_sipush (v := (315 : Int32)) hx hb dX4_accepts_99 rfl ?_
              refine lv_icmp_ne (tgt := 117) hx hb dX4_accepts_102 rfl (fun c61 => ?_) (fun c61 => ?_)
              · replace hf := ifn c61 hf
                refine lv_iconst (v := (0 : Int32)) hx hb dX4_accepts_117 rfl ?_
                obtain ⟨rfl, rfl, rfl, rfl, rfl, rfl, rfl, rfl, rfl, rfl, rfl, rfl, rfl, rfl, rfl, rfl⟩ := sm16 hf
                exact r_iret C h hr hlk rfl dX4_accepts_118
              · replace hf := ifp c61 hf
                refine lv_aload_n hx hb dX4_accepts_105 rfl (lv_at hl 0 rfl) ?_
                refine lv_iconst (v := (0 : Int32)) hx hb dX4_accepts_106 rfl ?_
                replace hf := bd2_inv hf
                obtain ⟨r62, y63, hc64, hf⟩ := hf
                refine r_ciV (ws' := [(h_a0, ob 5 [.ref h_a0_kinds, .ref h_a0_deeds, .ref h_a0_begins, .ref h_a0_steps, .ref h_a0_lefts, .ref h_a0_rights, .ref h_a0_facts, .int x_a0_count, .int x_a0_size]), (h_a0_begins, ia G 9 f_a0_begins), (h_a0_deeds, ia G 8 f_a0_deeds), (h_a0_kinds, ia G 8 f_a0_kinds), (h_a0_lefts, ia G 200 f_a0_lefts), (h_a0_rights, ia G 200 f_a0_rights), (h_a0_steps, ia G 200 f_a0_steps), (h_this, ob 4 [.ref h_this_waiting, .int x_this_waitingCount, .int x_this_open, .int y63, .int x_this_kind, .int x_this_left, .int x_this_sign, .int x_this_token, .int x_this_tokenAt, .int x_this_numeral, .int x_this_place]), (h_this_waiting, ia G 200 f_this_waiting)]) C h (c_X4_expect hc64) mv_X4_88 rfl 7 rfl [7] rfl rfl [7] [(h_this, ob 4 [.ref h_this_waiting, .int x_this_waitingCount, .int x_this_open, .int y63, .int x_this_kind, .int x_this_left, .int x_this_sign, .int x_this_token, .int x_this_tokenAt, .int x_this_numeral, .int x_this_place])] rfl rfl (by decide +kernel) rfl hl.1 rfl (Nat.le_of_ble_eq_true rfl) (rok (by decide)) dX4_accepts_107 (fun H locs h => ?_)
                refine lv_if_eq (tgt := 117) hx hb dX4_accepts_110 rfl (fun c65 => ?_) (fun c65 => ?_)
                · replace hf := ifp c65 hf
                  refine lv_iconst (v := (0 : Int32)) hx hb dX4_accepts_117 rfl ?_
                  obtain ⟨rfl, rfl, rfl, rfl, rfl, rfl, rfl, rfl, rfl, rfl, rfl, rfl, rfl, rfl, rfl, rfl⟩ := sm16 hf
                  exact r_iret C h hr hlk rfl dX4_accepts_118
                · replace hf := ifn c65 hf
                  refine lv_iconst (v := (1 : Int32)) hx hb dX4_accepts_113 rfl ?_
                  refine lv_goto (tgt := 118) hx hb dX4_accepts_114 rfl ?_
                  obtain ⟨rfl, rfl, rfl, rfl, rfl, rfl, rfl, rfl, rfl, rfl, rfl, rfl, rfl, rfl, rfl, rfl⟩ := sm16 hf
                  exact r_iret C h hr hlk rfl dX4_accepts_118
set_option maxRecDepth 100000 in
set_option maxHeartbeats 4000000 in
theorem c_X4_read {l : Launch} {G : Gt} {h_a0 h_a2 h_a2_kinds h_a2_deeds h_a2_begins h_a2_steps h_a2_lefts h_a2_rights h_a2_facts h_this h_this_waiting : Nat} {p1 : Int32} {n_a0 : Nat} {f_a0 : Nat → Int32} {x_a2_count : Int32} {x_a2_size : Int32} {f_a2_begins : Nat → Int32} {f_a2_deeds : Nat → Int32} {f_a2_kinds : Nat → Int32} {f_a2_lefts : Nat → Int32} {f_a2_rights : Nat → Int32} {f_a2_steps : Nat → Int32} {x_this_waitingCount : Int32} {x_this_open : Int32} {x_this_expected : Int32} {x_this_kind : Int32} {x_this_left : Int32} {x_this_sign : Int32} {x_this_token : Int32} {x_this_tokenAt : Int32} {x_this_numeral : Int32} {x_this_place : Int32} {f_this_waiting : Nat → Int32} {r : Int32} {m_a2_count : Int32} {m_a2_size : Int32} {m_a2_begins : Nat → Int32} {m_a2_deeds : Nat → Int32} {m_a2_kinds : Nat → Int32} {m_a2_lefts : Nat → Int32} {m_a2_rights : Nat → Int32} {m_a2_steps : Nat → Int32} {m_this_waitingCount : Int32} {m_this_open : Int32} {m_this_expected : Int32} {m_this_kind : Int32} {m_this_left : Int32} {m_this_sign : Int32} {m_this_token : Int32} {m_this_tokenAt : Int32} {m_this_numeral : Int32} {m_this_place : Int32} {m_this_waiting : Nat → Int32} (hf : f_X4_read p1 n_a0 f_a0 f_a2_begins f_a2_deeds f_a2_kinds f_a2_lefts f_a2_rights f_a2_steps x_this_kind x_this_left x_this_sign x_this_token x_this_tokenAt x_this_numeral f_this_waiting = some (r, m_a2_count, m_a2_size, m_a2_begins, m_a2_deeds, m_a2_kinds, m_a2_lefts, m_a2_rights, m_a2_steps, m_this_waitingCount, m_this_open, m_this_expected, m_this_kind, m_this_left, m_this_sign, m_this_token, m_this_tokenAt, m_this_numeral, m_this_place, m_this_waiting)) : mFi l G yX4_read cX4_read 5 .int 11 [.ref h_this, .ref h_a0, .int p1, .ref h_a2] [(h_a0, ia G n_a0 f_a0), (h_a2, ob 5 [.ref h_a2_kinds, .ref h_a2_deeds, .ref h_a2_begins, .ref h_a2_steps, .ref h_a2_lefts, .ref h_a2_rights, .ref h_a2_facts, .int x_a2_count, .int x_a2_size]), (h_a2_begins, ia G 9 f_a2_begins), (h_a2_deeds, ia G 8 f_a2_deeds), (h_a2_kinds, ia G 8 f_a2_kinds), (h_a2_lefts, ia G 200 f_a2_lefts), (h_a2_rights, ia G 200 f_a2_rights), (h_a2_steps, ia G 200 f_a2_steps), (h_this, ob 4 [.ref h_this_waiting, .int x_this_waitingCount, .int x_this_open, .int x_this_expected, .int x_this_kind, .int x_this_left, .int x_this_sign, .int x_this_token, .int x_this_tokenAt, .int x_this_numeral, .int x_this_place]), (h_this_waiting, ia G 200 f_this_waiting)] r [(h_a0, ia G n_a0 f_a0), (h_a2, ob 5 [.ref h_a2_kinds, .ref h_a2_deeds, .ref h_a2_begins, .ref h_a2_steps, .ref h_a2_lefts, .ref h_a2_rights, .ref h_a2_facts, .int m_a2_count, .int m_a2_size]), (h_a2_begins, ia G 9 m_a2_begins), (h_a2_deeds, ia G 8 m_a2_deeds), (h_a2_kinds, ia G 8 m_a2_kinds), (h_a2_lefts, ia G 200 m_a2_lefts), (h_a2_rights, ia G 200 m_a2_rights), (h_a2_steps, ia G 200 m_a2_steps), (h_this, ob 4 [.ref h_this_waiting, .int m_this_waitingCount, .int m_this_open, .int m_this_expected, .int m_this_kind, .int m_this_left, .int m_this_sign, .int m_this_token, .int m_this_tokenAt, .int m_this_numeral, .int m_this_place]), (h_this_waiting, ia G 200 m_this_waiting)] := by
  refine mFi.of (by decide +kernel) (Nat.le_of_ble_eq_true rfl) ?_
  intro p e s m below meth c A C hr hlk h ls hl
  obtain ⟨hx, hb, hml, hown, hts⟩ := id C
  replace hl : lv_has ls 5 [(0, .ref h_this), (1, .ref h_a0), (2, .int p1), (3, .ref h_a2)] := hl
  unfold f_X4_read at hf
  refine with_K G A 5 (fun K hK1 hK2 => ?_)
  have L27 : ∀ (n : Nat) (v4 : Int32) (y_a2_count : Int32) (y_a2_size : Int32) (g_a2_begins : Nat → Int32) (g_a2_deeds : Nat → Int32) (g_a2_kinds : Nat → Int32) (g_a2_lefts : Nat → Int32) (g_a2_rights : Nat → Int32) (g_a2_steps : Nat → Int32) (y_this_waitingCount : Int32) (y_this_open : Int32) (y_this_expected : Int32) (y_this_kind : Int32) (y_this_left : Int32) (y_this_sign : Int32) (y_this_token : Int32) (y_this_tokenAt : Int32) (y_this_numeral : Int32) (y_this_place : Int32) (g_this_waiting : Nat → Int32), f_X4_read_L27 p1 n_a0 f_a0 n v4 y_a2_count y_a2_size g_a2_begins g_a2_deeds g_a2_kinds g_a2_lefts g_a2_rights g_a2_steps y_this_waitingCount y_this_open y_this_expected y_this_kind y_this_left y_this_sign y_this_token y_this_tokenAt y_this_numeral y_this_place g_this_waiting = some (r, m_a2_count, m_a2_size, m_a2_begins, m_a2_deeds, m_a2_kinds, m_a2_lefts, m_a2_rights, m_a2_steps, m_this_waitingCount, m_this_open, m_this_expected, m_this_kind, m_this_left, m_this_sign, m_this_token, m_this_tokenAt, m_this_numeral, m_this_place, m_this_waiting) → K 27 ([] : List Value) [(h_a0, ia G n_a0 f_a0), (h_a2, ob 5 [.ref h_a2_kinds, .ref h_a2_deeds, .ref h_a2_begins, .ref h_a2_steps, .ref h_a2_lefts, .ref h_a2_rights, .ref h_a2_facts, .int y_a2_count, .int y_a2_size]), (h_a2_begins, ia G 9 g_a2_begins), (h_a2_deeds, ia G 8 g_a2_deeds), (h_a2_kinds, ia G 8 g_a2_kinds), (h_a2_lefts, ia G 200 g_a2_lefts), (h_a2_rights, ia G 200 g_a2_rights), (h_a2_steps, ia G 200 g_a2_steps), (h_this, ob 4 [.ref h_this_waiting, .int y_this_waitingCount, .int y_this_open, .int y_this_expected, .int y_this_kind, .int y_this_left, .int y_this_sign, .int y_this_token, .int y_this_tokenAt, .int y_this_numeral, .int y_this_place]), (h_this_waiting, ia G 200 g_this_waiting)] [(0, .ref h_this), (1, .ref h_a0), (2, .int p1), (3, .ref h_a2), (4, .int v4)] := by
    intro n
    induction n with
    | zero =>
      intro v4 y_a2_count y_a2_size g_a2_begins g_a2_deeds g_a2_kinds g_a2_lefts g_a2_rights g_a2_steps y_this_waitingCount y_this_open y_this_expected y_this_kind y_this_left y_this_sign y_this_token y_this_tokenAt y_this_numeral y_this_place g_this_waiting hf
      replace hf : (none : Option _) = some _ := hf
      cases hf
    | succ n ih =>
      intro v4 y_a2_count y_a2_size g_a2_begins g_a2_deeds g_a2_kinds g_a2_lefts g_a2_rights g_a2_steps y_this_waitingCount y_this_open y_this_expected y_this_kind y_this_left y_this_sign y_this_token y_this_tokenAt y_this_numeral y_this_place g_this_waiting hf
      rw [f_X4_read_L27] at hf
      refine hK1 _ _ _ _ (fun H locs ls h hl => ?_)
      refine lv_iload hx hb dX4_read_27 (lv_at hl 4 rfl) ?_
      refine lv_iload_n hx hb dX4_read_29 rfl (lv_at hl 2 rfl) ?_
      refine lv_icmp_gt (tgt := 80) hx hb dX4_read_30 rfl (fun c4 => ?_) (fun c4 => ?_)
      · replace hf := ifp c4 hf
        refine lv_iconst (v := (-1 : Int32)) hx hb dX4_read_80 rfl ?_
        obtain ⟨rfl, rfl, rfl, rfl, rfl, rfl, rfl, rfl, rfl, rfl, rfl, rfl, rfl, rfl, rfl, rfl, rfl, rfl, rfl, rfl⟩ := sm20 hf
        exact r_iret C h hr hlk rfl dX4_read_81
      · replace hf := ifn c4 hf
        refine lv_aload_n hx hb dX4_read_33 rfl (lv_at hl 0 rfl) ?_
        refine lv_aload_n hx hb dX4_read_34 rfl (lv_at hl 1 rfl) ?_
        refine lv_iload_n hx hb dX4_read_35 rfl (lv_at hl 2 rfl) ?_
        replace hf := bd4_inv hf
        obtain ⟨y5, y6, y7, y8, hc9, hf⟩ := hf
        refine r_cvV (ws' := [(h_a0, ia G n_a0 f_a0), (h_a2, ob 5 [.ref h_a2_kinds, .ref h_a2_deeds, .ref h_a2_begins, .ref h_a2_steps, .ref h_a2_lefts, .ref h_a2_rights, .ref h_a2_facts, .int y_a2_count, .int y_a2_size]), (h_a2_begins, ia G 9 g_a2_begins), (h_a2_deeds, ia G 8 g_a2_deeds), (h_a2_kinds, ia G 8 g_a2_kinds), (h_a2_lefts, ia G 200 g_a2_lefts), (h_a2_rights, ia G 200 g_a2_rights), (h_a2_steps, ia G 200 g_a2_steps), (h_this, ob 4 [.ref h_this_waiting, .int y_this_waitingCount, .int y_this_open, .int y_this_expected, .int y_this_kind, .int y_this_left, .int y_this_sign, .int y5, .int y6, .int y7, .int y8]), (h_this_waiting, ia G 200 g_this_waiting)]) C h (c_X4_advance hc9) mv_X4_51 rfl 8 rfl [0, 8] rfl rfl [8] [(h_this, ob 4 [.ref h_this_waiting, .int y_this_waitingCount, .int y_this_open, .int y_this_expected, .int y_this_kind, .int y_this_left, .int y_this_sign, .int y5, .int y6, .int y7, .int y8])] rfl rfl (by decide +kernel) rfl hl.1 rfl (Nat.le_of_ble_eq_true rfl) (rok (by decide)) dX4_read_36 (fun H locs h => ?_)
        refine lv_aload_n hx hb dX4_read_39 rfl (lv_at hl 0 rfl) ?_
        refine r_get C h fk_X4_34 8 rfl rfl dX4_read_40 ?_
        refine lv_bipush (v := (19 : Int32)) hx hb dX4_read_43 rfl ?_
        refine lv_icmp_ne (tgt := 61) hx hb dX4_read_45 rfl (fun c10 => ?_) (fun c10 => ?_)
        · replace hf := ifn c10 hf
          refine lv_aload_n hx hb dX4_read_61 rfl (lv_at hl 0 rfl) ?_
          refine lv_aload_n hx hb dX4_read_62 rfl (lv_at hl 3 rfl) ?_
          replace hf := bd16_inv hf
          obtain ⟨r11, y12, y13, g14, g15, g16, g17, g18, g19, y20, y21, y22, y23, y24, y25, g26, hc27, hf⟩ := hf
          refine r_ciV (ws' := [(h_a0, ia G n_a0 f_a0), (h_a2, ob 5 [.ref h_a2_kinds, .ref h_a2_deeds, .ref h_a2_begins, .ref h_a2_steps, .ref h_a2_lefts, .ref h_a2_rights, .ref h_a2_facts, .int y12, .int y13]), (h_a2_begins, ia G 9 g14), (h_a2_deeds, ia G 8 g15), (h_a2_kinds, ia G 8 g16), (h_a2_lefts, ia G 200 g17), (h_a2_rights, ia G 200 g18), (h_a2_steps, ia G 200 g19), (h_this, ob 4 [.ref h_this_waiting, .int y20, .int y21, .int y22, .int y23, .int y24, .int y25, .int y5, .int y6, .int y7, .int y8]), (h_this_waiting, ia G 200 g26)]) C h (c_X4_accepts hc27) mv_X4_55 rfl 8 rfl [1, 2, 3, 4, 5, 6, 7, 8, 9] rfl rfl [1, 2, 3, 4, 5, 6, 7, 8, 9] [(h_a2, ob 5 [.ref h_a2_kinds, .ref h_a2_deeds, .ref h_a2_begins, .ref h_a2_steps, .ref h_a2_lefts, .ref h_a2_rights, .ref h_a2_facts, .int y12, .int y13]), (h_a2_begins, ia G 9 g14), (h_a2_deeds, ia G 8 g15), (h_a2_kinds, ia G 8 g16), (h_a2_lefts, ia G 200 g17), (h_a2_rights, ia G 200 g18), (h_a2_steps, ia G 200 g19), (h_this, ob 4 [.ref h_this_waiting, .int y20, .int y21, .int y22, .int y23, .int y24, .int y25, .int y5, .int y6, .int y7, .int y8]), (h_this_waiting, ia G 200 g26)] rfl rfl (by decide +kernel) rfl hl.1 rfl (Nat.le_of_ble_eq_true rfl) (rok (by decide)) dX4_read_63 (fun H locs h => ?_)
          refine lv_if_ne (tgt := 74) hx hb dX4_read_66 rfl (fun c28 => ?_) (fun c28 => ?_)
          · replace hf := ifn c28 hf
            obtain ⟨t29, et29⟩ : ∃ y : Int32, y = v4 + (1 : Int32) := ⟨_, rfl⟩
            replace hf := lt1_inv et29 hf
            refine lv_iinc (v := t29) (lv' := [(4, .int t29), (0, .ref h_this), (1, .ref h_a0), (2, .int p1), (3, .ref h_a2)]) hx hb dX4_read_74 hl (k := 4) rfl (by rw [et29]; rfl) (by decide) rfl (fun ls hl => ?_)
            refine lv_goto (tgt := 27) hx hb dX4_read_77 rfl ?_
            exact hK2 _ _ _ _ (ih t29 y12 y13 g14 g15 g16 g17 g18 g19 y20 y21 y22 y23 y24 y25 y5 y6 y7 y8 g26 hf) _ _ _ h (lv_sub hl [1, 2, 3, 4, 0] rfl)
          · replace hf := ifp c28 hf
            refine lv_aload_n hx hb dX4_read_69 rfl (lv_at hl 0 rfl) ?_
            refine r_get C h fk_X4_37 8 rfl rfl dX4_read_70 ?_
            obtain ⟨rfl, rfl, rfl, rfl, rfl, rfl, rfl, rfl, rfl, rfl, rfl, rfl, rfl, rfl, rfl, rfl, rfl, rfl, rfl, rfl⟩ := sm20 hf
            exact r_iret C h hr hlk rfl dX4_read_73
        · replace hf := ifp c10 hf
          refine lv_aload_n hx hb dX4_read_48 rfl (lv_at hl 0 rfl) ?_
          refine r_get C h fk_X4_22 8 rfl rfl dX4_read_49 ?_
          refine lv_if_ne (tgt := 59) hx hb dX4_read_52 rfl (fun c30 => ?_) (fun c30 => ?_)
          · replace hf := ifn c30 hf
            refine lv_iload_n hx hb dX4_read_59 rfl (lv_at hl 2 rfl) ?_
            obtain ⟨rfl, rfl, rfl, rfl, rfl, rfl, rfl, rfl, rfl, rfl, rfl, rfl, rfl, rfl, rfl, rfl, rfl, rfl, rfl, rfl⟩ := sm20 hf
            exact r_iret C h hr hlk rfl dX4_read_60
          · replace hf := ifp c30 hf
            refine lv_iconst (v := (-1 : Int32)) hx hb dX4_read_55 rfl ?_
            refine lv_goto (tgt := 60) hx hb dX4_read_56 rfl ?_
            obtain ⟨rfl, rfl, rfl, rfl, rfl, rfl, rfl, rfl, rfl, rfl, rfl, rfl, rfl, rfl, rfl, rfl, rfl, rfl, rfl, rfl⟩ := sm20 hf
            exact r_iret C h hr hlk rfl dX4_read_60
  refine lv_aload_n hx hb dX4_read_0 rfl (lv_at hl 3 rfl) ?_
  replace hf := bd2_inv hf
  obtain ⟨y1, y2, hc3, hf⟩ := hf
  refine r_cvV (ws' := [(h_a0, ia G n_a0 f_a0), (h_a2, ob 5 [.ref h_a2_kinds, .ref h_a2_deeds, .ref h_a2_begins, .ref h_a2_steps, .ref h_a2_lefts, .ref h_a2_rights, .ref h_a2_facts, .int y1, .int y2]), (h_a2_begins, ia G 9 f_a2_begins), (h_a2_deeds, ia G 8 f_a2_deeds), (h_a2_kinds, ia G 8 f_a2_kinds), (h_a2_lefts, ia G 200 f_a2_lefts), (h_a2_rights, ia G 200 f_a2_rights), (h_a2_steps, ia G 200 f_a2_steps), (h_this, ob 4 [.ref h_this_waiting, .int x_this_waitingCount, .int x_this_open, .int x_this_expected, .int x_this_kind, .int x_this_left, .int x_this_sign, .int x_this_token, .int x_this_tokenAt, .int x_this_numeral, .int x_this_place]), (h_this_waiting, ia G 200 f_this_waiting)]) C h (c_X5_clear hc3) mv_X4_46 rfl 1 rfl [1] rfl rfl [1] [(h_a2, ob 5 [.ref h_a2_kinds, .ref h_a2_deeds, .ref h_a2_begins, .ref h_a2_steps, .ref h_a2_lefts, .ref h_a2_rights, .ref h_a2_facts, .int y1, .int y2])] rfl rfl (by decide +kernel) rfl hl.1 rfl (Nat.le_of_ble_eq_true rfl) (rok (by decide)) dX4_read_1 (fun H locs h => ?_)
  refine lv_aload_n hx hb dX4_read_4 rfl (lv_at hl 0 rfl) ?_
  refine lv_iconst (v := (0 : Int32)) hx hb dX4_read_5 rfl ?_
  refine r_put (ws' := [(h_a0, ia G n_a0 f_a0), (h_a2, ob 5 [.ref h_a2_kinds, .ref h_a2_deeds, .ref h_a2_begins, .ref h_a2_steps, .ref h_a2_lefts, .ref h_a2_rights, .ref h_a2_facts, .int y1, .int y2]), (h_a2_begins, ia G 9 f_a2_begins), (h_a2_deeds, ia G 8 f_a2_deeds), (h_a2_kinds, ia G 8 f_a2_kinds), (h_a2_lefts, ia G 200 f_a2_lefts), (h_a2_rights, ia G 200 f_a2_rights), (h_a2_steps, ia G 200 f_a2_steps), (h_this, ob 4 [.ref h_this_waiting, .int (0 : Int32), .int x_this_open, .int x_this_expected, .int x_this_kind, .int x_this_left, .int x_this_sign, .int x_this_token, .int x_this_tokenAt, .int x_this_numeral, .int x_this_place]), (h_this_waiting, ia G 200 f_this_waiting)]) C h fw_X4_15 8 rfl rfl rfl (Nat.le_of_ble_eq_true rfl) dX4_read_6 rfl (fun H locs h => ?_)
  refine lv_aload_n hx hb dX4_read_9 rfl (lv_at hl 0 rfl) ?_
  refine lv_iconst (v := (0 : Int32)) hx hb dX4_read_10 rfl ?_
  refine r_put (ws' := [(h_a0, ia G n_a0 f_a0), (h_a2, ob 5 [.ref h_a2_kinds, .ref h_a2_deeds, .ref h_a2_begins, .ref h_a2_steps, .ref h_a2_lefts, .ref h_a2_rights, .ref h_a2_facts, .int y1, .int y2]), (h_a2_begins, ia G 9 f_a2_begins), (h_a2_deeds, ia G 8 f_a2_deeds), (h_a2_kinds, ia G 8 f_a2_kinds), (h_a2_lefts, ia G 200 f_a2_lefts), (h_a2_rights, ia G 200 f_a2_rights), (h_a2_steps, ia G 200 f_a2_steps), (h_this, ob 4 [.ref h_this_waiting, .int (0 : Int32), .int (0 : Int32), .int x_this_expected, .int x_this_kind, .int x_this_left, .int x_this_sign, .int x_this_token, .int x_this_tokenAt, .int x_this_numeral, .int x_this_place]), (h_this_waiting, ia G 200 f_this_waiting)]) C h fw_X4_19 8 rfl rfl rfl (Nat.le_of_ble_eq_true rfl) dX4_read_11 rfl (fun H locs h => ?_)
  refine lv_aload_n hx hb dX4_read_14 rfl (lv_at hl 0 rfl) ?_
  refine lv_iconst (v := (0 : Int32)) hx hb dX4_read_15 rfl ?_
  refine r_put (ws' := [(h_a0, ia G n_a0 f_a0), (h_a2, ob 5 [.ref h_a2_kinds, .ref h_a2_deeds, .ref h_a2_begins, .ref h_a2_steps, .ref h_a2_lefts, .ref h_a2_rights, .ref h_a2_facts, .int y1, .int y2]), (h_a2_begins, ia G 9 f_a2_begins), (h_a2_deeds, ia G 8 f_a2_deeds), (h_a2_kinds, ia G 8 f_a2_kinds), (h_a2_lefts, ia G 200 f_a2_lefts), (h_a2_rights, ia G 200 f_a2_rights), (h_a2_steps, ia G 200 f_a2_steps), (h_this, ob 4 [.ref h_this_waiting, .int (0 : Int32), .int (0 : Int32), .int x_this_expected, .int x_this_kind, .int x_this_left, .int x_this_sign, .int x_this_token, .int x_this_tokenAt, .int x_this_numeral, .int (0 : Int32)]), (h_this_waiting, ia G 200 f_this_waiting)]) C h fw_X4_43 8 rfl rfl rfl (Nat.le_of_ble_eq_true rfl) dX4_read_16 rfl (fun H locs h => ?_)
  refine lv_aload_n hx hb dX4_read_19 rfl (lv_at hl 0 rfl) ?_
  refine lv_iconst (v := (0 : Int32)) hx hb dX4_read_20 rfl ?_
  refine r_put (ws' := [(h_a0, ia G n_a0 f_a0), (h_a2, ob 5 [.ref h_a2_kinds, .ref h_a2_deeds, .ref h_a2_begins, .ref h_a2_steps, .ref h_a2_lefts, .ref h_a2_rights, .ref h_a2_facts, .int y1, .int y2]), (h_a2_begins, ia G 9 f_a2_begins), (h_a2_deeds, ia G 8 f_a2_deeds), (h_a2_kinds, ia G 8 f_a2_kinds), (h_a2_lefts, ia G 200 f_a2_lefts), (h_a2_rights, ia G 200 f_a2_rights), (h_a2_steps, ia G 200 f_a2_steps), (h_this, ob 4 [.ref h_this_waiting, .int (0 : Int32), .int (0 : Int32), .int (0 : Int32), .int x_this_kind, .int x_this_left, .int x_this_sign, .int x_this_token, .int x_this_tokenAt, .int x_this_numeral, .int (0 : Int32)]), (h_this_waiting, ia G 200 f_this_waiting)]) C h fw_X4_22 8 rfl rfl rfl (Nat.le_of_ble_eq_true rfl) dX4_read_21 rfl (fun H locs h => ?_)
  refine lv_iconst (v := (0 : Int32)) hx hb dX4_read_24 rfl ?_
  refine lv_istore (lv' := [(4, .int (0 : Int32)), (0, .ref h_this), (1, .ref h_a0), (2, .int p1), (3, .ref h_a2)]) hx hb dX4_read_25 hl (by decide) rfl (fun ls hl => ?_)
  exact hK2 _ _ _ _ (L27 1000 (0 : Int32) y1 y2 f_a2_begins f_a2_deeds f_a2_kinds f_a2_lefts f_a2_rights f_a2_steps (0 : Int32) (0 : Int32) (0 : Int32) x_this_kind x_this_left x_this_sign x_this_token x_this_tokenAt x_this_numeral (0 : Int32) f_this_waiting hf) _ _ _ h (lv_sub hl [1, 2, 3, 4, 0] rfl)
set_option maxRecDepth 100000 in
set_option maxHeartbeats 4000000 in
theorem c_X5_become {l : Launch} {G : Gt} {h_a0 h_a0_kinds h_a0_deeds h_a0_begins h_a0_steps h_a0_lefts h_a0_rights h_a0_facts h_this h_this_kinds h_this_deeds h_this_begins h_this_steps h_this_lefts h_this_rights h_this_facts : Nat} {x_a0_count : Int32} {x_a0_size : Int32} {f_a0_begins : Nat → Int32} {f_a0_deeds : Nat → Int32} {f_a0_kinds : Nat → Int32} {f_a0_lefts : Nat → Int32} {f_a0_rights : Nat → Int32} {f_a0_steps : Nat → Int32} {x_this_count : Int32} {x_this_size : Int32} {f_this_begins : Nat → Int32} {f_this_deeds : Nat → Int32} {f_this_kinds : Nat → Int32} {f_this_lefts : Nat → Int32} {f_this_rights : Nat → Int32} {f_this_steps : Nat → Int32} {m_this_count : Int32} {m_this_size : Int32} {m_this_begins : Nat → Int32} {m_this_deeds : Nat → Int32} {m_this_kinds : Nat → Int32} {m_this_lefts : Nat → Int32} {m_this_rights : Nat → Int32} {m_this_steps : Nat → Int32} (hf : f_X5_become x_a0_count x_a0_size f_a0_begins f_a0_deeds f_a0_kinds f_a0_lefts f_a0_rights f_a0_steps f_this_begins f_this_deeds f_this_kinds f_this_lefts f_this_rights f_this_steps = some (m_this_count, m_this_size, m_this_begins, m_this_deeds, m_this_kinds, m_this_lefts, m_this_rights, m_this_steps)) : mFv l G yX5_become cX5_become 2 1 [.ref h_this, .ref h_a0] [(h_a0, ob 5 [.ref h_a0_kinds, .ref h_a0_deeds, .ref h_a0_begins, .ref h_a0_steps, .ref h_a0_lefts, .ref h_a0_rights, .ref h_a0_facts, .int x_a0_count, .int x_a0_size]), (h_a0_begins, ia G 9 f_a0_begins), (h_a0_deeds, ia G 8 f_a0_deeds), (h_a0_kinds, ia G 8 f_a0_kinds), (h_a0_lefts, ia G 200 f_a0_lefts), (h_a0_rights, ia G 200 f_a0_rights), (h_a0_steps, ia G 200 f_a0_steps), (h_this, ob 5 [.ref h_this_kinds, .ref h_this_deeds, .ref h_this_begins, .ref h_this_steps, .ref h_this_lefts, .ref h_this_rights, .ref h_this_facts, .int x_this_count, .int x_this_size]), (h_this_begins, ia G 9 f_this_begins), (h_this_deeds, ia G 8 f_this_deeds), (h_this_kinds, ia G 8 f_this_kinds), (h_this_lefts, ia G 200 f_this_lefts), (h_this_rights, ia G 200 f_this_rights), (h_this_steps, ia G 200 f_this_steps)] [(h_a0, ob 5 [.ref h_a0_kinds, .ref h_a0_deeds, .ref h_a0_begins, .ref h_a0_steps, .ref h_a0_lefts, .ref h_a0_rights, .ref h_a0_facts, .int x_a0_count, .int x_a0_size]), (h_a0_begins, ia G 9 f_a0_begins), (h_a0_deeds, ia G 8 f_a0_deeds), (h_a0_kinds, ia G 8 f_a0_kinds), (h_a0_lefts, ia G 200 f_a0_lefts), (h_a0_rights, ia G 200 f_a0_rights), (h_a0_steps, ia G 200 f_a0_steps), (h_this, ob 5 [.ref h_this_kinds, .ref h_this_deeds, .ref h_this_begins, .ref h_this_steps, .ref h_this_lefts, .ref h_this_rights, .ref h_this_facts, .int m_this_count, .int m_this_size]), (h_this_begins, ia G 9 m_this_begins), (h_this_deeds, ia G 8 m_this_deeds), (h_this_kinds, ia G 8 m_this_kinds), (h_this_lefts, ia G 200 m_this_lefts), (h_this_rights, ia G 200 m_this_rights), (h_this_steps, ia G 200 m_this_steps)] := by
  refine mFv.of (by decide +kernel) (Nat.le_of_ble_eq_true rfl) ?_
  intro p e s m below meth c A C hr hlk h ls hl
  obtain ⟨hx, hb, hml, hown, hts⟩ := id C
  replace hl : lv_has ls 2 [(0, .ref h_this), (1, .ref h_a0)] := hl
  unfold f_X5_become at hf
  refine lv_aload_n hx hb dX5_become_0 rfl (lv_at hl 1 rfl) ?_
  refine r_get C h fk_X5_9 0 rfl rfl dX5_become_1 ?_
  refine lv_iconst (v := (0 : Int32)) hx hb dX5_become_4 rfl ?_
  refine lv_aload_n hx hb dX5_become_5 rfl (lv_at hl 0 rfl) ?_
  refine r_get C h fk_X5_9 7 rfl rfl dX5_become_6 ?_
  refine lv_iconst (v := (0 : Int32)) hx hb dX5_become_9 rfl ?_
  refine lv_bipush (v := (8 : Int32)) hx hb dX5_become_10 rfl ?_
  replace hf := chkC_inv hf
  obtain ⟨ha1, hf⟩ := hf
  refine r_copy (ws' := [(h_a0, ob 5 [.ref h_a0_kinds, .ref h_a0_deeds, .ref h_a0_begins, .ref h_a0_steps, .ref h_a0_lefts, .ref h_a0_rights, .ref h_a0_facts, .int x_a0_count, .int x_a0_size]), (h_a0_begins, ia G 9 f_a0_begins), (h_a0_deeds, ia G 8 f_a0_deeds), (h_a0_kinds, ia G 8 f_a0_kinds), (h_a0_lefts, ia G 200 f_a0_lefts), (h_a0_rights, ia G 200 f_a0_rights), (h_a0_steps, ia G 200 f_a0_steps), (h_this, ob 5 [.ref h_this_kinds, .ref h_this_deeds, .ref h_this_begins, .ref h_this_steps, .ref h_this_lefts, .ref h_this_rights, .ref h_this_facts, .int x_this_count, .int x_this_size]), (h_this_begins, ia G 9 f_this_begins), (h_this_deeds, ia G 8 f_this_deeds), (h_this_kinds, ia G 8 (va_cpy f_a0_kinds f_this_kinds (0 : Int32).toNatClampNeg (0 : Int32).toNatClampNeg (8 : Int32).toNatClampNeg)), (h_this_lefts, ia G 200 f_this_lefts), (h_this_rights, ia G 200 f_this_rights), (h_this_steps, ia G 200 f_this_steps)]) C h ac_X5_40 3 10 rfl rfl ha1 hl.1 (Nat.le_of_ble_eq_true rfl) (Nat.le_of_ble_eq_true rfl) dX5_become_12 rfl (fun H locs h => ?_)
  refine lv_aload_n hx hb dX5_become_15 rfl (lv_at hl 1 rfl) ?_
  refine r_get C h fk_X5_15 0 rfl rfl dX5_become_16 ?_
  refine lv_iconst (v := (0 : Int32)) hx hb dX5_become_19 rfl ?_
  refine lv_aload_n hx hb dX5_become_20 rfl (lv_at hl 0 rfl) ?_
  refine r_get C h fk_X5_15 7 rfl rfl dX5_become_21 ?_
  refine lv_iconst (v := (0 : Int32)) hx hb dX5_become_24 rfl ?_
  refine lv_bipush (v := (8 : Int32)) hx hb dX5_become_25 rfl ?_
  replace hf := chkC_inv hf
  obtain ⟨ha2, hf⟩ := hf
  refine r_copy (ws' := [(h_a0, ob 5 [.ref h_a0_kinds, .ref h_a0_deeds, .ref h_a0_begins, .ref h_a0_steps, .ref h_a0_lefts, .ref h_a0_rights, .ref h_a0_facts, .int x_a0_count, .int x_a0_size]), (h_a0_begins, ia G 9 f_a0_begins), (h_a0_deeds, ia G 8 f_a0_deeds), (h_a0_kinds, ia G 8 f_a0_kinds), (h_a0_lefts, ia G 200 f_a0_lefts), (h_a0_rights, ia G 200 f_a0_rights), (h_a0_steps, ia G 200 f_a0_steps), (h_this, ob 5 [.ref h_this_kinds, .ref h_this_deeds, .ref h_this_begins, .ref h_this_steps, .ref h_this_lefts, .ref h_this_rights, .ref h_this_facts, .int x_this_count, .int x_this_size]), (h_this_begins, ia G 9 f_this_begins), (h_this_deeds, ia G 8 (va_cpy f_a0_deeds f_this_deeds (0 : Int32).toNatClampNeg (0 : Int32).toNatClampNeg (8 : Int32).toNatClampNeg)), (h_this_kinds, ia G 8 (va_cpy f_a0_kinds f_this_kinds (0 : Int32).toNatClampNeg (0 : Int32).toNatClampNeg (8 : Int32).toNatClampNeg)), (h_this_lefts, ia G 200 f_this_lefts), (h_this_rights, ia G 200 f_this_rights), (h_this_steps, ia G 200 f_this_steps)]) C h ac_X5_40 2 9 rfl rfl ha2 hl.1 (Nat.le_of_ble_eq_true rfl) (Nat.le_of_ble_eq_true rfl) dX5_become_27 rfl (fun H locs h => ?_)
  refine lv_aload_n hx hb dX5_become_30 rfl (lv_at hl 1 rfl) ?_
  refine r_get C h fk_X5_18 0 rfl rfl dX5_become_31 ?_
  refine lv_iconst (v := (0 : Int32)) hx hb dX5_become_34 rfl ?_
  refine lv_aload_n hx hb dX5_become_35 rfl (lv_at hl 0 rfl) ?_
  refine r_get C h fk_X5_18 7 rfl rfl dX5_become_36 ?_
  refine lv_iconst (v := (0 : Int32)) hx hb dX5_become_39 rfl ?_
  refine lv_bipush (v := (9 : Int32)) hx hb dX5_become_40 rfl ?_
  replace hf := chkC_inv hf
  obtain ⟨ha3, hf⟩ := hf
  refine r_copy (ws' := [(h_a0, ob 5 [.ref h_a0_kinds, .ref h_a0_deeds, .ref h_a0_begins, .ref h_a0_steps, .ref h_a0_lefts, .ref h_a0_rights, .ref h_a0_facts, .int x_a0_count, .int x_a0_size]), (h_a0_begins, ia G 9 f_a0_begins), (h_a0_deeds, ia G 8 f_a0_deeds), (h_a0_kinds, ia G 8 f_a0_kinds), (h_a0_lefts, ia G 200 f_a0_lefts), (h_a0_rights, ia G 200 f_a0_rights), (h_a0_steps, ia G 200 f_a0_steps), (h_this, ob 5 [.ref h_this_kinds, .ref h_this_deeds, .ref h_this_begins, .ref h_this_steps, .ref h_this_lefts, .ref h_this_rights, .ref h_this_facts, .int x_this_count, .int x_this_size]), (h_this_begins, ia G 9 (va_cpy f_a0_begins f_this_begins (0 : Int32).toNatClampNeg (0 : Int32).toNatClampNeg (9 : Int32).toNatClampNeg)), (h_this_deeds, ia G 8 (va_cpy f_a0_deeds f_this_deeds (0 : Int32).toNatClampNeg (0 : Int32).toNatClampNeg (8 : Int32).toNatClampNeg)), (h_this_kinds, ia G 8 (va_cpy f_a0_kinds f_this_kinds (0 : Int32).toNatClampNeg (0 : Int32).toNatClampNeg (8 : Int32).toNatClampNeg)), (h_this_lefts, ia G 200 f_this_lefts), (h_this_rights, ia G 200 f_this_rights), (h_this_steps, ia G 200 f_this_steps)]) C h ac_X5_40 1 8 rfl rfl ha3 hl.1 (Nat.le_of_ble_eq_true rfl) (Nat.le_of_ble_eq_true rfl) dX5_become_42 rfl (fun H locs h => ?_)
  refine lv_aload_n hx hb dX5_become_45 rfl (lv_at hl 1 rfl) ?_
  refine r_get C h fk_X5_21 0 rfl rfl dX5_become_46 ?_
  refine lv_iconst (v := (0 : Int32)) hx hb dX5_become_49 rfl ?_
  refine lv_aload_n hx hb dX5_become_50 rfl (lv_at hl 0 rfl) ?_
  refine r_get C h fk_X5_21 7 rfl rfl dX5_become_51 ?_
  refine lv_iconst (v := (0 : Int32)) hx hb dX5_become_54 rfl ?_
  refine lv_aload_n hx hb dX5_become_55 rfl (lv_at hl 1 rfl) ?_
  refine r_get C h fk_X5_37 0 rfl rfl dX5_become_56 ?_
  replace hf := chkC_inv hf
  obtain ⟨ha4, hf⟩ := hf
  refine r_copy (ws' := [(h_a0, ob 5 [.ref h_a0_kinds, .ref h_a0_deeds, .ref h_a0_begins, .ref h_a0_steps, .ref h_a0_lefts, .ref h_a0_rights, .ref h_a0_facts, .int x_a0_count, .int x_a0_size]), (h_a0_begins, ia G 9 f_a0_begins), (h_a0_deeds, ia G 8 f_a0_deeds), (h_a0_kinds, ia G 8 f_a0_kinds), (h_a0_lefts, ia G 200 f_a0_lefts), (h_a0_rights, ia G 200 f_a0_rights), (h_a0_steps, ia G 200 f_a0_steps), (h_this, ob 5 [.ref h_this_kinds, .ref h_this_deeds, .ref h_this_begins, .ref h_this_steps, .ref h_this_lefts, .ref h_this_rights, .ref h_this_facts, .int x_this_count, .int x_this_size]), (h_this_begins, ia G 9 (va_cpy f_a0_begins f_this_begins (0 : Int32).toNatClampNeg (0 : Int32).toNatClampNeg (9 : Int32).toNatClampNeg)), (h_this_deeds, ia G 8 (va_cpy f_a0_deeds f_this_deeds (0 : Int32).toNatClampNeg (0 : Int32).toNatClampNeg (8 : Int32).toNatClampNeg)), (h_this_kinds, ia G 8 (va_cpy f_a0_kinds f_this_kinds (0 : Int32).toNatClampNeg (0 : Int32).toNatClampNeg (8 : Int32).toNatClampNeg)), (h_this_lefts, ia G 200 f_this_lefts), (h_this_rights, ia G 200 f_this_rights), (h_this_steps, ia G 200 (va_cpy f_a0_steps f_this_steps (0 : Int32).toNatClampNeg (0 : Int32).toNatClampNeg x_a0_size.toNatClampNeg))]) C h ac_X5_40 6 13 rfl rfl ha4 hl.1 (Nat.le_of_ble_eq_true rfl) (Nat.le_of_ble_eq_true rfl) dX5_become_59 rfl (fun H locs h => ?_)
  refine lv_aload_n hx hb dX5_become_62 rfl (lv_at hl 1 rfl) ?_
  refine r_get C h fk_X5_24 0 rfl rfl dX5_become_63 ?_
  refine lv_iconst (v := (0 : Int32)) hx hb dX5_become_66 rfl ?_
  refine lv_aload_n hx hb dX5_become_67 rfl (lv_at hl 0 rfl) ?_
  refine r_get C h fk_X5_24 7 rfl rfl dX5_become_68 ?_
  refine lv_iconst (v := (0 : Int32)) hx hb dX5_become_71 rfl ?_
  refine lv_aload_n hx hb dX5_become_72 rfl (lv_at hl 1 rfl) ?_
  refine r_get C h fk_X5_37 0 rfl rfl dX5_become_73 ?_
  replace hf := chkC_inv hf
  obtain ⟨ha5, hf⟩ := hf
  refine r_copy (ws' := [(h_a0, ob 5 [.ref h_a0_kinds, .ref h_a0_deeds, .ref h_a0_begins, .ref h_a0_steps, .ref h_a0_lefts, .ref h_a0_rights, .ref h_a0_facts, .int x_a0_count, .int x_a0_size]), (h_a0_begins, ia G 9 f_a0_begins), (h_a0_deeds, ia G 8 f_a0_deeds), (h_a0_kinds, ia G 8 f_a0_kinds), (h_a0_lefts, ia G 200 f_a0_lefts), (h_a0_rights, ia G 200 f_a0_rights), (h_a0_steps, ia G 200 f_a0_steps), (h_this, ob 5 [.ref h_this_kinds, .ref h_this_deeds, .ref h_this_begins, .ref h_this_steps, .ref h_this_lefts, .ref h_this_rights, .ref h_this_facts, .int x_this_count, .int x_this_size]), (h_this_begins, ia G 9 (va_cpy f_a0_begins f_this_begins (0 : Int32).toNatClampNeg (0 : Int32).toNatClampNeg (9 : Int32).toNatClampNeg)), (h_this_deeds, ia G 8 (va_cpy f_a0_deeds f_this_deeds (0 : Int32).toNatClampNeg (0 : Int32).toNatClampNeg (8 : Int32).toNatClampNeg)), (h_this_kinds, ia G 8 (va_cpy f_a0_kinds f_this_kinds (0 : Int32).toNatClampNeg (0 : Int32).toNatClampNeg (8 : Int32).toNatClampNeg)), (h_this_lefts, ia G 200 (va_cpy f_a0_lefts f_this_lefts (0 : Int32).toNatClampNeg (0 : Int32).toNatClampNeg x_a0_size.toNatClampNeg)), (h_this_rights, ia G 200 f_this_rights), (h_this_steps, ia G 200 (va_cpy f_a0_steps f_this_steps (0 : Int32).toNatClampNeg (0 : Int32).toNatClampNeg x_a0_size.toNatClampNeg))]) C h ac_X5_40 4 11 rfl rfl ha5 hl.1 (Nat.le_of_ble_eq_true rfl) (Nat.le_of_ble_eq_true rfl) dX5_become_76 rfl (fun H locs h => ?_)
  refine lv_aload_n hx hb dX5_become_79 rfl (lv_at hl 1 rfl) ?_
  refine r_get C h fk_X5_27 0 rfl rfl dX5_become_80 ?_
  refine lv_iconst (v := (0 : Int32)) hx hb dX5_become_83 rfl ?_
  refine lv_aload_n hx hb dX5_become_84 rfl (lv_at hl 0 rfl) ?_
  refine r_get C h fk_X5_27 7 rfl rfl dX5_become_85 ?_
  refine lv_iconst (v := (0 : Int32)) hx hb dX5_become_88 rfl ?_
  refine lv_aload_n hx hb dX5_become_89 rfl (lv_at hl 1 rfl) ?_
  refine r_get C h fk_X5_37 0 rfl rfl dX5_become_90 ?_
  replace hf := chkC_inv hf
  obtain ⟨ha6, hf⟩ := hf
  refine r_copy (ws' := [(h_a0, ob 5 [.ref h_a0_kinds, .ref h_a0_deeds, .ref h_a0_begins, .ref h_a0_steps, .ref h_a0_lefts, .ref h_a0_rights, .ref h_a0_facts, .int x_a0_count, .int x_a0_size]), (h_a0_begins, ia G 9 f_a0_begins), (h_a0_deeds, ia G 8 f_a0_deeds), (h_a0_kinds, ia G 8 f_a0_kinds), (h_a0_lefts, ia G 200 f_a0_lefts), (h_a0_rights, ia G 200 f_a0_rights), (h_a0_steps, ia G 200 f_a0_steps), (h_this, ob 5 [.ref h_this_kinds, .ref h_this_deeds, .ref h_this_begins, .ref h_this_steps, .ref h_this_lefts, .ref h_this_rights, .ref h_this_facts, .int x_this_count, .int x_this_size]), (h_this_begins, ia G 9 (va_cpy f_a0_begins f_this_begins (0 : Int32).toNatClampNeg (0 : Int32).toNatClampNeg (9 : Int32).toNatClampNeg)), (h_this_deeds, ia G 8 (va_cpy f_a0_deeds f_this_deeds (0 : Int32).toNatClampNeg (0 : Int32).toNatClampNeg (8 : Int32).toNatClampNeg)), (h_this_kinds, ia G 8 (va_cpy f_a0_kinds f_this_kinds (0 : Int32).toNatClampNeg (0 : Int32).toNatClampNeg (8 : Int32).toNatClampNeg)), (h_this_lefts, ia G 200 (va_cpy f_a0_lefts f_this_lefts (0 : Int32).toNatClampNeg (0 : Int32).toNatClampNeg x_a0_size.toNatClampNeg)), (h_this_rights, ia G 200 (va_cpy f_a0_rights f_this_rights (0 : Int32).toNatClampNeg (0 : Int32).toNatClampNeg x_a0_size.toNatClampNeg)), (h_this_steps, ia G 200 (va_cpy f_a0_steps f_this_steps (0 : Int32).toNatClampNeg (0 : Int32).toNatClampNeg x_a0_size.toNatClampNeg))]) C h ac_X5_40 5 12 rfl rfl ha6 hl.1 (Nat.le_of_ble_eq_true rfl) (Nat.le_of_ble_eq_true rfl) dX5_become_93 rfl (fun H locs h => ?_)
  refine lv_aload_n hx hb dX5_become_96 rfl (lv_at hl 0 rfl) ?_
  refine lv_aload_n hx hb dX5_become_97 rfl (lv_at hl 1 rfl) ?_
  refine r_get C h fk_X5_33 0 rfl rfl dX5_become_98 ?_
  refine r_put (ws' := [(h_a0, ob 5 [.ref h_a0_kinds, .ref h_a0_deeds, .ref h_a0_begins, .ref h_a0_steps, .ref h_a0_lefts, .ref h_a0_rights, .ref h_a0_facts, .int x_a0_count, .int x_a0_size]), (h_a0_begins, ia G 9 f_a0_begins), (h_a0_deeds, ia G 8 f_a0_deeds), (h_a0_kinds, ia G 8 f_a0_kinds), (h_a0_lefts, ia G 200 f_a0_lefts), (h_a0_rights, ia G 200 f_a0_rights), (h_a0_steps, ia G 200 f_a0_steps), (h_this, ob 5 [.ref h_this_kinds, .ref h_this_deeds, .ref h_this_begins, .ref h_this_steps, .ref h_this_lefts, .ref h_this_rights, .ref h_this_facts, .int x_a0_count, .int x_this_size]), (h_this_begins, ia G 9 (va_cpy f_a0_begins f_this_begins (0 : Int32).toNatClampNeg (0 : Int32).toNatClampNeg (9 : Int32).toNatClampNeg)), (h_this_deeds, ia G 8 (va_cpy f_a0_deeds f_this_deeds (0 : Int32).toNatClampNeg (0 : Int32).toNatClampNeg (8 : Int32).toNatClampNeg)), (h_this_kinds, ia G 8 (va_cpy f_a0_kinds f_this_kinds (0 : Int32).toNatClampNeg (0 : Int32).toNatClampNeg (8 : Int32).toNatClampNeg)), (h_this_lefts, ia G 200 (va_cpy f_a0_lefts f_this_lefts (0 : Int32).toNatClampNeg (0 : Int32).toNatClampNeg x_a0_size.toNatClampNeg)), (h_this_rights, ia G 200 (va_cpy f_a0_rights f_this_rights (0 : Int32).toNatClampNeg (0 : Int32).toNatClampNeg x_a0_size.toNatClampNeg)), (h_this_steps, ia G 200 (va_cpy f_a0_steps f_this_steps (0 : Int32).toNatClampNeg (0 : Int32).toNatClampNeg x_a0_size.toNatClampNeg))]) C h fw_X5_33 7 rfl rfl rfl (Nat.le_of_ble_eq_true rfl) dX5_become_101 rfl (fun H locs h => ?_)
  refine lv_aload_n hx hb dX5_become_104 rfl (lv_at hl 0 rfl) ?_
  refine lv_aload_n hx hb dX5_become_105 rfl (lv_at hl 1 rfl) ?_
  refine r_get C h fk_X5_37 0 rfl rfl dX5_become_106 ?_
  refine r_put (ws' := [(h_a0, ob 5 [.ref h_a0_kinds, .ref h_a0_deeds, .ref h_a0_begins, .ref h_a0_steps, .ref h_a0_lefts, .ref h_a0_rights, .ref h_a0_facts, .int x_a0_count, .int x_a0_size]), (h_a0_begins, ia G 9 f_a0_begins), (h_a0_deeds, ia G 8 f_a0_deeds), (h_a0_kinds, ia G 8 f_a0_kinds), (h_a0_lefts, ia G 200 f_a0_lefts), (h_a0_rights, ia G 200 f_a0_rights), (h_a0_steps, ia G 200 f_a0_steps), (h_this, ob 5 [.ref h_this_kinds, .ref h_this_deeds, .ref h_this_begins, .ref h_this_steps, .ref h_this_lefts, .ref h_this_rights, .ref h_this_facts, .int x_a0_count, .int x_a0_size]), (h_this_begins, ia G 9 (va_cpy f_a0_begins f_this_begins (0 : Int32).toNatClampNeg (0 : Int32).toNatClampNeg (9 : Int32).toNatClampNeg)), (h_this_deeds, ia G 8 (va_cpy f_a0_deeds f_this_deeds (0 : Int32).toNatClampNeg (0 : Int32).toNatClampNeg (8 : Int32).toNatClampNeg)), (h_this_kinds, ia G 8 (va_cpy f_a0_kinds f_this_kinds (0 : Int32).toNatClampNeg (0 : Int32).toNatClampNeg (8 : Int32).toNatClampNeg)), (h_this_lefts, ia G 200 (va_cpy f_a0_lefts f_this_lefts (0 : Int32).toNatClampNeg (0 : Int32).toNatClampNeg x_a0_size.toNatClampNeg)), (h_this_rights, ia G 200 (va_cpy f_a0_rights f_this_rights (0 : Int32).toNatClampNeg (0 : Int32).toNatClampNeg x_a0_size.toNatClampNeg)), (h_this_steps, ia G 200 (va_cpy f_a0_steps f_this_steps (0 : Int32).toNatClampNeg (0 : Int32).toNatClampNeg x_a0_size.toNatClampNeg))]) C h fw_X5_37 7 rfl rfl rfl (Nat.le_of_ble_eq_true rfl) dX5_become_109 rfl (fun H locs h => ?_)
  obtain ⟨rfl, rfl, rfl, rfl, rfl, rfl, rfl, rfl⟩ := sm8 hf
  exact r_vret C h hr hlk dX5_become_112
set_option maxRecDepth 100000 in
set_option maxHeartbeats 4000000 in
theorem c_X8_rules {l : Launch} {G : Gt} {h_this h_this_rock h_this_kept h_this_trial h_this_planner h_this_reader h_this_draft h_this_host h_this_thing h_this_tape h_this_rows h_this_draft_kinds h_this_draft_deeds h_this_draft_begins h_this_draft_steps h_this_draft_lefts h_this_draft_rights h_this_draft_facts h_this_reader_waiting h_this_rock_kinds h_this_rock_trims h_this_rock_lanes h_this_rock_lights h_this_rock_currents h_this_rock_buoys h_this_rock_now h_this_rock_rules h_this_rock_reports h_this_rock_rules_kinds h_this_rock_rules_deeds h_this_rock_rules_begins h_this_rock_rules_steps h_this_rock_rules_lefts h_this_rock_rules_rights h_this_rock_rules_facts : Nat} {x_this_tapeCount : Int32} {x_this_rowCount : Int32} {x_this_isKept : Int32} {x_this_draft_count : Int32} {x_this_draft_size : Int32} {f_this_draft_begins : Nat → Int32} {f_this_draft_deeds : Nat → Int32} {f_this_draft_kinds : Nat → Int32} {f_this_draft_lefts : Nat → Int32} {f_this_draft_rights : Nat → Int32} {f_this_draft_steps : Nat → Int32} {x_this_reader_waitingCount : Int32} {x_this_reader_open : Int32} {x_this_reader_expected : Int32} {x_this_reader_kind : Int32} {x_this_reader_left : Int32} {x_this_reader_sign : Int32} {x_this_reader_token : Int32} {x_this_reader_tokenAt : Int32} {x_this_reader_numeral : Int32} {x_this_reader_place : Int32} {f_this_reader_waiting : Nat → Int32} {x_this_rock_count : Int32} {x_this_rock_end : Int32} {x_this_rock_z : Int32} {x_this_rock_rules_count : Int32} {x_this_rock_rules_size : Int32} {f_this_rock_rules_begins : Nat → Int32} {f_this_rock_rules_deeds : Nat → Int32} {f_this_rock_rules_kinds : Nat → Int32} {f_this_rock_rules_lefts : Nat → Int32} {f_this_rock_rules_rights : Nat → Int32} {f_this_rock_rules_steps : Nat → Int32} {f_this_tape : Nat → Int32} {r : Int32} {m_this_tapeCount : Int32} {m_this_draft_count : Int32} {m_this_draft_size : Int32} {m_this_draft_begins : Nat → Int32} {m_this_draft_deeds : Nat → Int32} {m_this_draft_kinds : Nat → Int32} {m_this_draft_lefts : Nat → Int32} {m_this_draft_rights : Nat → Int32} {m_this_draft_steps : Nat → Int32} {m_this_reader_waitingCount : Int32} {m_this_reader_open : Int32} {m_this_reader_expected : Int32} {m_this_reader_kind : Int32} {m_this_reader_left : Int32} {m_this_reader_sign : Int32} {m_this_reader_token : Int32} {m_this_reader_tokenAt : Int32} {m_this_reader_numeral : Int32} {m_this_reader_place : Int32} {m_this_reader_waiting : Nat → Int32} {m_this_rock_rules_count : Int32} {m_this_rock_rules_size : Int32} {m_this_rock_rules_begins : Nat → Int32} {m_this_rock_rules_deeds : Nat → Int32} {m_this_rock_rules_kinds : Nat → Int32} {m_this_rock_rules_lefts : Nat → Int32} {m_this_rock_rules_rights : Nat → Int32} {m_this_rock_rules_steps : Nat → Int32} (hf : f_X8_rules x_this_tapeCount f_this_draft_begins f_this_draft_deeds f_this_draft_kinds f_this_draft_lefts f_this_draft_rights f_this_draft_steps x_this_reader_kind x_this_reader_left x_this_reader_sign x_this_reader_token x_this_reader_tokenAt x_this_reader_numeral f_this_reader_waiting x_this_rock_rules_count x_this_rock_rules_size f_this_rock_rules_begins f_this_rock_rules_deeds f_this_rock_rules_kinds f_this_rock_rules_lefts f_this_rock_rules_rights f_this_rock_rules_steps f_this_tape = some (r, m_this_tapeCount, m_this_draft_count, m_this_draft_size, m_this_draft_begins, m_this_draft_deeds, m_this_draft_kinds, m_this_draft_lefts, m_this_draft_rights, m_this_draft_steps, m_this_reader_waitingCount, m_this_reader_open, m_this_reader_expected, m_this_reader_kind, m_this_reader_left, m_this_reader_sign, m_this_reader_token, m_this_reader_tokenAt, m_this_reader_numeral, m_this_reader_place, m_this_reader_waiting, m_this_rock_rules_count, m_this_rock_rules_size, m_this_rock_rules_begins, m_this_rock_rules_deeds, m_this_rock_rules_kinds, m_this_rock_rules_lefts, m_this_rock_rules_rights, m_this_rock_rules_steps)) : mFi l G yX8_rules cX8_rules 2 .int 12 [.ref h_this] [(h_this, ob 8 [.ref h_this_rock, .ref h_this_kept, .ref h_this_trial, .ref h_this_planner, .ref h_this_reader, .ref h_this_draft, .ref h_this_host, .ref h_this_thing, .ref h_this_tape, .ref h_this_rows, .int x_this_tapeCount, .int x_this_rowCount, .int x_this_isKept]), (h_this_draft, ob 5 [.ref h_this_draft_kinds, .ref h_this_draft_deeds, .ref h_this_draft_begins, .ref h_this_draft_steps, .ref h_this_draft_lefts, .ref h_this_draft_rights, .ref h_this_draft_facts, .int x_this_draft_count, .int x_this_draft_size]), (h_this_draft_begins, ia G 9 f_this_draft_begins), (h_this_draft_deeds, ia G 8 f_this_draft_deeds), (h_this_draft_kinds, ia G 8 f_this_draft_kinds), (h_this_draft_lefts, ia G 200 f_this_draft_lefts), (h_this_draft_rights, ia G 200 f_this_draft_rights), (h_this_draft_steps, ia G 200 f_this_draft_steps), (h_this_reader, ob 4 [.ref h_this_reader_waiting, .int x_this_reader_waitingCount, .int x_this_reader_open, .int x_this_reader_expected, .int x_this_reader_kind, .int x_this_reader_left, .int x_this_reader_sign, .int x_this_reader_token, .int x_this_reader_tokenAt, .int x_this_reader_numeral, .int x_this_reader_place]), (h_this_reader_waiting, ia G 200 f_this_reader_waiting), (h_this_rock, ob 3 [.ref h_this_rock_kinds, .ref h_this_rock_trims, .ref h_this_rock_lanes, .ref h_this_rock_lights, .ref h_this_rock_currents, .ref h_this_rock_buoys, .ref h_this_rock_now, .ref h_this_rock_rules, .ref h_this_rock_reports, .int x_this_rock_count, .int x_this_rock_end, .int x_this_rock_z]), (h_this_rock_rules, ob 5 [.ref h_this_rock_rules_kinds, .ref h_this_rock_rules_deeds, .ref h_this_rock_rules_begins, .ref h_this_rock_rules_steps, .ref h_this_rock_rules_lefts, .ref h_this_rock_rules_rights, .ref h_this_rock_rules_facts, .int x_this_rock_rules_count, .int x_this_rock_rules_size]), (h_this_rock_rules_begins, ia G 9 f_this_rock_rules_begins), (h_this_rock_rules_deeds, ia G 8 f_this_rock_rules_deeds), (h_this_rock_rules_kinds, ia G 8 f_this_rock_rules_kinds), (h_this_rock_rules_lefts, ia G 200 f_this_rock_rules_lefts), (h_this_rock_rules_rights, ia G 200 f_this_rock_rules_rights), (h_this_rock_rules_steps, ia G 200 f_this_rock_rules_steps), (h_this_tape, ia G 200 f_this_tape)] r [(h_this, ob 8 [.ref h_this_rock, .ref h_this_kept, .ref h_this_trial, .ref h_this_planner, .ref h_this_reader, .ref h_this_draft, .ref h_this_host, .ref h_this_thing, .ref h_this_tape, .ref h_this_rows, .int m_this_tapeCount, .int x_this_rowCount, .int x_this_isKept]), (h_this_draft, ob 5 [.ref h_this_draft_kinds, .ref h_this_draft_deeds, .ref h_this_draft_begins, .ref h_this_draft_steps, .ref h_this_draft_lefts, .ref h_this_draft_rights, .ref h_this_draft_facts, .int m_this_draft_count, .int m_this_draft_size]), (h_this_draft_begins, ia G 9 m_this_draft_begins), (h_this_draft_deeds, ia G 8 m_this_draft_deeds), (h_this_draft_kinds, ia G 8 m_this_draft_kinds), (h_this_draft_lefts, ia G 200 m_this_draft_lefts), (h_this_draft_rights, ia G 200 m_this_draft_rights), (h_this_draft_steps, ia G 200 m_this_draft_steps), (h_this_reader, ob 4 [.ref h_this_reader_waiting, .int m_this_reader_waitingCount, .int m_this_reader_open, .int m_this_reader_expected, .int m_this_reader_kind, .int m_this_reader_left, .int m_this_reader_sign, .int m_this_reader_token, .int m_this_reader_tokenAt, .int m_this_reader_numeral, .int m_this_reader_place]), (h_this_reader_waiting, ia G 200 m_this_reader_waiting), (h_this_rock, ob 3 [.ref h_this_rock_kinds, .ref h_this_rock_trims, .ref h_this_rock_lanes, .ref h_this_rock_lights, .ref h_this_rock_currents, .ref h_this_rock_buoys, .ref h_this_rock_now, .ref h_this_rock_rules, .ref h_this_rock_reports, .int x_this_rock_count, .int x_this_rock_end, .int x_this_rock_z]), (h_this_rock_rules, ob 5 [.ref h_this_rock_rules_kinds, .ref h_this_rock_rules_deeds, .ref h_this_rock_rules_begins, .ref h_this_rock_rules_steps, .ref h_this_rock_rules_lefts, .ref h_this_rock_rules_rights, .ref h_this_rock_rules_facts, .int m_this_rock_rules_count, .int m_this_rock_rules_size]), (h_this_rock_rules_begins, ia G 9 m_this_rock_rules_begins), (h_this_rock_rules_deeds, ia G 8 m_this_rock_rules_deeds), (h_this_rock_rules_kinds, ia G 8 m_this_rock_rules_kinds), (h_this_rock_rules_lefts, ia G 200 m_this_rock_rules_lefts), (h_this_rock_rules_rights, ia G 200 m_this_rock_rules_rights), (h_this_rock_rules_steps, ia G 200 m_this_rock_rules_steps), (h_this_tape, ia G 200 f_this_tape)] := by
  refine mFi.of (by decide +kernel) (Nat.le_of_ble_eq_true rfl) ?_
  intro p e s m below meth c A C hr hlk h ls hl
  obtain ⟨hx, hb, hml, hown, hts⟩ := id C
  replace hl : lv_has ls 2 [(0, .ref h_this)] := hl
  unfold f_X8_rules at hf
  refine lv_aload_n hx hb dX8_rules_0 rfl (lv_at hl 0 rfl) ?_
  refine r_get C h fk_X8_36 0 rfl rfl dX8_rules_1 ?_
  refine lv_aload_n hx hb dX8_rules_4 rfl (lv_at hl 0 rfl) ?_
  refine r_get C h fk_X8_61 0 rfl rfl dX8_rules_5 ?_
  refine lv_aload_n hx hb dX8_rules_8 rfl (lv_at hl 0 rfl) ?_
  refine r_get C h fk_X8_68 0 rfl rfl dX8_rules_9 ?_
  refine lv_aload_n hx hb dX8_rules_12 rfl (lv_at hl 0 rfl) ?_
  refine r_get C h fk_X8_43 0 rfl rfl dX8_rules_13 ?_
  replace hf := bd20_inv hf
  obtain ⟨r1, y2, y3, g4, g5, g6, g7, g8, g9, y10, y11, y12, y13, y14, y15, y16, y17, y18, y19, g20, hc21, hf⟩ := hf
  refine r_ciV (ws' := [(h_this, ob 8 [.ref h_this_rock, .ref h_this_kept, .ref h_this_trial, .ref h_this_planner, .ref h_this_reader, .ref h_this_draft, .ref h_this_host, .ref h_this_thing, .ref h_this_tape, .ref h_this_rows, .int x_this_tapeCount, .int x_this_rowCount, .int x_this_isKept]), (h_this_draft, ob 5 [.ref h_this_draft_kinds, .ref h_this_draft_deeds, .ref h_this_draft_begins, .ref h_this_draft_steps, .ref h_this_draft_lefts, .ref h_this_draft_rights, .ref h_this_draft_facts, .int y2, .int y3]), (h_this_draft_begins, ia G 9 g4), (h_this_draft_deeds, ia G 8 g5), (h_this_draft_kinds, ia G 8 g6), (h_this_draft_lefts, ia G 200 g7), (h_this_draft_rights, ia G 200 g8), (h_this_draft_steps, ia G 200 g9), (h_this_reader, ob 4 [.ref h_this_reader_waiting, .int y10, .int y11, .int y12, .int y13, .int y14, .int y15, .int y16, .int y17, .int y18, .int y19]), (h_this_reader_waiting, ia G 200 g20), (h_this_rock, ob 3 [.ref h_this_rock_kinds, .ref h_this_rock_trims, .ref h_this_rock_lanes, .ref h_this_rock_lights, .ref h_this_rock_currents, .ref h_this_rock_buoys, .ref h_this_rock_now, .ref h_this_rock_rules, .ref h_this_rock_reports, .int x_this_rock_count, .int x_this_rock_end, .int x_this_rock_z]), (h_this_rock_rules, ob 5 [.ref h_this_rock_rules_kinds, .ref h_this_rock_rules_deeds, .ref h_this_rock_rules_begins, .ref h_this_rock_rules_steps, .ref h_this_rock_rules_lefts, .ref h_this_rock_rules_rights, .ref h_this_rock_rules_facts, .int x_this_rock_rules_count, .int x_this_rock_rules_size]), (h_this_rock_rules_begins, ia G 9 f_this_rock_rules_begins), (h_this_rock_rules_deeds, ia G 8 f_this_rock_rules_deeds), (h_this_rock_rules_kinds, ia G 8 f_this_rock_rules_kinds), (h_this_rock_rules_lefts, ia G 200 f_this_rock_rules_lefts), (h_this_rock_rules_rights, ia G 200 f_this_rock_rules_rights), (h_this_rock_rules_steps, ia G 200 f_this_rock_rules_steps), (h_this_tape, ia G 200 f_this_tape)]) C h (c_X4_read hc21) mv_X8_171 rfl 8 rfl [18, 1, 2, 3, 4, 5, 6, 7, 8, 9] rfl rfl [1, 2, 3, 4, 5, 6, 7, 8, 9] [(h_this_draft, ob 5 [.ref h_this_draft_kinds, .ref h_this_draft_deeds, .ref h_this_draft_begins, .ref h_this_draft_steps, .ref h_this_draft_lefts, .ref h_this_draft_rights, .ref h_this_draft_facts, .int y2, .int y3]), (h_this_draft_begins, ia G 9 g4), (h_this_draft_deeds, ia G 8 g5), (h_this_draft_kinds, ia G 8 g6), (h_this_draft_lefts, ia G 200 g7), (h_this_draft_rights, ia G 200 g8), (h_this_draft_steps, ia G 200 g9), (h_this_reader, ob 4 [.ref h_this_reader_waiting, .int y10, .int y11, .int y12, .int y13, .int y14, .int y15, .int y16, .int y17, .int y18, .int y19]), (h_this_reader_waiting, ia G 200 g20)] rfl rfl (by decide +kernel) rfl hl.1 rfl (Nat.le_of_ble_eq_true rfl) (rok (by decide)) dX8_rules_16 (fun H locs h => ?_)
  refine lv_istore_n (lv' := [(1, .int r1), (0, .ref h_this)]) hx hb dX8_rules_19 rfl hl (by decide) rfl (fun ls hl => ?_)
  refine lv_aload_n hx hb dX8_rules_20 rfl (lv_at hl 1 rfl) ?_
  refine lv_iconst (v := (0 : Int32)) hx hb dX8_rules_21 rfl ?_
  refine r_put (ws' := [(h_this, ob 8 [.ref h_this_rock, .ref h_this_kept, .ref h_this_trial, .ref h_this_planner, .ref h_this_reader, .ref h_this_draft, .ref h_this_host, .ref h_this_thing, .ref h_this_tape, .ref h_this_rows, .int (0 : Int32), .int x_this_rowCount, .int x_this_isKept]), (h_this_draft, ob 5 [.ref h_this_draft_kinds, .ref h_this_draft_deeds, .ref h_this_draft_begins, .ref h_this_draft_steps, .ref h_this_draft_lefts, .ref h_this_draft_rights, .ref h_this_draft_facts, .int y2, .int y3]), (h_this_draft_begins, ia G 9 g4), (h_this_draft_deeds, ia G 8 g5), (h_this_draft_kinds, ia G 8 g6), (h_this_draft_lefts, ia G 200 g7), (h_this_draft_rights, ia G 200 g8), (h_this_draft_steps, ia G 200 g9), (h_this_reader, ob 4 [.ref h_this_reader_waiting, .int y10, .int y11, .int y12, .int y13, .int y14, .int y15, .int y16, .int y17, .int y18, .int y19]), (h_this_reader_waiting, ia G 200 g20), (h_this_rock, ob 3 [.ref h_this_rock_kinds, .ref h_this_rock_trims, .ref h_this_rock_lanes, .ref h_this_rock_lights, .ref h_this_rock_currents, .ref h_this_rock_buoys, .ref h_this_rock_now, .ref h_this_rock_rules, .ref h_this_rock_reports, .int x_this_rock_count, .int x_this_rock_end, .int x_this_rock_z]), (h_this_rock_rules, ob 5 [.ref h_this_rock_rules_kinds, .ref h_this_rock_rules_deeds, .ref h_this_rock_rules_begins, .ref h_this_rock_rules_steps, .ref h_this_rock_rules_lefts, .ref h_this_rock_rules_rights, .ref h_this_rock_rules_facts, .int x_this_rock_rules_count, .int x_this_rock_rules_size]), (h_this_rock_rules_begins, ia G 9 f_this_rock_rules_begins), (h_this_rock_rules_deeds, ia G 8 f_this_rock_rules_deeds), (h_this_rock_rules_kinds, ia G 8 f_this_rock_rules_kinds), (h_this_rock_rules_lefts, ia G 200 f_this_rock_rules_lefts), (h_this_rock_rules_rights, ia G 200 f_this_rock_rules_rights), (h_this_rock_rules_steps, ia G 200 f_this_rock_rules_steps), (h_this_tape, ia G 200 f_this_tape)]) C h fw_X8_68 0 rfl rfl rfl (Nat.le_of_ble_eq_true rfl) dX8_rules_22 rfl (fun H locs h => ?_)
  refine lv_iload_n hx hb dX8_rules_25 rfl (lv_at hl 0 rfl) ?_
  refine lv_iconst (v := (-1 : Int32)) hx hb dX8_rules_26 rfl ?_
  refine lv_icmp_eq (tgt := 35) hx hb dX8_rules_27 rfl (fun c22 => ?_) (fun c22 => ?_)
  · replace hf := ifp c22 hf
    refine lv_aload_n hx hb dX8_rules_35 rfl (lv_at hl 1 rfl) ?_
    refine r_get C h fk_X8_10 0 rfl rfl dX8_rules_36 ?_
    refine r_get C h fk_X8_175 10 rfl rfl dX8_rules_39 ?_
    refine lv_aload_n hx hb dX8_rules_42 rfl (lv_at hl 1 rfl) ?_
    refine r_get C h fk_X8_43 0 rfl rfl dX8_rules_43 ?_
    replace hf := bd8_inv hf
    obtain ⟨y23, y24, g25, g26, g27, g28, g29, g30, hc31, hf⟩ := hf
    refine r_cvV (ws' := [(h_this, ob 8 [.ref h_this_rock, .ref h_this_kept, .ref h_this_trial, .ref h_this_planner, .ref h_this_reader, .ref h_this_draft, .ref h_this_host, .ref h_this_thing, .ref h_this_tape, .ref h_this_rows, .int (0 : Int32), .int x_this_rowCount, .int x_this_isKept]), (h_this_draft, ob 5 [.ref h_this_draft_kinds, .ref h_this_draft_deeds, .ref h_this_draft_begins, .ref h_this_draft_steps, .ref h_this_draft_lefts, .ref h_this_draft_rights, .ref h_this_draft_facts, .int y2, .int y3]), (h_this_draft_begins, ia G 9 g4), (h_this_draft_deeds, ia G 8 g5), (h_this_draft_kinds, ia G 8 g6), (h_this_draft_lefts, ia G 200 g7), (h_this_draft_rights, ia G 200 g8), (h_this_draft_steps, ia G 200 g9), (h_this_reader, ob 4 [.ref h_this_reader_waiting, .int y10, .int y11, .int y12, .int y13, .int y14, .int y15, .int y16, .int y17, .int y18, .int y19]), (h_this_reader_waiting, ia G 200 g20), (h_this_rock, ob 3 [.ref h_this_rock_kinds, .ref h_this_rock_trims, .ref h_this_rock_lanes, .ref h_this_rock_lights, .ref h_this_rock_currents, .ref h_this_rock_buoys, .ref h_this_rock_now, .ref h_this_rock_rules, .ref h_this_rock_reports, .int x_this_rock_count, .int x_this_rock_end, .int x_this_rock_z]), (h_this_rock_rules, ob 5 [.ref h_this_rock_rules_kinds, .ref h_this_rock_rules_deeds, .ref h_this_rock_rules_begins, .ref h_this_rock_rules_steps, .ref h_this_rock_rules_lefts, .ref h_this_rock_rules_rights, .ref h_this_rock_rules_facts, .int y23, .int y24]), (h_this_rock_rules_begins, ia G 9 g25), (h_this_rock_rules_deeds, ia G 8 g26), (h_this_rock_rules_kinds, ia G 8 g27), (h_this_rock_rules_lefts, ia G 200 g28), (h_this_rock_rules_rights, ia G 200 g29), (h_this_rock_rules_steps, ia G 200 g30), (h_this_tape, ia G 200 f_this_tape)]) C h (c_X5_become hc31) mv_X8_178 rfl 11 rfl [1, 2, 3, 4, 5, 6, 7, 11, 12, 13, 14, 15, 16, 17] rfl rfl [11, 12, 13, 14, 15, 16, 17] [(h_this_rock_rules, ob 5 [.ref h_this_rock_rules_kinds, .ref h_this_rock_rules_deeds, .ref h_this_rock_rules_begins, .ref h_this_rock_rules_steps, .ref h_this_rock_rules_lefts, .ref h_this_rock_rules_rights, .ref h_this_rock_rules_facts, .int y23, .int y24]), (h_this_rock_rules_begins, ia G 9 g25), (h_this_rock_rules_deeds, ia G 8 g26), (h_this_rock_rules_kinds, ia G 8 g27), (h_this_rock_rules_lefts, ia G 200 g28), (h_this_rock_rules_rights, ia G 200 g29), (h_this_rock_rules_steps, ia G 200 g30)] rfl rfl (by decide +kernel) rfl hl.1 rfl (Nat.le_of_ble_eq_true rfl) (rok (by decide)) dX8_rules_46 (fun H locs h => ?_)
    refine lv_aload_n hx hb dX8_rules_49 rfl (lv_at hl 1 rfl) ?_
    refine r_get C h fk_X8_43 0 rfl rfl dX8_rules_50 ?_
    refine r_get C h fk_X8_182 1 rfl rfl dX8_rules_53 ?_
    obtain ⟨rfl, rfl, rfl, rfl, rfl, rfl, rfl, rfl, rfl, rfl, rfl, rfl, rfl, rfl, rfl, rfl, rfl, rfl, rfl, rfl, rfl, rfl, rfl, rfl, rfl, rfl, rfl, rfl, rfl⟩ := sm29 hf
    exact r_iret C h hr hlk rfl dX8_rules_56
  · replace hf := ifn c22 hf
    refine lv_bipush (v := (-100 : Int32)) hx hb dX8_rules_30 rfl ?_
    refine lv_iload_n hx hb dX8_rules_32 rfl (lv_at hl 0 rfl) ?_
    refine lv_isub hx hb dX8_rules_33 ?_
    obtain ⟨rfl, rfl, rfl, rfl, rfl, rfl, rfl, rfl, rfl, rfl, rfl, rfl, rfl, rfl, rfl, rfl, rfl, rfl, rfl, rfl, rfl, rfl, rfl, rfl, rfl, rfl, rfl, rfl, rfl⟩ := sm29 hf
    exact r_iret C h hr hlk rfl dX8_rules_34
set_option maxRecDepth 100000 in
set_option maxHeartbeats 4000000 in
theorem c_X3_leastThatMayEnter {l : Launch} {G : Gt} {h_a0 h_a0_off h_this h_this_kinds h_this_trims h_this_lanes h_this_lights h_this_currents h_this_buoys h_this_now h_this_rules h_this_reports h_this_rules_kinds h_this_rules_deeds h_this_rules_begins h_this_rules_steps h_this_rules_lefts h_this_rules_rights h_this_rules_facts : Nat} {x_a0_watch : Int32} {x_a0_score : Int32} {x_a0_home : Int32} {f_a0_off : Nat → Int32} {x_this_count : Int32} {x_this_end : Int32} {x_this_z : Int32} {f_this_buoys : Nat → Int32} {f_this_kinds : Nat → Int32} {f_this_lanes : Nat → Int32} {f_this_lights : Nat → Int32} {x_this_rules_count : Int32} {x_this_rules_size : Int32} {f_this_rules_begins : Nat → Int32} {f_this_rules_deeds : Nat → Int32} {f_this_rules_facts : Nat → Int32} {f_this_rules_kinds : Nat → Int32} {f_this_rules_lefts : Nat → Int32} {f_this_rules_rights : Nat → Int32} {f_this_rules_steps : Nat → Int32} {f_this_trims : Nat → Int32} {r : Int32} {m_this_rules_facts : Nat → Int32} (hf : f_X3_leastThatMayEnter x_a0_watch x_a0_home f_a0_off x_this_count f_this_buoys f_this_kinds f_this_lanes f_this_lights x_this_rules_count f_this_rules_begins f_this_rules_deeds f_this_rules_facts f_this_rules_kinds f_this_rules_lefts f_this_rules_rights f_this_rules_steps f_this_trims = some (r, m_this_rules_facts)) : mFi l G yX3_leastThatMayEnter cX3_leastThatMayEnter 3 .int 4 [.ref h_this, .ref h_a0] [(h_a0, ob 6 [.ref h_a0_off, .int x_a0_watch, .int x_a0_score, .int x_a0_home]), (h_a0_off, ia G 6 f_a0_off), (h_this, ob 3 [.ref h_this_kinds, .ref h_this_trims, .ref h_this_lanes, .ref h_this_lights, .ref h_this_currents, .ref h_this_buoys, .ref h_this_now, .ref h_this_rules, .ref h_this_reports, .int x_this_count, .int x_this_end, .int x_this_z]), (h_this_buoys, ia G 6 f_this_buoys), (h_this_kinds, ia G 6 f_this_kinds), (h_this_lanes, ia G 6 f_this_lanes), (h_this_lights, ia G 16 f_this_lights), (h_this_rules, ob 5 [.ref h_this_rules_kinds, .ref h_this_rules_deeds, .ref h_this_rules_begins, .ref h_this_rules_steps, .ref h_this_rules_lefts, .ref h_this_rules_rights, .ref h_this_rules_facts, .int x_this_rules_count, .int x_this_rules_size]), (h_this_rules_begins, ia G 9 f_this_rules_begins), (h_this_rules_deeds, ia G 8 f_this_rules_deeds), (h_this_rules_facts, ia G 5 f_this_rules_facts), (h_this_rules_kinds, ia G 8 f_this_rules_kinds), (h_this_rules_lefts, ia G 200 f_this_rules_lefts), (h_this_rules_rights, ia G 200 f_this_rules_rights), (h_this_rules_steps, ia G 200 f_this_rules_steps), (h_this_trims, ia G 6 f_this_trims)] r [(h_a0, ob 6 [.ref h_a0_off, .int x_a0_watch, .int x_a0_score, .int x_a0_home]), (h_a0_off, ia G 6 f_a0_off), (h_this, ob 3 [.ref h_this_kinds, .ref h_this_trims, .ref h_this_lanes, .ref h_this_lights, .ref h_this_currents, .ref h_this_buoys, .ref h_this_now, .ref h_this_rules, .ref h_this_reports, .int x_this_count, .int x_this_end, .int x_this_z]), (h_this_buoys, ia G 6 f_this_buoys), (h_this_kinds, ia G 6 f_this_kinds), (h_this_lanes, ia G 6 f_this_lanes), (h_this_lights, ia G 16 f_this_lights), (h_this_rules, ob 5 [.ref h_this_rules_kinds, .ref h_this_rules_deeds, .ref h_this_rules_begins, .ref h_this_rules_steps, .ref h_this_rules_lefts, .ref h_this_rules_rights, .ref h_this_rules_facts, .int x_this_rules_count, .int x_this_rules_size]), (h_this_rules_begins, ia G 9 f_this_rules_begins), (h_this_rules_deeds, ia G 8 f_this_rules_deeds), (h_this_rules_facts, ia G 5 m_this_rules_facts), (h_this_rules_kinds, ia G 8 f_this_rules_kinds), (h_this_rules_lefts, ia G 200 f_this_rules_lefts), (h_this_rules_rights, ia G 200 f_this_rules_rights), (h_this_rules_steps, ia G 200 f_this_rules_steps), (h_this_trims, ia G 6 f_this_trims)] := by
  refine mFi.of (by decide +kernel) (Nat.le_of_ble_eq_true rfl) ?_
  intro p e s m below meth c A C hr hlk h ls hl
  obtain ⟨hx, hb, hml, hown, hts⟩ := id C
  replace hl : lv_has ls 3 [(0, .ref h_this), (1, .ref h_a0)] := hl
  unfold f_X3_leastThatMayEnter at hf
  refine with_K G A 3 (fun K hK1 hK2 => ?_)
  have L2 : ∀ (n : Nat) (v2 : Int32) (g_this_rules_facts : Nat → Int32), f_X3_leastThatMayEnter_L2 x_a0_watch x_a0_home f_a0_off x_this_count f_this_buoys f_this_kinds f_this_lanes f_this_lights x_this_rules_count f_this_rules_begins f_this_rules_deeds f_this_rules_kinds f_this_rules_lefts f_this_rules_rights f_this_rules_steps f_this_trims n v2 g_this_rules_facts = some (r, m_this_rules_facts) → K 2 ([] : List Value) [(h_a0, ob 6 [.ref h_a0_off, .int x_a0_watch, .int x_a0_score, .int x_a0_home]), (h_a0_off, ia G 6 f_a0_off), (h_this, ob 3 [.ref h_this_kinds, .ref h_this_trims, .ref h_this_lanes, .ref h_this_lights, .ref h_this_currents, .ref h_this_buoys, .ref h_this_now, .ref h_this_rules, .ref h_this_reports, .int x_this_count, .int x_this_end, .int x_this_z]), (h_this_buoys, ia G 6 f_this_buoys), (h_this_kinds, ia G 6 f_this_kinds), (h_this_lanes, ia G 6 f_this_lanes), (h_this_lights, ia G 16 f_this_lights), (h_this_rules, ob 5 [.ref h_this_rules_kinds, .ref h_this_rules_deeds, .ref h_this_rules_begins, .ref h_this_rules_steps, .ref h_this_rules_lefts, .ref h_this_rules_rights, .ref h_this_rules_facts, .int x_this_rules_count, .int x_this_rules_size]), (h_this_rules_begins, ia G 9 f_this_rules_begins), (h_this_rules_deeds, ia G 8 f_this_rules_deeds), (h_this_rules_facts, ia G 5 g_this_rules_facts), (h_this_rules_kinds, ia G 8 f_this_rules_kinds), (h_this_rules_lefts, ia G 200 f_this_rules_lefts), (h_this_rules_rights, ia G 200 f_this_rules_rights), (h_this_rules_steps, ia G 200 f_this_rules_steps), (h_this_trims, ia G 6 f_this_trims)] [(0, .ref h_this), (1, .ref h_a0), (2, .int v2)] := by
    intro n
    induction n with
    | zero =>
      intro v2 g_this_rules_facts hf
      replace hf : (none : Option _) = some _ := hf
      cases hf
    | succ n ih =>
      intro v2 g_this_rules_facts hf
      rw [f_X3_leastThatMayEnter_L2] at hf
      refine hK1 _ _ _ _ (fun H locs ls h hl => ?_)
      refine lv_iload_n hx hb dX3_leastThatMayEnter_2 rfl (lv_at hl 2 rfl) ?_
      refine lv_aload_n hx hb dX3_leastThatMayEnter_3 rfl (lv_at hl 0 rfl) ?_
      refine r_get C h fk_X3_51 2 rfl rfl dX3_leastThatMayEnter_4 ?_
      refine lv_icmp_ge (tgt := 27) hx hb dX3_leastThatMayEnter_7 rfl (fun c1 => ?_) (fun c1 => ?_)
      · replace hf := ifp c1 hf
        refine lv_bipush (v := (-3 : Int32)) hx hb dX3_leastThatMayEnter_27 rfl ?_
        cases hf
        exact r_iret C h hr hlk rfl dX3_leastThatMayEnter_29
      · replace hf := ifn c1 hf
        refine lv_aload_n hx hb dX3_leastThatMayEnter_10 rfl (lv_at hl 0 rfl) ?_
        refine lv_aload_n hx hb dX3_leastThatMayEnter_11 rfl (lv_at hl 1 rfl) ?_
        refine lv_iload_n hx hb dX3_leastThatMayEnter_12 rfl (lv_at hl 2 rfl) ?_
        replace hf := bd2_inv hf
        obtain ⟨r2, g3, hc4, hf⟩ := hf
        refine r_ciV (ws' := [(h_a0, ob 6 [.ref h_a0_off, .int x_a0_watch, .int x_a0_score, .int x_a0_home]), (h_a0_off, ia G 6 f_a0_off), (h_this, ob 3 [.ref h_this_kinds, .ref h_this_trims, .ref h_this_lanes, .ref h_this_lights, .ref h_this_currents, .ref h_this_buoys, .ref h_this_now, .ref h_this_rules, .ref h_this_reports, .int x_this_count, .int x_this_end, .int x_this_z]), (h_this_buoys, ia G 6 f_this_buoys), (h_this_kinds, ia G 6 f_this_kinds), (h_this_lanes, ia G 6 f_this_lanes), (h_this_lights, ia G 16 f_this_lights), (h_this_rules, ob 5 [.ref h_this_rules_kinds, .ref h_this_rules_deeds, .ref h_this_rules_begins, .ref h_this_rules_steps, .ref h_this_rules_lefts, .ref h_this_rules_rights, .ref h_this_rules_facts, .int x_this_rules_count, .int x_this_rules_size]), (h_this_rules_begins, ia G 9 f_this_rules_begins), (h_this_rules_deeds, ia G 8 f_this_rules_deeds), (h_this_rules_facts, ia G 5 g3), (h_this_rules_kinds, ia G 8 f_this_rules_kinds), (h_this_rules_lefts, ia G 200 f_this_rules_lefts), (h_this_rules_rights, ia G 200 f_this_rules_rights), (h_this_rules_steps, ia G 200 f_this_rules_steps), (h_this_trims, ia G 6 f_this_trims)]) C h (c_X3_mayEnter hc4) mv_X3_137 rfl 2 rfl [0, 1, 2, 3, 4, 5, 6, 7, 8, 9, 10, 11, 12, 13, 14, 15] rfl rfl [10] [(h_this_rules_facts, ia G 5 g3)] rfl rfl (by decide +kernel) rfl hl.1 rfl (Nat.le_of_ble_eq_true rfl) (rok (by decide)) dX3_leastThatMayEnter_13 (fun H locs h => ?_)
        refine lv_if_eq (tgt := 21) hx hb dX3_leastThatMayEnter_16 rfl (fun c5 => ?_) (fun c5 => ?_)
        · replace hf := ifp c5 hf
          obtain ⟨t6, et6⟩ : ∃ y : Int32, y = v2 + (1 : Int32) := ⟨_, rfl⟩
          replace hf := lt1_inv et6 hf
          refine lv_iinc (v := t6) (lv' := [(2, .int t6), (0, .ref h_this), (1, .ref h_a0)]) hx hb dX3_leastThatMayEnter_21 hl (k := 2) rfl (by rw [et6]; rfl) (by decide) rfl (fun ls hl => ?_)
          refine lv_goto (tgt := 2) hx hb dX3_leastThatMayEnter_24 rfl ?_
          exact hK2 _ _ _ _ (ih t6 g3 hf) _ _ _ h (lv_sub hl [1, 2, 0] rfl)
        · replace hf := ifn c5 hf
          refine lv_iload_n hx hb dX3_leastThatMayEnter_19 rfl (lv_at hl 2 rfl) ?_
          cases hf
          exact r_iret C h hr hlk rfl dX3_leastThatMayEnter_20
  refine lv_iconst (v := (0 : Int32)) hx hb dX3_leastThatMayEnter_0 rfl ?_
  refine lv_istore_n (lv' := [(2, .int (0 : Int32)), (0, .ref h_this), (1, .ref h_a0)]) hx hb dX3_leastThatMayEnter_1 rfl hl (by decide) rfl (fun ls hl => ?_)
  exact hK2 _ _ _ _ (L2 1000 (0 : Int32) f_this_rules_facts hf) _ _ _ h (lv_sub hl [1, 2, 0] rfl)
