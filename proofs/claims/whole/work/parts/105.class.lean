set_option maxRecDepth 100000 in
set_option maxHeartbeats 4000000 in
theorem c_X4_expect {l : Launch} {G : Gt} {h_this h_this_waiting : Nat} {p0 : Int32} {x_this_waitingCount : Int32} {x_this_open : Int32} {x_this_expected : Int32} {x_this_kind : Int32} {x_this_left : Int32} {x_this_sign : Int32} {x_this_token : Int32} {x_this_tokenAt : Int32} {x_this_numeral : Int32} {x_this_place : Int32} {r : Int32} {m_this_expected : Int32} (hf : f_X4_expect p0 = some (r, m_this_expected)) : mFi l G yX4_expect cX4_expect 2 .boolean 0 [.ref h_this, .int p0] [(h_this, ob 4 [.ref h_this_waiting, .int x_this_waitingCount, .int x_this_open, .int x_this_expected, .int x_this_kind, .int x_this_left, .int x_this_sign, .int x_this_token, .int x_this_tokenAt, .int x_this_numeral, .int x_this_place])] r [(h_this, ob 4 [.ref h_this_waiting, .int x_this_waitingCount, .int x_this_open, .int m_this_expected, .int x_this_kind, .int x_this_left, .int x_this_sign, .int x_this_token, .int x_this_tokenAt, .int x_this_numeral, .int x_this_place])] := by
  refine mFi.of (by decide +kernel) (Nat.le_of_ble_eq_true rfl) ?_
  intro p e s m below meth c A C hr hlk h ls hl
  obtain ⟨hx, hb, hml, hown, hts⟩ := id C
  replace hl : lv_has ls 2 [(0, .ref h_this), (1, .int p0)] := hl
  unfold f_X4_expect at hf
  refine lv_aload_n hx hb dX4_expect_0 rfl (lv_at hl 0 rfl) ?_
  refine lv_iload_n hx hb dX4_expect_1 rfl (lv_at hl 1 rfl) ?_
  refine r_put (ws' := [(h_this, ob 4 [.ref h_this_waiting, .int x_this_waitingCount, .int x_this_open, .int p0, .int x_this_kind, .int x_this_left, .int x_this_sign, .int x_this_token, .int x_this_tokenAt, .int x_this_numeral, .int x_this_place])]) C h fw_X4_22 0 rfl rfl rfl (Nat.le_of_ble_eq_true rfl) dX4_expect_2 rfl (fun H locs h => ?_)
  refine lv_iconst (v := (1 : Int32)) hx hb dX4_expect_5 rfl ?_
  cases hf
  exact r_iret C h hr hlk rfl dX4_expect_6
set_option maxRecDepth 100000 in
set_option maxHeartbeats 4000000 in
theorem c_X4_acceptsKind {l : Launch} {G : Gt} {h_a0 h_a0_kinds h_a0_deeds h_a0_begins h_a0_steps h_a0_lefts h_a0_rights h_a0_facts h_this h_this_waiting : Nat} {x_a0_count : Int32} {x_a0_size : Int32} {x_this_waitingCount : Int32} {x_this_open : Int32} {x_this_expected : Int32} {x_this_kind : Int32} {x_this_left : Int32} {x_this_sign : Int32} {x_this_token : Int32} {x_this_tokenAt : Int32} {x_this_numeral : Int32} {x_this_place : Int32} {r : Int32} {m_this_expected : Int32} {m_this_kind : Int32} (hf : f_X4_acceptsKind x_a0_count x_this_expected x_this_kind x_this_token = some (r, m_this_expected, m_this_kind)) : mFi l G yX4_acceptsKind cX4_acceptsKind 2 .boolean 1 [.ref h_this, .ref h_a0] [(h_a0, ob 5 [.ref h_a0_kinds, .ref h_a0_deeds, .ref h_a0_begins, .ref h_a0_steps, .ref h_a0_lefts, .ref h_a0_rights, .ref h_a0_facts, .int x_a0_count, .int x_a0_size]), (h_this, ob 4 [.ref h_this_waiting, .int x_this_waitingCount, .int x_this_open, .int x_this_expected, .int x_this_kind, .int x_this_left, .int x_this_sign, .int x_this_token, .int x_this_tokenAt, .int x_this_numeral, .int x_this_place])] r [(h_a0, ob 5 [.ref h_a0_kinds, .ref h_a0_deeds, .ref h_a0_begins, .ref h_a0_steps, .ref h_a0_lefts, .ref h_a0_rights, .ref h_a0_facts, .int x_a0_count, .int x_a0_size]), (h_this, ob 4 [.ref h_this_waiting, .int x_this_waitingCount, .int x_this_open, .int m_this_expected, .int m_this_kind, .int x_this_left, .int x_this_sign, .int x_this_token, .int x_this_tokenAt, .int x_this_numeral, .int x_this_place])] := by
  refine mFi.of (by decide +kernel) (Nat.le_of_ble_eq_true rfl) ?_
  intro p e s m below meth c A C hr hlk h ls hl
  obtain ⟨hx, hb, hml, hown, hts⟩ := id C
  replace hl : lv_has ls 2 [(0, .ref h_this), (1, .ref h_a0)] := hl
  unfold f_X4_acceptsKind at hf
  refine lv_aload_n hx hb dX4_acceptsKind_0 rfl (lv_at hl 0 rfl) ?_
  refine r_get C h fk_X4_34 1 rfl rfl dX4_acceptsKind_1 ?_
  refine lv_iconst (v := (5 : Int32)) hx hb dX4_acceptsKind_4 rfl ?_
  refine lv_icmp_gt (tgt := 17) hx hb dX4_acceptsKind_5 rfl (fun c1 => ?_) (fun c1 => ?_)
  · replace hf := ifp c1 hf
    refine lv_iconst (v := (0 : Int32)) hx hb dX4_acceptsKind_17 rfl ?_
    cases hf
    exact r_iret C h hr hlk rfl dX4_acceptsKind_18
  · replace hf := ifn c1 hf
    refine lv_aload_n hx hb dX4_acceptsKind_8 rfl (lv_at hl 1 rfl) ?_
    refine r_get C h fk_X4_107 0 rfl rfl dX4_acceptsKind_9 ?_
    refine lv_bipush (v := (8 : Int32)) hx hb dX4_acceptsKind_12 rfl ?_
    refine lv_icmp_lt (tgt := 19) hx hb dX4_acceptsKind_14 rfl (fun c2 => ?_) (fun c2 => ?_)
    · replace hf := ifp c2 hf
      refine lv_aload_n hx hb dX4_acceptsKind_19 rfl (lv_at hl 0 rfl) ?_
      refine lv_aload_n hx hb dX4_acceptsKind_20 rfl (lv_at hl 0 rfl) ?_
      refine r_get C h fk_X4_34 1 rfl rfl dX4_acceptsKind_21 ?_
      refine r_put (ws' := [(h_a0, ob 5 [.ref h_a0_kinds, .ref h_a0_deeds, .ref h_a0_begins, .ref h_a0_steps, .ref h_a0_lefts, .ref h_a0_rights, .ref h_a0_facts, .int x_a0_count, .int x_a0_size]), (h_this, ob 4 [.ref h_this_waiting, .int x_this_waitingCount, .int x_this_open, .int x_this_expected, .int x_this_token, .int x_this_left, .int x_this_sign, .int x_this_token, .int x_this_tokenAt, .int x_this_numeral, .int x_this_place])]) C h fw_X4_25 1 rfl rfl rfl (Nat.le_of_ble_eq_true rfl) dX4_acceptsKind_24 rfl (fun H locs h => ?_)
      refine lv_aload_n hx hb dX4_acceptsKind_27 rfl (lv_at hl 0 rfl) ?_
      refine lv_iconst (v := (1 : Int32)) hx hb dX4_acceptsKind_28 rfl ?_
      replace hf := bd2_inv hf
      obtain ⟨r3, y4, hc5, hf⟩ := hf
      refine r_ciV (ws' := [(h_a0, ob 5 [.ref h_a0_kinds, .ref h_a0_deeds, .ref h_a0_begins, .ref h_a0_steps, .ref h_a0_lefts, .ref h_a0_rights, .ref h_a0_facts, .int x_a0_count, .int x_a0_size]), (h_this, ob 4 [.ref h_this_waiting, .int x_this_waitingCount, .int x_this_open, .int y4, .int x_this_token, .int x_this_left, .int x_this_sign, .int x_this_token, .int x_this_tokenAt, .int x_this_numeral, .int x_this_place])]) C h (c_X4_expect hc5) mv_X4_88 rfl 1 rfl [1] rfl rfl [1] [(h_this, ob 4 [.ref h_this_waiting, .int x_this_waitingCount, .int x_this_open, .int y4, .int x_this_token, .int x_this_left, .int x_this_sign, .int x_this_token, .int x_this_tokenAt, .int x_this_numeral, .int x_this_place])] rfl rfl (by decide +kernel) rfl hl.1 rfl (Nat.le_of_ble_eq_true rfl) (rok (by decide)) dX4_acceptsKind_29 (fun H locs h => ?_)
      replace hf := chkB_inv hf
      obtain ⟨hb6, hf⟩ := hf
      cases hf
      exact r_iret C h hr hlk hb6 dX4_acceptsKind_32
    · replace hf := ifn c2 hf
      refine lv_iconst (v := (0 : Int32)) hx hb dX4_acceptsKind_17 rfl ?_
      cases hf
      exact r_iret C h hr hlk rfl dX4_acceptsKind_18
set_option maxRecDepth 100000 in
set_option maxHeartbeats 4000000 in
theorem c_X5_addRule {l : Launch} {G : Gt} {h_this h_this_kinds h_this_deeds h_this_begins h_this_steps h_this_lefts h_this_rights h_this_facts : Nat} {p0 : Int32} {p1 : Int32} {x_this_count : Int32} {x_this_size : Int32} {f_this_begins : Nat → Int32} {f_this_deeds : Nat → Int32} {f_this_kinds : Nat → Int32} {m_this_count : Int32} {m_this_begins : Nat → Int32} {m_this_deeds : Nat → Int32} {m_this_kinds : Nat → Int32} (hf : f_X5_addRule p0 p1 x_this_count x_this_size f_this_begins f_this_deeds f_this_kinds = some (m_this_count, m_this_begins, m_this_deeds, m_this_kinds)) : mFv l G yX5_addRule cX5_addRule 3 0 [.ref h_this, .int p0, .int p1] [(h_this, ob 5 [.ref h_this_kinds, .ref h_this_deeds, .ref h_this_begins, .ref h_this_steps, .ref h_this_lefts, .ref h_this_rights, .ref h_this_facts, .int x_this_count, .int x_this_size]), (h_this_begins, ia G 9 f_this_begins), (h_this_deeds, ia G 8 f_this_deeds), (h_this_kinds, ia G 8 f_this_kinds)] [(h_this, ob 5 [.ref h_this_kinds, .ref h_this_deeds, .ref h_this_begins, .ref h_this_steps, .ref h_this_lefts, .ref h_this_rights, .ref h_this_facts, .int m_this_count, .int x_this_size]), (h_this_begins, ia G 9 m_this_begins), (h_this_deeds, ia G 8 m_this_deeds), (h_this_kinds, ia G 8 m_this_kinds)] := by
  refine mFv.of (by decide +kernel) (Nat.le_of_ble_eq_true rfl) ?_
  intro p e s m below meth c A C hr hlk h ls hl
  obtain ⟨hx, hb, hml, hown, hts⟩ := id C
  replace hl : lv_has ls 3 [(0, .ref h_this), (1, .int p0), (2, .int p1)] := hl
  unfold f_X5_addRule at hf
  refine lv_aload_n hx hb dX5_addRule_0 rfl (lv_at hl 0 rfl) ?_
  refine r_get C h fk_X5_33 0 rfl rfl dX5_addRule_1 ?_
  refine lv_bipush (v := (8 : Int32)) hx hb dX5_addRule_4 rfl ?_
  refine lv_icmp_ge (tgt := 52) hx hb dX5_addRule_6 rfl (fun c1 => ?_) (fun c1 => ?_)
  · replace hf := ifp c1 hf
    cases hf
    exact r_vret C h hr hlk dX5_addRule_52
  · replace hf := ifn c1 hf
    refine lv_aload_n hx hb dX5_addRule_9 rfl (lv_at hl 0 rfl) ?_
    refine r_get C h fk_X5_9 0 rfl rfl dX5_addRule_10 ?_
    refine lv_aload_n hx hb dX5_addRule_13 rfl (lv_at hl 0 rfl) ?_
    refine r_get C h fk_X5_33 0 rfl rfl dX5_addRule_14 ?_
    refine lv_iload_n hx hb dX5_addRule_17 rfl (lv_at hl 1 rfl) ?_
    replace hf := chkI_inv hf
    obtain ⟨hi2, hf⟩ := hf
    refine r_iast (ws' := [(h_this, ob 5 [.ref h_this_kinds, .ref h_this_deeds, .ref h_this_begins, .ref h_this_steps, .ref h_this_lefts, .ref h_this_rights, .ref h_this_facts, .int x_this_count, .int x_this_size]), (h_this_begins, ia G 9 f_this_begins), (h_this_deeds, ia G 8 f_this_deeds), (h_this_kinds, ia G 8 (upd f_this_kinds x_this_count.toNatClampNeg p0))]) C h 3 rfl hi2 dX5_addRule_18 rfl (fun H locs h => ?_)
    refine lv_aload_n hx hb dX5_addRule_19 rfl (lv_at hl 0 rfl) ?_
    refine r_get C h fk_X5_15 0 rfl rfl dX5_addRule_20 ?_
    refine lv_aload_n hx hb dX5_addRule_23 rfl (lv_at hl 0 rfl) ?_
    refine r_get C h fk_X5_33 0 rfl rfl dX5_addRule_24 ?_
    refine lv_iload_n hx hb dX5_addRule_27 rfl (lv_at hl 2 rfl) ?_
    replace hf := chkI_inv hf
    obtain ⟨hi3, hf⟩ := hf
    refine r_iast (ws' := [(h_this, ob 5 [.ref h_this_kinds, .ref h_this_deeds, .ref h_this_begins, .ref h_this_steps, .ref h_this_lefts, .ref h_this_rights, .ref h_this_facts, .int x_this_count, .int x_this_size]), (h_this_begins, ia G 9 f_this_begins), (h_this_deeds, ia G 8 (upd f_this_deeds x_this_count.toNatClampNeg p1)), (h_this_kinds, ia G 8 (upd f_this_kinds x_this_count.toNatClampNeg p0))]) C h 2 rfl hi3 dX5_addRule_28 rfl (fun H locs h => ?_)
    refine lv_aload_n hx hb dX5_addRule_29 rfl (lv_at hl 0 rfl) ?_
    refine lv_dup hx hb dX5_addRule_30 rfl ?_
    refine r_get C h fk_X5_33 0 rfl rfl dX5_addRule_31 ?_
    refine lv_iconst (v := (1 : Int32)) hx hb dX5_addRule_34 rfl ?_
    refine lv_iadd hx hb dX5_addRule_35 ?_
    refine lv_topi (fun t4 et4 => ?_)
    replace hf := lt1_inv et4 hf
    refine r_put (ws' := [(h_this, ob 5 [.ref h_this_kinds, .ref h_this_deeds, .ref h_this_begins, .ref h_this_steps, .ref h_this_lefts, .ref h_this_rights, .ref h_this_facts, .int t4, .int x_this_size]), (h_this_begins, ia G 9 f_this_begins), (h_this_deeds, ia G 8 (upd f_this_deeds x_this_count.toNatClampNeg p1)), (h_this_kinds, ia G 8 (upd f_this_kinds x_this_count.toNatClampNeg p0))]) C h fw_X5_33 0 rfl rfl rfl (Nat.le_of_ble_eq_true rfl) dX5_addRule_36 rfl (fun H locs h => ?_)
    refine lv_aload_n hx hb dX5_addRule_39 rfl (lv_at hl 0 rfl) ?_
    refine r_get C h fk_X5_18 0 rfl rfl dX5_addRule_40 ?_
    refine lv_aload_n hx hb dX5_addRule_43 rfl (lv_at hl 0 rfl) ?_
    refine r_get C h fk_X5_33 0 rfl rfl dX5_addRule_44 ?_
    refine lv_aload_n hx hb dX5_addRule_47 rfl (lv_at hl 0 rfl) ?_
    refine r_get C h fk_X5_37 0 rfl rfl dX5_addRule_48 ?_
    replace hf := chkI_inv hf
    obtain ⟨hi5, hf⟩ := hf
    refine r_iast (ws' := [(h_this, ob 5 [.ref h_this_kinds, .ref h_this_deeds, .ref h_this_begins, .ref h_this_steps, .ref h_this_lefts, .ref h_this_rights, .ref h_this_facts, .int t4, .int x_this_size]), (h_this_begins, ia G 9 (upd f_this_begins t4.toNatClampNeg x_this_size)), (h_this_deeds, ia G 8 (upd f_this_deeds x_this_count.toNatClampNeg p1)), (h_this_kinds, ia G 8 (upd f_this_kinds x_this_count.toNatClampNeg p0))]) C h 1 rfl hi5 dX5_addRule_51 rfl (fun H locs h => ?_)
    cases hf
    exact r_vret C h hr hlk dX5_addRule_52
set_option maxRecDepth 100000 in
set_option maxHeartbeats 4000000 in
theorem c_X4_acceptsDo {l : Launch} {G : Gt} {h_a0 h_a0_kinds h_a0_deeds h_a0_begins h_a0_steps h_a0_lefts h_a0_rights h_a0_facts h_this h_this_waiting : Nat} {x_a0_count : Int32} {x_a0_size : Int32} {f_a0_begins : Nat → Int32} {f_a0_deeds : Nat → Int32} {f_a0_kinds : Nat → Int32} {x_this_waitingCount : Int32} {x_this_open : Int32} {x_this_expected : Int32} {x_this_kind : Int32} {x_this_left : Int32} {x_this_sign : Int32} {x_this_token : Int32} {x_this_tokenAt : Int32} {x_this_numeral : Int32} {x_this_place : Int32} {r : Int32} {m_a0_count : Int32} {m_a0_begins : Nat → Int32} {m_a0_deeds : Nat → Int32} {m_a0_kinds : Nat → Int32} {m_this_expected : Int32} (hf : f_X4_acceptsDo x_a0_count x_a0_size f_a0_begins f_a0_deeds f_a0_kinds x_this_expected x_this_kind x_this_token = some (r, m_a0_count, m_a0_begins, m_a0_deeds, m_a0_kinds, m_this_expected)) : mFi l G yX4_acceptsDo cX4_acceptsDo 2 .boolean 1 [.ref h_this, .ref h_a0] [(h_a0, ob 5 [.ref h_a0_kinds, .ref h_a0_deeds, .ref h_a0_begins, .ref h_a0_steps, .ref h_a0_lefts, .ref h_a0_rights, .ref h_a0_facts, .int x_a0_count, .int x_a0_size]), (h_a0_begins, ia G 9 f_a0_begins), (h_a0_deeds, ia G 8 f_a0_deeds), (h_a0_kinds, ia G 8 f_a0_kinds), (h_this, ob 4 [.ref h_this_waiting, .int x_this_waitingCount, .int x_this_open, .int x_this_expected, .int x_this_kind, .int x_this_left, .int x_this_sign, .int x_this_token, .int x_this_tokenAt, .int x_this_numeral, .int x_this_place])] r [(h_a0, ob 5 [.ref h_a0_kinds, .ref h_a0_deeds, .ref h_a0_begins, .ref h_a0_steps, .ref h_a0_lefts, .ref h_a0_rights, .ref h_a0_facts, .int m_a0_count, .int x_a0_size]), (h_a0_begins, ia G 9 m_a0_begins), (h_a0_deeds, ia G 8 m_a0_deeds), (h_a0_kinds, ia G 8 m_a0_kinds), (h_this, ob 4 [.ref h_this_waiting, .int x_this_waitingCount, .int x_this_open, .int m_this_expected, .int x_this_kind, .int x_this_left, .int x_this_sign, .int x_this_token, .int x_this_tokenAt, .int x_this_numeral, .int x_this_place])] := by
  refine mFi.of (by decide +kernel) (Nat.le_of_ble_eq_true rfl) ?_
  intro p e s m below meth c A C hr hlk h ls hl
  obtain ⟨hx, hb, hml, hown, hts⟩ := id C
  replace hl : lv_has ls 2 [(0, .ref h_this), (1, .ref h_a0)] := hl
  unfold f_X4_acceptsDo at hf
  refine lv_aload_n hx hb dX4_acceptsDo_0 rfl (lv_at hl 0 rfl) ?_
  refine r_get C h fk_X4_34 4 rfl rfl dX4_acceptsDo_1 ?_
  refine lv_bipush (v := (6 : Int32)) hx hb dX4_acceptsDo_4 rfl ?_
  refine lv_icmp_lt (tgt := 18) hx hb dX4_acceptsDo_6 rfl (fun c1 => ?_) (fun c1 => ?_)
  · replace hf := ifp c1 hf
    refine lv_iconst (v := (0 : Int32)) hx hb dX4_acceptsDo_18 rfl ?_
    obtain ⟨rfl, rfl, rfl, rfl, rfl, rfl⟩ := sm6 hf
    exact r_iret C h hr hlk rfl dX4_acceptsDo_19
  · replace hf := ifn c1 hf
    refine lv_aload_n hx hb dX4_acceptsDo_9 rfl (lv_at hl 0 rfl) ?_
    refine r_get C h fk_X4_34 4 rfl rfl dX4_acceptsDo_10 ?_
    refine lv_bipush (v := (8 : Int32)) hx hb dX4_acceptsDo_13 rfl ?_
    refine lv_icmp_le (tgt := 20) hx hb dX4_acceptsDo_15 rfl (fun c2 => ?_) (fun c2 => ?_)
    · replace hf := ifp c2 hf
      refine lv_aload_n hx hb dX4_acceptsDo_20 rfl (lv_at hl 1 rfl) ?_
      refine lv_aload_n hx hb dX4_acceptsDo_21 rfl (lv_at hl 0 rfl) ?_
      refine r_get C h fk_X4_25 4 rfl rfl dX4_acceptsDo_22 ?_
      refine lv_aload_n hx hb dX4_acceptsDo_25 rfl (lv_at hl 0 rfl) ?_
      refine r_get C h fk_X4_34 4 rfl rfl dX4_acceptsDo_26 ?_
      refine lv_bipush (v := (6 : Int32)) hx hb dX4_acceptsDo_29 rfl ?_
      refine lv_isub hx hb dX4_acceptsDo_31 ?_
      replace hf := bd4_inv hf
      obtain ⟨y3, g4, g5, g6, hc7, hf⟩ := hf
      refine r_cvV (ws' := [(h_a0, ob 5 [.ref h_a0_kinds, .ref h_a0_deeds, .ref h_a0_begins, .ref h_a0_steps, .ref h_a0_lefts, .ref h_a0_rights, .ref h_a0_facts, .int y3, .int x_a0_size]), (h_a0_begins, ia G 9 g4), (h_a0_deeds, ia G 8 g5), (h_a0_kinds, ia G 8 g6), (h_this, ob 4 [.ref h_this_waiting, .int x_this_waitingCount, .int x_this_open, .int x_this_expected, .int x_this_kind, .int x_this_left, .int x_this_sign, .int x_this_token, .int x_this_tokenAt, .int x_this_numeral, .int x_this_place])]) C h (c_X5_addRule hc7) mv_X4_110 rfl 0 rfl [0, 1, 2, 3] rfl rfl [0, 1, 2, 3] [(h_a0, ob 5 [.ref h_a0_kinds, .ref h_a0_deeds, .ref h_a0_begins, .ref h_a0_steps, .ref h_a0_lefts, .ref h_a0_rights, .ref h_a0_facts, .int y3, .int x_a0_size]), (h_a0_begins, ia G 9 g4), (h_a0_deeds, ia G 8 g5), (h_a0_kinds, ia G 8 g6)] rfl rfl (by decide +kernel) rfl hl.1 rfl (Nat.le_of_ble_eq_true rfl) (rok (by decide)) dX4_acceptsDo_32 (fun H locs h => ?_)
      refine lv_aload_n hx hb dX4_acceptsDo_35 rfl (lv_at hl 0 rfl) ?_
      refine lv_bipush (v := (6 : Int32)) hx hb dX4_acceptsDo_36 rfl ?_
      replace hf := bd2_inv hf
      obtain ⟨r8, y9, hc10, hf⟩ := hf
      refine r_ciV (ws' := [(h_a0, ob 5 [.ref h_a0_kinds, .ref h_a0_deeds, .ref h_a0_begins, .ref h_a0_steps, .ref h_a0_lefts, .ref h_a0_rights, .ref h_a0_facts, .int y3, .int x_a0_size]), (h_a0_begins, ia G 9 g4), (h_a0_deeds, ia G 8 g5), (h_a0_kinds, ia G 8 g6), (h_this, ob 4 [.ref h_this_waiting, .int x_this_waitingCount, .int x_this_open, .int y9, .int x_this_kind, .int x_this_left, .int x_this_sign, .int x_this_token, .int x_this_tokenAt, .int x_this_numeral, .int x_this_place])]) C h (c_X4_expect hc10) mv_X4_88 rfl 4 rfl [4] rfl rfl [4] [(h_this, ob 4 [.ref h_this_waiting, .int x_this_waitingCount, .int x_this_open, .int y9, .int x_this_kind, .int x_this_left, .int x_this_sign, .int x_this_token, .int x_this_tokenAt, .int x_this_numeral, .int x_this_place])] rfl rfl (by decide +kernel) rfl hl.1 rfl (Nat.le_of_ble_eq_true rfl) (rok (by decide)) dX4_acceptsDo_38 (fun H locs h => ?_)
      replace hf := chkB_inv hf
      obtain ⟨hb11, hf⟩ := hf
      obtain ⟨rfl, rfl, rfl, rfl, rfl, rfl⟩ := sm6 hf
      exact r_iret C h hr hlk hb11 dX4_acceptsDo_41
    · replace hf := ifn c2 hf
      refine lv_iconst (v := (0 : Int32)) hx hb dX4_acceptsDo_18 rfl ?_
      obtain ⟨rfl, rfl, rfl, rfl, rfl, rfl⟩ := sm6 hf
      exact r_iret C h hr hlk rfl dX4_acceptsDo_19
set_option maxRecDepth 100000 in
set_option maxHeartbeats 4000000 in
theorem c_X4_await {l : Launch} {G : Gt} {h_this h_this_waiting : Nat} {p0 : Int32} {x_this_waitingCount : Int32} {x_this_open : Int32} {x_this_expected : Int32} {x_this_kind : Int32} {x_this_left : Int32} {x_this_sign : Int32} {x_this_token : Int32} {x_this_tokenAt : Int32} {x_this_numeral : Int32} {x_this_place : Int32} {f_this_waiting : Nat → Int32} {m_this_waitingCount : Int32} {m_this_waiting : Nat → Int32} (hf : f_X4_await p0 x_this_waitingCount f_this_waiting = some (m_this_waitingCount, m_this_waiting)) : mFv l G yX4_await cX4_await 2 0 [.ref h_this, .int p0] [(h_this, ob 4 [.ref h_this_waiting, .int x_this_waitingCount, .int x_this_open, .int x_this_expected, .int x_this_kind, .int x_this_left, .int x_this_sign, .int x_this_token, .int x_this_tokenAt, .int x_this_numeral, .int x_this_place]), (h_this_waiting, ia G 200 f_this_waiting)] [(h_this, ob 4 [.ref h_this_waiting, .int m_this_waitingCount, .int x_this_open, .int x_this_expected, .int x_this_kind, .int x_this_left, .int x_this_sign, .int x_this_token, .int x_this_tokenAt, .int x_this_numeral, .int x_this_place]), (h_this_waiting, ia G 200 m_this_waiting)] := by
  refine mFv.of (by decide +kernel) (Nat.le_of_ble_eq_true rfl) ?_
  intro p e s m below meth c A C hr hlk h ls hl
  obtain ⟨hx, hb, hml, hown, hts⟩ := id C
  replace hl : lv_has ls 2 [(0, .ref h_this), (1, .int p0)] := hl
  unfold f_X4_await at hf
  refine lv_aload_n hx hb dX4_await_0 rfl (lv_at hl 0 rfl) ?_
  refine r_get C h fk_X4_15 0 rfl rfl dX4_await_1 ?_
  refine lv_sipush (v := (200 : Int32)) hx hb dX4_await_4 rfl ?_
  refine lv_icmp_ge (tgt := 30) hx hb dX4_await_7 rfl (fun c1 => ?_) (fun c1 => ?_)
  · replace hf := ifp c1 hf
    cases hf
    exact r_vret C h hr hlk dX4_await_30
  · replace hf := ifn c1 hf
    refine lv_aload_n hx hb dX4_await_10 rfl (lv_at hl 0 rfl) ?_
    refine r_get C h fk_X4_9 0 rfl rfl dX4_await_11 ?_
    refine lv_aload_n hx hb dX4_await_14 rfl (lv_at hl 0 rfl) ?_
    refine r_get C h fk_X4_15 0 rfl rfl dX4_await_15 ?_
    refine lv_iload_n hx hb dX4_await_18 rfl (lv_at hl 1 rfl) ?_
    replace hf := chkI_inv hf
    obtain ⟨hi2, hf⟩ := hf
    refine r_iast (ws' := [(h_this, ob 4 [.ref h_this_waiting, .int x_this_waitingCount, .int x_this_open, .int x_this_expected, .int x_this_kind, .int x_this_left, .int x_this_sign, .int x_this_token, .int x_this_tokenAt, .int x_this_numeral, .int x_this_place]), (h_this_waiting, ia G 200 (upd f_this_waiting x_this_waitingCount.toNatClampNeg p0))]) C h 1 rfl hi2 dX4_await_19 rfl (fun H locs h => ?_)
    refine lv_aload_n hx hb dX4_await_20 rfl (lv_at hl 0 rfl) ?_
    refine lv_dup hx hb dX4_await_21 rfl ?_
    refine r_get C h fk_X4_15 0 rfl rfl dX4_await_22 ?_
    refine lv_iconst (v := (1 : Int32)) hx hb dX4_await_25 rfl ?_
    refine lv_iadd hx hb dX4_await_26 ?_
    refine lv_topi (fun t3 et3 => ?_)
    replace hf := lt1_inv et3 hf
    refine r_put (ws' := [(h_this, ob 4 [.ref h_this_waiting, .int t3, .int x_this_open, .int x_this_expected, .int x_this_kind, .int x_this_left, .int x_this_sign, .int x_this_token, .int x_this_tokenAt, .int x_this_numeral, .int x_this_place]), (h_this_waiting, ia G 200 (upd f_this_waiting x_this_waitingCount.toNatClampNeg p0))]) C h fw_X4_15 0 rfl rfl rfl (Nat.le_of_ble_eq_true rfl) dX4_await_27 rfl (fun H locs h => ?_)
    cases hf
    exact r_vret C h hr hlk dX4_await_30
set_option maxRecDepth 100000 in
set_option maxHeartbeats 4000000 in
theorem c_X4_valueOfToken {l : Launch} {G : Gt} {h_this h_this_waiting : Nat} {x_this_waitingCount : Int32} {x_this_open : Int32} {x_this_expected : Int32} {x_this_kind : Int32} {x_this_left : Int32} {x_this_sign : Int32} {x_this_token : Int32} {x_this_tokenAt : Int32} {x_this_numeral : Int32} {x_this_place : Int32} {r : Int32} (hf : f_X4_valueOfToken x_this_token x_this_numeral = some r) : mFi l G yX4_valueOfToken cX4_valueOfToken 1 .int 0 [.ref h_this] [(h_this, ob 4 [.ref h_this_waiting, .int x_this_waitingCount, .int x_this_open, .int x_this_expected, .int x_this_kind, .int x_this_left, .int x_this_sign, .int x_this_token, .int x_this_tokenAt, .int x_this_numeral, .int x_this_place])] r [(h_this, ob 4 [.ref h_this_waiting, .int x_this_waitingCount, .int x_this_open, .int x_this_expected, .int x_this_kind, .int x_this_left, .int x_this_sign, .int x_this_token, .int x_this_tokenAt, .int x_this_numeral, .int x_this_place])] := by
  refine mFi.of (by decide +kernel) (Nat.le_of_ble_eq_true rfl) ?_
  intro p e s m below meth c A C hr hlk h ls hl
  obtain ⟨hx, hb, hml, hown, hts⟩ := id C
  replace hl : lv_has ls 1 [(0, .ref h_this)] := hl
  unfold f_X4_valueOfToken at hf
  refine lv_aload_n hx hb dX4_valueOfToken_0 rfl (lv_at hl 0 rfl) ?_
  refine r_get C h fk_X4_34 0 rfl rfl dX4_valueOfToken_1 ?_
  refine lv_bipush (v := (18 : Int32)) hx hb dX4_valueOfToken_4 rfl ?_
  refine lv_icmp_ne (tgt := 14) hx hb dX4_valueOfToken_6 rfl (fun c1 => ?_) (fun c1 => ?_)
  · replace hf := ifn c1 hf
    refine lv_aload_n hx hb dX4_valueOfToken_14 rfl (lv_at hl 0 rfl) ?_
    refine r_get C h fk_X4_34 0 rfl rfl dX4_valueOfToken_15 ?_
    refine lv_bipush (v := (13 : Int32)) hx hb dX4_valueOfToken_18 rfl ?_
    refine lv_icmp_lt (tgt := 46) hx hb dX4_valueOfToken_20 rfl (fun c2 => ?_) (fun c2 => ?_)
    · replace hf := ifp c2 hf
      refine lv_bipush (v := (-3 : Int32)) hx hb dX4_valueOfToken_46 rfl ?_
      cases hf
      exact r_iret C h hr hlk rfl dX4_valueOfToken_48
    · replace hf := ifn c2 hf
      refine lv_aload_n hx hb dX4_valueOfToken_23 rfl (lv_at hl 0 rfl) ?_
      refine r_get C h fk_X4_34 0 rfl rfl dX4_valueOfToken_24 ?_
      refine lv_bipush (v := (17 : Int32)) hx hb dX4_valueOfToken_27 rfl ?_
      refine lv_icmp_gt (tgt := 46) hx hb dX4_valueOfToken_29 rfl (fun c3 => ?_) (fun c3 => ?_)
      · replace hf := ifp c3 hf
        refine lv_bipush (v := (-3 : Int32)) hx hb dX4_valueOfToken_46 rfl ?_
        cases hf
        exact r_iret C h hr hlk rfl dX4_valueOfToken_48
      · replace hf := ifn c3 hf
        refine lv_sipush (v := (10000 : Int32)) hx hb dX4_valueOfToken_32 rfl ?_
        refine lv_aload_n hx hb dX4_valueOfToken_35 rfl (lv_at hl 0 rfl) ?_
        refine r_get C h fk_X4_34 0 rfl rfl dX4_valueOfToken_36 ?_
        refine lv_iadd hx hb dX4_valueOfToken_39 ?_
        refine lv_bipush (v := (13 : Int32)) hx hb dX4_valueOfToken_40 rfl ?_
        refine lv_isub hx hb dX4_valueOfToken_42 ?_
        refine lv_goto (tgt := 48) hx hb dX4_valueOfToken_43 rfl ?_
        cases hf
        exact r_iret C h hr hlk rfl dX4_valueOfToken_48
  · replace hf := ifp c1 hf
    refine lv_aload_n hx hb dX4_valueOfToken_9 rfl (lv_at hl 0 rfl) ?_
    refine r_get C h fk_X4_40 0 rfl rfl dX4_valueOfToken_10 ?_
    cases hf
    exact r_iret C h hr hlk rfl dX4_valueOfToken_13
set_option maxRecDepth 100000 in
set_option maxHeartbeats 4000000 in
theorem c_X4_acceptsOne {l : Launch} {G : Gt} {h_this h_this_waiting : Nat} {x_this_waitingCount : Int32} {x_this_open : Int32} {x_this_expected : Int32} {x_this_kind : Int32} {x_this_left : Int32} {x_this_sign : Int32} {x_this_token : Int32} {x_this_tokenAt : Int32} {x_this_numeral : Int32} {x_this_place : Int32} {f_this_waiting : Nat → Int32} {r : Int32} {m_this_waitingCount : Int32} {m_this_open : Int32} {m_this_expected : Int32} {m_this_left : Int32} {m_this_waiting : Nat → Int32} (hf : f_X4_acceptsOne x_this_waitingCount x_this_open x_this_expected x_this_left x_this_token x_this_numeral f_this_waiting = some (r, m_this_waitingCount, m_this_open, m_this_expected, m_this_left, m_this_waiting)) : mFi l G yX4_acceptsOne cX4_acceptsOne 1 .boolean 1 [.ref h_this] [(h_this, ob 4 [.ref h_this_waiting, .int x_this_waitingCount, .int x_this_open, .int x_this_expected, .int x_this_kind, .int x_this_left, .int x_this_sign, .int x_this_token, .int x_this_tokenAt, .int x_this_numeral, .int x_this_place]), (h_this_waiting, ia G 200 f_this_waiting)] r [(h_this, ob 4 [.ref h_this_waiting, .int m_this_waitingCount, .int m_this_open, .int m_this_expected, .int x_this_kind, .int m_this_left, .int x_this_sign, .int x_this_token, .int x_this_tokenAt, .int x_this_numeral, .int x_this_place]), (h_this_waiting, ia G 200 m_this_waiting)] := by
  refine mFi.of (by decide +kernel) (Nat.le_of_ble_eq_true rfl) ?_
  intro p e s m below meth c A C hr hlk h ls hl
  obtain ⟨hx, hb, hml, hown, hts⟩ := id C
  replace hl : lv_has ls 1 [(0, .ref h_this)] := hl
  unfold f_X4_acceptsOne at hf
  refine lv_aload_n hx hb dX4_acceptsOne_0 rfl (lv_at hl 0 rfl) ?_
  refine r_get C h fk_X4_34 0 rfl rfl dX4_acceptsOne_1 ?_
  refine lv_bipush (v := (12 : Int32)) hx hb dX4_acceptsOne_4 rfl ?_
  refine lv_icmp_ne (tgt := 16) hx hb dX4_acceptsOne_6 rfl (fun c1 => ?_) (fun c1 => ?_)
  · replace hf := ifn c1 hf
    refine lv_aload_n hx hb dX4_acceptsOne_16 rfl (lv_at hl 0 rfl) ?_
    refine r_get C h fk_X4_34 0 rfl rfl dX4_acceptsOne_17 ?_
    refine lv_sipush (v := (296 : Int32)) hx hb dX4_acceptsOne_20 rfl ?_
    refine lv_icmp_ne (tgt := 53) hx hb dX4_acceptsOne_23 rfl (fun c2 => ?_) (fun c2 => ?_)
    · replace hf := ifn c2 hf
      refine lv_aload_n hx hb dX4_acceptsOne_53 rfl (lv_at hl 0 rfl) ?_
      refine lv_aload_n hx hb dX4_acceptsOne_54 rfl (lv_at hl 0 rfl) ?_
      replace hf := bd1_inv hf
      obtain ⟨r3, hc4, hf⟩ := hf
      refine r_ciV0 C h (c_X4_valueOfToken hc4) mv_X4_118 rfl 0 rfl [0] rfl rfl hl.1 rfl (Nat.le_of_ble_eq_true rfl) (rok (by decide)) dX4_acceptsOne_55 (fun H locs h => ?_)
      refine r_put (ws' := [(h_this, ob 4 [.ref h_this_waiting, .int x_this_waitingCount, .int x_this_open, .int x_this_expected, .int x_this_kind, .int r3, .int x_this_sign, .int x_this_token, .int x_this_tokenAt, .int x_this_numeral, .int x_this_place]), (h_this_waiting, ia G 200 f_this_waiting)]) C h fw_X4_28 0 rfl rfl rfl (Nat.le_of_ble_eq_true rfl) dX4_acceptsOne_58 rfl (fun H locs h => ?_)
      refine lv_aload_n hx hb dX4_acceptsOne_61 rfl (lv_at hl 0 rfl) ?_
      refine r_get C h fk_X4_28 0 rfl rfl dX4_acceptsOne_62 ?_
      refine lv_bipush (v := (-3 : Int32)) hx hb dX4_acceptsOne_65 rfl ?_
      refine lv_icmp_eq (tgt := 82) hx hb dX4_acceptsOne_67 rfl (fun c5 => ?_) (fun c5 => ?_)
      · replace hf := ifp c5 hf
        refine lv_iconst (v := (0 : Int32)) hx hb dX4_acceptsOne_82 rfl ?_
        obtain ⟨rfl, rfl, rfl, rfl, rfl, rfl⟩ := sm6 hf
        exact r_iret C h hr hlk rfl dX4_acceptsOne_83
      · replace hf := ifn c5 hf
        refine lv_aload_n hx hb dX4_acceptsOne_70 rfl (lv_at hl 0 rfl) ?_
        refine lv_iconst (v := (3 : Int32)) hx hb dX4_acceptsOne_71 rfl ?_
        replace hf := bd2_inv hf
        obtain ⟨r6, y7, hc8, hf⟩ := hf
        refine r_ciV (ws' := [(h_this, ob 4 [.ref h_this_waiting, .int x_this_waitingCount, .int x_this_open, .int y7, .int x_this_kind, .int r3, .int x_this_sign, .int x_this_token, .int x_this_tokenAt, .int x_this_numeral, .int x_this_place]), (h_this_waiting, ia G 200 f_this_waiting)]) C h (c_X4_expect hc8) mv_X4_88 rfl 0 rfl [0] rfl rfl [0] [(h_this, ob 4 [.ref h_this_waiting, .int x_this_waitingCount, .int x_this_open, .int y7, .int x_this_kind, .int r3, .int x_this_sign, .int x_this_token, .int x_this_tokenAt, .int x_this_numeral, .int x_this_place])] rfl rfl (by decide +kernel) rfl hl.1 rfl (Nat.le_of_ble_eq_true rfl) (rok (by decide)) dX4_acceptsOne_72 (fun H locs h => ?_)
        refine lv_if_eq (tgt := 82) hx hb dX4_acceptsOne_75 rfl (fun c9 => ?_) (fun c9 => ?_)
        · replace hf := ifp c9 hf
          refine lv_iconst (v := (0 : Int32)) hx hb dX4_acceptsOne_82 rfl ?_
          obtain ⟨rfl, rfl, rfl, rfl, rfl, rfl⟩ := sm6 hf
          exact r_iret C h hr hlk rfl dX4_acceptsOne_83
        · replace hf := ifn c9 hf
          refine lv_iconst (v := (1 : Int32)) hx hb dX4_acceptsOne_78 rfl ?_
          refine lv_goto (tgt := 83) hx hb dX4_acceptsOne_79 rfl ?_
          obtain ⟨rfl, rfl, rfl, rfl, rfl, rfl⟩ := sm6 hf
          exact r_iret C h hr hlk rfl dX4_acceptsOne_83
    · replace hf := ifp c2 hf
      refine lv_aload_n hx hb dX4_acceptsOne_26 rfl (lv_at hl 0 rfl) ?_
      refine r_get C h fk_X4_19 0 rfl rfl dX4_acceptsOne_27 ?_
      refine lv_iconst (v := (3 : Int32)) hx hb dX4_acceptsOne_30 rfl ?_
      refine lv_icmp_lt (tgt := 36) hx hb dX4_acceptsOne_31 rfl (fun c10 => ?_) (fun c10 => ?_)
      · replace hf := ifp c10 hf
        refine lv_aload_n hx hb dX4_acceptsOne_36 rfl (lv_at hl 0 rfl) ?_
        refine lv_dup hx hb dX4_acceptsOne_37 rfl ?_
        refine r_get C h fk_X4_19 0 rfl rfl dX4_acceptsOne_38 ?_
        refine lv_iconst (v := (1 : Int32)) hx hb dX4_acceptsOne_41 rfl ?_
        refine lv_iadd hx hb dX4_acceptsOne_42 ?_
        refine lv_topi (fun t11 et11 => ?_)
        replace hf := lt1_inv et11 hf
        refine r_put (ws' := [(h_this, ob 4 [.ref h_this_waiting, .int x_this_waitingCount, .int t11, .int x_this_expected, .int x_this_kind, .int x_this_left, .int x_this_sign, .int x_this_token, .int x_this_tokenAt, .int x_this_numeral, .int x_this_place]), (h_this_waiting, ia G 200 f_this_waiting)]) C h fw_X4_19 0 rfl rfl rfl (Nat.le_of_ble_eq_true rfl) dX4_acceptsOne_43 rfl (fun H locs h => ?_)
        refine lv_aload_n hx hb dX4_acceptsOne_46 rfl (lv_at hl 0 rfl) ?_
        refine lv_iconst (v := (0 : Int32)) hx hb dX4_acceptsOne_47 rfl ?_
        replace hf := bd2_inv hf
        obtain ⟨y12, g13, hc14, hf⟩ := hf
        refine r_cvV (ws' := [(h_this, ob 4 [.ref h_this_waiting, .int y12, .int t11, .int x_this_expected, .int x_this_kind, .int x_this_left, .int x_this_sign, .int x_this_token, .int x_this_tokenAt, .int x_this_numeral, .int x_this_place]), (h_this_waiting, ia G 200 g13)]) C h (c_X4_await hc14) mv_X4_114 rfl 0 rfl [0, 1] rfl rfl [0, 1] [(h_this, ob 4 [.ref h_this_waiting, .int y12, .int t11, .int x_this_expected, .int x_this_kind, .int x_this_left, .int x_this_sign, .int x_this_token, .int x_this_tokenAt, .int x_this_numeral, .int x_this_place]), (h_this_waiting, ia G 200 g13)] rfl rfl (by decide +kernel) rfl hl.1 rfl (Nat.le_of_ble_eq_true rfl) (rok (by decide)) dX4_acceptsOne_48 (fun H locs h => ?_)
        refine lv_iconst (v := (1 : Int32)) hx hb dX4_acceptsOne_51 rfl ?_
        obtain ⟨rfl, rfl, rfl, rfl, rfl, rfl⟩ := sm6 hf
        exact r_iret C h hr hlk rfl dX4_acceptsOne_52
      · replace hf := ifn c10 hf
        refine lv_iconst (v := (0 : Int32)) hx hb dX4_acceptsOne_34 rfl ?_
        obtain ⟨rfl, rfl, rfl, rfl, rfl, rfl⟩ := sm6 hf
        exact r_iret C h hr hlk rfl dX4_acceptsOne_35
  · replace hf := ifp c1 hf
    refine lv_aload_n hx hb dX4_acceptsOne_9 rfl (lv_at hl 0 rfl) ?_
    refine lv_iconst (v := (3 : Int32)) hx hb dX4_acceptsOne_10 rfl ?_
    replace hf := bd2_inv hf
    obtain ⟨y15, g16, hc17, hf⟩ := hf
    refine r_cvV (ws' := [(h_this, ob 4 [.ref h_this_waiting, .int y15, .int x_this_open, .int x_this_expected, .int x_this_kind, .int x_this_left, .int x_this_sign, .int x_this_token, .int x_this_tokenAt, .int x_this_numeral, .int x_this_place]), (h_this_waiting, ia G 200 g16)]) C h (c_X4_await hc17) mv_X4_114 rfl 0 rfl [0, 1] rfl rfl [0, 1] [(h_this, ob 4 [.ref h_this_waiting, .int y15, .int x_this_open, .int x_this_expected, .int x_this_kind, .int x_this_left, .int x_this_sign, .int x_this_token, .int x_this_tokenAt, .int x_this_numeral, .int x_this_place]), (h_this_waiting, ia G 200 g16)] rfl rfl (by decide +kernel) rfl hl.1 rfl (Nat.le_of_ble_eq_true rfl) (rok (by decide)) dX4_acceptsOne_11 (fun H locs h => ?_)
    refine lv_iconst (v := (1 : Int32)) hx hb dX4_acceptsOne_14 rfl ?_
    obtain ⟨rfl, rfl, rfl, rfl, rfl, rfl⟩ := sm6 hf
    exact r_iret C h hr hlk rfl dX4_acceptsOne_15
set_option maxRecDepth 100000 in
set_option maxHeartbeats 4000000 in
theorem c_X4_acceptsSign {l : Launch} {G : Gt} {h_this h_this_waiting : Nat} {x_this_waitingCount : Int32} {x_this_open : Int32} {x_this_expected : Int32} {x_this_kind : Int32} {x_this_left : Int32} {x_this_sign : Int32} {x_this_token : Int32} {x_this_tokenAt : Int32} {x_this_numeral : Int32} {x_this_place : Int32} {r : Int32} {m_this_expected : Int32} {m_this_sign : Int32} (hf : f_X4_acceptsSign x_this_expected x_this_sign x_this_token = some (r, m_this_expected, m_this_sign)) : mFi l G yX4_acceptsSign cX4_acceptsSign 1 .boolean 1 [.ref h_this] [(h_this, ob 4 [.ref h_this_waiting, .int x_this_waitingCount, .int x_this_open, .int x_this_expected, .int x_this_kind, .int x_this_left, .int x_this_sign, .int x_this_token, .int x_this_tokenAt, .int x_this_numeral, .int x_this_place])] r [(h_this, ob 4 [.ref h_this_waiting, .int x_this_waitingCount, .int x_this_open, .int m_this_expected, .int x_this_kind, .int x_this_left, .int m_this_sign, .int x_this_token, .int x_this_tokenAt, .int x_this_numeral, .int x_this_place])] := by
  refine mFi.of (by decide +kernel) (Nat.le_of_ble_eq_true rfl) ?_
  intro p e s m below meth c A C hr hlk h ls hl
  obtain ⟨hx, hb, hml, hown, hts⟩ := id C
  replace hl : lv_has ls 1 [(0, .ref h_this)] := hl
  unfold f_X4_acceptsSign at hf
  refine lv_aload_n hx hb dX4_acceptsSign_0 rfl (lv_at hl 0 rfl) ?_
  refine r_get C h fk_X4_34 0 rfl rfl dX4_acceptsSign_1 ?_
  by_cases c1 : x_this_token = (316 : Int32)
  · replace hf := ifp c1 hf
    refine r_tab (tgt := 32) C dX4_acceptsSign_4 (316 : Int32) c1 (by decide) rfl rfl ?_
    refine lv_aload_n hx hb dX4_acceptsSign_32 rfl (lv_at hl 0 rfl) ?_
    refine lv_iconst (v := (4 : Int32)) hx hb dX4_acceptsSign_33 rfl ?_
    refine r_put (ws' := [(h_this, ob 4 [.ref h_this_waiting, .int x_this_waitingCount, .int x_this_open, .int x_this_expected, .int x_this_kind, .int x_this_left, .int (4 : Int32), .int x_this_token, .int x_this_tokenAt, .int x_this_numeral, .int x_this_place])]) C h fw_X4_31 0 rfl rfl rfl (Nat.le_of_ble_eq_true rfl) dX4_acceptsSign_34 rfl (fun H locs h => ?_)
    refine lv_goto (tgt := 59) hx hb dX4_acceptsSign_37 rfl ?_
    refine lv_aload_n hx hb dX4_acceptsSign_59 rfl (lv_at hl 0 rfl) ?_
    refine lv_iconst (v := (4 : Int32)) hx hb dX4_acceptsSign_60 rfl ?_
    replace hf := bd2_inv hf
    obtain ⟨r4, y5, hc6, hf⟩ := hf
    refine r_ciV (ws' := [(h_this, ob 4 [.ref h_this_waiting, .int x_this_waitingCount, .int x_this_open, .int y5, .int x_this_kind, .int x_this_left, .int (4 : Int32), .int x_this_token, .int x_this_tokenAt, .int x_this_numeral, .int x_this_place])]) C h (c_X4_expect hc6) mv_X4_88 rfl 0 rfl [0] rfl rfl [0] [(h_this, ob 4 [.ref h_this_waiting, .int x_this_waitingCount, .int x_this_open, .int y5, .int x_this_kind, .int x_this_left, .int (4 : Int32), .int x_this_token, .int x_this_tokenAt, .int x_this_numeral, .int x_this_place])] rfl rfl (by decide +kernel) rfl hl.1 rfl (Nat.le_of_ble_eq_true rfl) (rok (by decide)) dX4_acceptsSign_61 (fun H locs h => ?_)
    replace hf := chkB_inv hf
    obtain ⟨hb7, hf⟩ := hf
    cases hf
    exact r_iret C h hr hlk hb7 dX4_acceptsSign_64
  · replace hf := ifn c1 hf
    by_cases c2 : x_this_token = (317 : Int32)
    · replace hf := ifp c2 hf
      refine r_tab (tgt := 40) C dX4_acceptsSign_4 (317 : Int32) c2 (by decide) rfl rfl ?_
      refine lv_aload_n hx hb dX4_acceptsSign_40 rfl (lv_at hl 0 rfl) ?_
      refine lv_iconst (v := (5 : Int32)) hx hb dX4_acceptsSign_41 rfl ?_
      refine r_put (ws' := [(h_this, ob 4 [.ref h_this_waiting, .int x_this_waitingCount, .int x_this_open, .int x_this_expected, .int x_this_kind, .int x_this_left, .int (5 : Int32), .int x_this_token, .int x_this_tokenAt, .int x_this_numeral, .int x_this_place])]) C h fw_X4_31 0 rfl rfl rfl (Nat.le_of_ble_eq_true rfl) dX4_acceptsSign_42 rfl (fun H locs h => ?_)
      refine lv_goto (tgt := 59) hx hb dX4_acceptsSign_45 rfl ?_
      refine lv_aload_n hx hb dX4_acceptsSign_59 rfl (lv_at hl 0 rfl) ?_
      refine lv_iconst (v := (4 : Int32)) hx hb dX4_acceptsSign_60 rfl ?_
      replace hf := bd2_inv hf
      obtain ⟨r8, y9, hc10, hf⟩ := hf
      refine r_ciV (ws' := [(h_this, ob 4 [.ref h_this_waiting, .int x_this_waitingCount, .int x_this_open, .int y9, .int x_this_kind, .int x_this_left, .int (5 : Int32), .int x_this_token, .int x_this_tokenAt, .int x_this_numeral, .int x_this_place])]) C h (c_X4_expect hc10) mv_X4_88 rfl 0 rfl [0] rfl rfl [0] [(h_this, ob 4 [.ref h_this_waiting, .int x_this_waitingCount, .int x_this_open, .int y9, .int x_this_kind, .int x_this_left, .int (5 : Int32), .int x_this_token, .int x_this_tokenAt, .int x_this_numeral, .int x_this_place])] rfl rfl (by decide +kernel) rfl hl.1 rfl (Nat.le_of_ble_eq_true rfl) (rok (by decide)) dX4_acceptsSign_61 (fun H locs h => ?_)
      replace hf := chkB_inv hf
      obtain ⟨hb11, hf⟩ := hf
      cases hf
      exact r_iret C h hr hlk hb11 dX4_acceptsSign_64
    · replace hf := ifn c2 hf
      by_cases c3 : x_this_token = (318 : Int32)
      · replace hf := ifp c3 hf
        refine r_tab (tgt := 48) C dX4_acceptsSign_4 (318 : Int32) c3 (by decide) rfl rfl ?_
        refine lv_aload_n hx hb dX4_acceptsSign_48 rfl (lv_at hl 0 rfl) ?_
        refine lv_bipush (v := (6 : Int32)) hx hb dX4_acceptsSign_49 rfl ?_
        refine r_put (ws' := [(h_this, ob 4 [.ref h_this_waiting, .int x_this_waitingCount, .int x_this_open, .int x_this_expected, .int x_this_kind, .int x_this_left, .int (6 : Int32), .int x_this_token, .int x_this_tokenAt, .int x_this_numeral, .int x_this_place])]) C h fw_X4_31 0 rfl rfl rfl (Nat.le_of_ble_eq_true rfl) dX4_acceptsSign_51 rfl (fun H locs h => ?_)
        refine lv_goto (tgt := 59) hx hb dX4_acceptsSign_54 rfl ?_
        refine lv_aload_n hx hb dX4_acceptsSign_59 rfl (lv_at hl 0 rfl) ?_
        refine lv_iconst (v := (4 : Int32)) hx hb dX4_acceptsSign_60 rfl ?_
        replace hf := bd2_inv hf
        obtain ⟨r12, y13, hc14, hf⟩ := hf
        refine r_ciV (ws' := [(h_this, ob 4 [.ref h_this_waiting, .int x_this_waitingCount, .int x_this_open, .int y13, .int x_this_kind, .int x_this_left, .int (6 : Int32), .int x_this_token, .int x_this_tokenAt, .int x_this_numeral, .int x_this_place])]) C h (c_X4_expect hc14) mv_X4_88 rfl 0 rfl [0] rfl rfl [0] [(h_this, ob 4 [.ref h_this_waiting, .int x_this_waitingCount, .int x_this_open, .int y13, .int x_this_kind, .int x_this_left, .int (6 : Int32), .int x_this_token, .int x_this_tokenAt, .int x_this_numeral, .int x_this_place])] rfl rfl (by decide +kernel) rfl hl.1 rfl (Nat.le_of_ble_eq_true rfl) (rok (by decide)) dX4_acceptsSign_61 (fun H locs h => ?_)
        replace hf := chkB_inv hf
        obtain ⟨hb15, hf⟩ := hf
        cases hf
        exact r_iret C h hr hlk hb15 dX4_acceptsSign_64
      · replace hf := ifn c3 hf
        refine r_tabD (tgt := 57) C dX4_acceptsSign_4 [(316 : Int32), (317 : Int32), (318 : Int32)] (by decide) (nel_c c1 (nel_c c2 (nel_c c3 nel_0))) rfl ?_
        refine lv_iconst (v := (0 : Int32)) hx hb dX4_acceptsSign_57 rfl ?_
        cases hf
        exact r_iret C h hr hlk rfl dX4_acceptsSign_58
set_option maxRecDepth 100000 in
set_option maxHeartbeats 4000000 in
theorem c_X5_addStep {l : Launch} {G : Gt} {h_this h_this_kinds h_this_deeds h_this_begins h_this_steps h_this_lefts h_this_rights h_this_facts : Nat} {p0 : Int32} {p1 : Int32} {p2 : Int32} {x_this_count : Int32} {x_this_size : Int32} {f_this_lefts : Nat → Int32} {f_this_rights : Nat → Int32} {f_this_steps : Nat → Int32} {m_this_size : Int32} {m_this_lefts : Nat → Int32} {m_this_rights : Nat → Int32} {m_this_steps : Nat → Int32} (hf : f_X5_addStep p0 p1 p2 x_this_size f_this_lefts f_this_rights f_this_steps = some (m_this_size, m_this_lefts, m_this_rights, m_this_steps)) : mFv l G yX5_addStep cX5_addStep 4 0 [.ref h_this, .int p0, .int p1, .int p2] [(h_this, ob 5 [.ref h_this_kinds, .ref h_this_deeds, .ref h_this_begins, .ref h_this_steps, .ref h_this_lefts, .ref h_this_rights, .ref h_this_facts, .int x_this_count, .int x_this_size]), (h_this_lefts, ia G 200 f_this_lefts), (h_this_rights, ia G 200 f_this_rights), (h_this_steps, ia G 200 f_this_steps)] [(h_this, ob 5 [.ref h_this_kinds, .ref h_this_deeds, .ref h_this_begins, .ref h_this_steps, .ref h_this_lefts, .ref h_this_rights, .ref h_this_facts, .int x_this_count, .int m_this_size]), (h_this_lefts, ia G 200 m_this_lefts), (h_this_rights, ia G 200 m_this_rights), (h_this_steps, ia G 200 m_this_steps)] := by
  refine mFv.of (by decide +kernel) (Nat.le_of_ble_eq_true rfl) ?_
  intro p e s m below meth c A C hr hlk h ls hl
  obtain ⟨hx, hb, hml, hown, hts⟩ := id C
  replace hl : lv_has ls 4 [(0, .ref h_this), (1, .int p0), (2, .int p1), (3, .int p2)] := hl
  unfold f_X5_addStep at hf
  refine lv_aload_n hx hb dX5_addStep_0 rfl (lv_at hl 0 rfl) ?_
  refine r_get C h fk_X5_37 0 rfl rfl dX5_addStep_1 ?_
  refine lv_sipush (v := (200 : Int32)) hx hb dX5_addStep_4 rfl ?_
  refine lv_icmp_ge (tgt := 50) hx hb dX5_addStep_7 rfl (fun c1 => ?_) (fun c1 => ?_)
  · replace hf := ifp c1 hf
    cases hf
    exact r_vret C h hr hlk dX5_addStep_50
  · replace hf := ifn c1 hf
    refine lv_aload_n hx hb dX5_addStep_10 rfl (lv_at hl 0 rfl) ?_
    refine r_get C h fk_X5_21 0 rfl rfl dX5_addStep_11 ?_
    refine lv_aload_n hx hb dX5_addStep_14 rfl (lv_at hl 0 rfl) ?_
    refine r_get C h fk_X5_37 0 rfl rfl dX5_addStep_15 ?_
    refine lv_iload_n hx hb dX5_addStep_18 rfl (lv_at hl 1 rfl) ?_
    replace hf := chkI_inv hf
    obtain ⟨hi2, hf⟩ := hf
    refine r_iast (ws' := [(h_this, ob 5 [.ref h_this_kinds, .ref h_this_deeds, .ref h_this_begins, .ref h_this_steps, .ref h_this_lefts, .ref h_this_rights, .ref h_this_facts, .int x_this_count, .int x_this_size]), (h_this_lefts, ia G 200 f_this_lefts), (h_this_rights, ia G 200 f_this_rights), (h_this_steps, ia G 200 (upd f_this_steps x_this_size.toNatClampNeg p0))]) C h 3 rfl hi2 dX5_addStep_19 rfl (fun H locs h => ?_)
    refine lv_aload_n hx hb dX5_addStep_20 rfl (lv_at hl 0 rfl) ?_
    refine r_get C h fk_X5_24 0 rfl rfl dX5_addStep_21 ?_
    refine lv_aload_n hx hb dX5_addStep_24 rfl (lv_at hl 0 rfl) ?_
    refine r_get C h fk_X5_37 0 rfl rfl dX5_addStep_25 ?_
    refine lv_iload_n hx hb dX5_addStep_28 rfl (lv_at hl 2 rfl) ?_
    replace hf := chkI_inv hf
    obtain ⟨hi3, hf⟩ := hf
    refine r_iast (ws' := [(h_this, ob 5 [.ref h_this_kinds, .ref h_this_deeds, .ref h_this_begins, .ref h_this_steps, .ref h_this_lefts, .ref h_this_rights, .ref h_this_facts, .int x_this_count, .int x_this_size]), (h_this_lefts, ia G 200 (upd f_this_lefts x_this_size.toNatClampNeg p1)), (h_this_rights, ia G 200 f_this_rights), (h_this_steps, ia G 200 (upd f_this_steps x_this_size.toNatClampNeg p0))]) C h 1 rfl hi3 dX5_addStep_29 rfl (fun H locs h => ?_)
    refine lv_aload_n hx hb dX5_addStep_30 rfl (lv_at hl 0 rfl) ?_
    refine r_get C h fk_X5_27 0 rfl rfl dX5_addStep_31 ?_
    refine lv_aload_n hx hb dX5_addStep_34 rfl (lv_at hl 0 rfl) ?_
    refine r_get C h fk_X5_37 0 rfl rfl dX5_addStep_35 ?_
    refine lv_iload_n hx hb dX5_addStep_38 rfl (lv_at hl 3 rfl) ?_
    replace hf := chkI_inv hf
    obtain ⟨hi4, hf⟩ := hf
    refine r_iast (ws' := [(h_this, ob 5 [.ref h_this_kinds, .ref h_this_deeds, .ref h_this_begins, .ref h_this_steps, .ref h_this_lefts, .ref h_this_rights, .ref h_this_facts, .int x_this_count, .int x_this_size]), (h_this_lefts, ia G 200 (upd f_this_lefts x_this_size.toNatClampNeg p1)), (h_this_rights, ia G 200 (upd f_this_rights x_this_size.toNatClampNeg p2)), (h_this_steps, ia G 200 (upd f_this_steps x_this_size.toNatClampNeg p0))]) C h 2 rfl hi4 dX5_addStep_39 rfl (fun H locs h => ?_)
    refine lv_aload_n hx hb dX5_addStep_40 rfl (lv_at hl 0 rfl) ?_
    refine lv_dup hx hb dX5_addStep_41 rfl ?_
    refine r_get C h fk_X5_37 0 rfl rfl dX5_addStep_42 ?_
    refine lv_iconst (v := (1 : Int32)) hx hb dX5_addStep_45 rfl ?_
    refine lv_iadd hx hb dX5_addStep_46 ?_
    refine lv_topi (fun t5 et5 => ?_)
    replace hf := lt1_inv et5 hf
    refine r_put (ws' := [(h_this, ob 5 [.ref h_this_kinds, .ref h_this_deeds, .ref h_this_begins, .ref h_this_steps, .ref h_this_lefts, .ref h_this_rights, .ref h_this_facts, .int x_this_count, .int t5]), (h_this_lefts, ia G 200 (upd f_this_lefts x_this_size.toNatClampNeg p1)), (h_this_rights, ia G 200 (upd f_this_rights x_this_size.toNatClampNeg p2)), (h_this_steps, ia G 200 (upd f_this_steps x_this_size.toNatClampNeg p0))]) C h fw_X5_37 0 rfl rfl rfl (Nat.le_of_ble_eq_true rfl) dX5_addStep_47 rfl (fun H locs h => ?_)
    cases hf
    exact r_vret C h hr hlk dX5_addStep_50
set_option maxRecDepth 100000 in
set_option maxHeartbeats 4000000 in
theorem c_X4_acceptsRight {l : Launch} {G : Gt} {h_a0 h_a0_kinds h_a0_deeds h_a0_begins h_a0_steps h_a0_lefts h_a0_rights h_a0_facts h_this h_this_waiting : Nat} {x_a0_count : Int32} {x_a0_size : Int32} {f_a0_lefts : Nat → Int32} {f_a0_rights : Nat → Int32} {f_a0_steps : Nat → Int32} {x_this_waitingCount : Int32} {x_this_open : Int32} {x_this_expected : Int32} {x_this_kind : Int32} {x_this_left : Int32} {x_this_sign : Int32} {x_this_token : Int32} {x_this_tokenAt : Int32} {x_this_numeral : Int32} {x_this_place : Int32} {r : Int32} {m_a0_size : Int32} {m_a0_lefts : Nat → Int32} {m_a0_rights : Nat → Int32} {m_a0_steps : Nat → Int32} {m_this_expected : Int32} (hf : f_X4_acceptsRight x_a0_size f_a0_lefts f_a0_rights f_a0_steps x_this_expected x_this_left x_this_sign x_this_token x_this_numeral = some (r, m_a0_size, m_a0_lefts, m_a0_rights, m_a0_steps, m_this_expected)) : mFi l G yX4_acceptsRight cX4_acceptsRight 3 .boolean 1 [.ref h_this, .ref h_a0] [(h_a0, ob 5 [.ref h_a0_kinds, .ref h_a0_deeds, .ref h_a0_begins, .ref h_a0_steps, .ref h_a0_lefts, .ref h_a0_rights, .ref h_a0_facts, .int x_a0_count, .int x_a0_size]), (h_a0_lefts, ia G 200 f_a0_lefts), (h_a0_rights, ia G 200 f_a0_rights), (h_a0_steps, ia G 200 f_a0_steps), (h_this, ob 4 [.ref h_this_waiting, .int x_this_waitingCount, .int x_this_open, .int x_this_expected, .int x_this_kind, .int x_this_left, .int x_this_sign, .int x_this_token, .int x_this_tokenAt, .int x_this_numeral, .int x_this_place])] r [(h_a0, ob 5 [.ref h_a0_kinds, .ref h_a0_deeds, .ref h_a0_begins, .ref h_a0_steps, .ref h_a0_lefts, .ref h_a0_rights, .ref h_a0_facts, .int x_a0_count, .int m_a0_size]), (h_a0_lefts, ia G 200 m_a0_lefts), (h_a0_rights, ia G 200 m_a0_rights), (h_a0_steps, ia G 200 m_a0_steps), (h_this, ob 4 [.ref h_this_waiting, .int x_this_waitingCount, .int x_this_open, .int m_this_expected, .int x_this_kind, .int x_this_left, .int x_this_sign, .int x_this_token, .int x_this_tokenAt, .int x_this_numeral, .int x_this_place])] := by
  refine mFi.of (by decide +kernel) (Nat.le_of_ble_eq_true rfl) ?_
  intro p e s m below meth c A C hr hlk h ls hl
  obtain ⟨hx, hb, hml, hown, hts⟩ := id C
  replace hl : lv_has ls 3 [(0, .ref h_this), (1, .ref h_a0)] := hl
  unfold f_X4_acceptsRight at hf
  refine lv_aload_n hx hb dX4_acceptsRight_0 rfl (lv_at hl 0 rfl) ?_
  replace hf := bd1_inv hf
  obtain ⟨r1, hc2, hf⟩ := hf
  refine r_ciV0 C h (c_X4_valueOfToken hc2) mv_X4_118 rfl 4 rfl [4] rfl rfl hl.1 rfl (Nat.le_of_ble_eq_true rfl) (rok (by decide)) dX4_acceptsRight_1 (fun H locs h => ?_)
  refine lv_istore_n (lv' := [(2, .int r1), (0, .ref h_this), (1, .ref h_a0)]) hx hb dX4_acceptsRight_4 rfl hl (by decide) rfl (fun ls hl => ?_)
  refine lv_iload_n hx hb dX4_acceptsRight_5 rfl (lv_at hl 0 rfl) ?_
  refine lv_bipush (v := (-3 : Int32)) hx hb dX4_acceptsRight_6 rfl ?_
  refine lv_icmp_ne (tgt := 13) hx hb dX4_acceptsRight_8 rfl (fun c3 => ?_) (fun c3 => ?_)
  · replace hf := ifn c3 hf
    refine lv_aload_n hx hb dX4_acceptsRight_13 rfl (lv_at hl 2 rfl) ?_
    refine lv_aload_n hx hb dX4_acceptsRight_14 rfl (lv_at hl 1 rfl) ?_
    refine r_get C h fk_X4_31 4 rfl rfl dX4_acceptsRight_15 ?_
    refine lv_aload_n hx hb dX4_acceptsRight_18 rfl (lv_at hl 1 rfl) ?_
    refine r_get C h fk_X4_28 4 rfl rfl dX4_acceptsRight_19 ?_
    refine lv_iload_n hx hb dX4_acceptsRight_22 rfl (lv_at hl 0 rfl) ?_
    replace hf := bd4_inv hf
    obtain ⟨y4, g5, g6, g7, hc8, hf⟩ := hf
    refine r_cvV (ws' := [(h_a0, ob 5 [.ref h_a0_kinds, .ref h_a0_deeds, .ref h_a0_begins, .ref h_a0_steps, .ref h_a0_lefts, .ref h_a0_rights, .ref h_a0_facts, .int x_a0_count, .int y4]), (h_a0_lefts, ia G 200 g5), (h_a0_rights, ia G 200 g6), (h_a0_steps, ia G 200 g7), (h_this, ob 4 [.ref h_this_waiting, .int x_this_waitingCount, .int x_this_open, .int x_this_expected, .int x_this_kind, .int x_this_left, .int x_this_sign, .int x_this_token, .int x_this_tokenAt, .int x_this_numeral, .int x_this_place])]) C h (c_X5_addStep hc8) mv_X4_121 rfl 0 rfl [0, 1, 2, 3] rfl rfl [0, 1, 2, 3] [(h_a0, ob 5 [.ref h_a0_kinds, .ref h_a0_deeds, .ref h_a0_begins, .ref h_a0_steps, .ref h_a0_lefts, .ref h_a0_rights, .ref h_a0_facts, .int x_a0_count, .int y4]), (h_a0_lefts, ia G 200 g5), (h_a0_rights, ia G 200 g6), (h_a0_steps, ia G 200 g7)] rfl rfl (by decide +kernel) rfl hl.1 rfl (Nat.le_of_ble_eq_true rfl) (rok (by decide)) dX4_acceptsRight_23 (fun H locs h => ?_)
    refine lv_aload_n hx hb dX4_acceptsRight_26 rfl (lv_at hl 1 rfl) ?_
    refine lv_iconst (v := (5 : Int32)) hx hb dX4_acceptsRight_27 rfl ?_
    replace hf := bd2_inv hf
    obtain ⟨r9, y10, hc11, hf⟩ := hf
    refine r_ciV (ws' := [(h_a0, ob 5 [.ref h_a0_kinds, .ref h_a0_deeds, .ref h_a0_begins, .ref h_a0_steps, .ref h_a0_lefts, .ref h_a0_rights, .ref h_a0_facts, .int x_a0_count, .int y4]), (h_a0_lefts, ia G 200 g5), (h_a0_rights, ia G 200 g6), (h_a0_steps, ia G 200 g7), (h_this, ob 4 [.ref h_this_waiting, .int x_this_waitingCount, .int x_this_open, .int y10, .int x_this_kind, .int x_this_left, .int x_this_sign, .int x_this_token, .int x_this_tokenAt, .int x_this_numeral, .int x_this_place])]) C h (c_X4_expect hc11) mv_X4_88 rfl 4 rfl [4] rfl rfl [4] [(h_this, ob 4 [.ref h_this_waiting, .int x_this_waitingCount, .int x_this_open, .int y10, .int x_this_kind, .int x_this_left, .int x_this_sign, .int x_this_token, .int x_this_tokenAt, .int x_this_numeral, .int x_this_place])] rfl rfl (by decide +kernel) rfl hl.1 rfl (Nat.le_of_ble_eq_true rfl) (rok (by decide)) dX4_acceptsRight_28 (fun H locs h => ?_)
    replace hf := chkB_inv hf
    obtain ⟨hb12, hf⟩ := hf
    obtain ⟨rfl, rfl, rfl, rfl, rfl, rfl⟩ := sm6 hf
    exact r_iret C h hr hlk hb12 dX4_acceptsRight_31
  · replace hf := ifp c3 hf
    refine lv_iconst (v := (0 : Int32)) hx hb dX4_acceptsRight_11 rfl ?_
    obtain ⟨rfl, rfl, rfl, rfl, rfl, rfl⟩ := sm6 hf
    exact r_iret C h hr hlk rfl dX4_acceptsRight_12
set_option maxRecDepth 100000 in
set_option maxHeartbeats 4000000 in
theorem c_X4_join {l : Launch} {G : Gt} {h_a0 h_a0_kinds h_a0_deeds h_a0_begins h_a0_steps h_a0_lefts h_a0_rights h_a0_facts h_this h_this_waiting : Nat} {p1 : Int32} {x_a0_count : Int32} {x_a0_size : Int32} {f_a0_lefts : Nat → Int32} {f_a0_rights : Nat → Int32} {f_a0_steps : Nat → Int32} {x_this_waitingCount : Int32} {x_this_open : Int32} {x_this_expected : Int32} {x_this_kind : Int32} {x_this_left : Int32} {x_this_sign : Int32} {x_this_token : Int32} {x_this_tokenAt : Int32} {x_this_numeral : Int32} {x_this_place : Int32} {f_this_waiting : Nat → Int32} {m_a0_size : Int32} {m_a0_lefts : Nat → Int32} {m_a0_rights : Nat → Int32} {m_a0_steps : Nat → Int32} {m_this_waitingCount : Int32} (hf : f_X4_join p1 x_a0_size f_a0_lefts f_a0_rights f_a0_steps x_this_waitingCount f_this_waiting = some (m_a0_size, m_a0_lefts, m_a0_rights, m_a0_steps, m_this_waitingCount)) : mFv l G yX4_join cX4_join 3 1 [.ref h_this, .ref h_a0, .int p1] [(h_a0, ob 5 [.ref h_a0_kinds, .ref h_a0_deeds, .ref h_a0_begins, .ref h_a0_steps, .ref h_a0_lefts, .ref h_a0_rights, .ref h_a0_facts, .int x_a0_count, .int x_a0_size]), (h_a0_lefts, ia G 200 f_a0_lefts), (h_a0_rights, ia G 200 f_a0_rights), (h_a0_steps, ia G 200 f_a0_steps), (h_this, ob 4 [.ref h_this_waiting, .int x_this_waitingCount, .int x_this_open, .int x_this_expected, .int x_this_kind, .int x_this_left, .int x_this_sign, .int x_this_token, .int x_this_tokenAt, .int x_this_numeral, .int x_this_place]), (h_this_waiting, ia G 200 f_this_waiting)] [(h_a0, ob 5 [.ref h_a0_kinds, .ref h_a0_deeds, .ref h_a0_begins, .ref h_a0_steps, .ref h_a0_lefts, .ref h_a0_rights, .ref h_a0_facts, .int x_a0_count, .int m_a0_size]), (h_a0_lefts, ia G 200 m_a0_lefts), (h_a0_rights, ia G 200 m_a0_rights), (h_a0_steps, ia G 200 m_a0_steps), (h_this, ob 4 [.ref h_this_waiting, .int m_this_waitingCount, .int x_this_open, .int x_this_expected, .int x_this_kind, .int x_this_left, .int x_this_sign, .int x_this_token, .int x_this_tokenAt, .int x_this_numeral, .int x_this_place]), (h_this_waiting, ia G 200 f_this_waiting)] := by
  refine mFv.of (by decide +kernel) (Nat.le_of_ble_eq_true rfl) ?_
  intro p e s m below meth c A C hr hlk h ls hl
  obtain ⟨hx, hb, hml, hown, hts⟩ := id C
  replace hl : lv_has ls 3 [(0, .ref h_this), (1, .ref h_a0), (2, .int p1)] := hl
  unfold f_X4_join at hf
  refine with_K G A 3 (fun K hK1 hK2 => ?_)
  have L0 : ∀ (n : Nat) (y_a0_size : Int32) (g_a0_lefts : Nat → Int32) (g_a0_rights : Nat → Int32) (g_a0_steps : Nat → Int32) (y_this_waitingCount : Int32), f_X4_join_L0 p1 f_this_waiting n y_a0_size g_a0_lefts g_a0_rights g_a0_steps y_this_waitingCount = some (m_a0_size, m_a0_lefts, m_a0_rights, m_a0_steps, m_this_waitingCount) → K 0 ([] : List Value) [(h_a0, ob 5 [.ref h_a0_kinds, .ref h_a0_deeds, .ref h_a0_begins, .ref h_a0_steps, .ref h_a0_lefts, .ref h_a0_rights, .ref h_a0_facts, .int x_a0_count, .int y_a0_size]), (h_a0_lefts, ia G 200 g_a0_lefts), (h_a0_rights, ia G 200 g_a0_rights), (h_a0_steps, ia G 200 g_a0_steps), (h_this, ob 4 [.ref h_this_waiting, .int y_this_waitingCount, .int x_this_open, .int x_this_expected, .int x_this_kind, .int x_this_left, .int x_this_sign, .int x_this_token, .int x_this_tokenAt, .int x_this_numeral, .int x_this_place]), (h_this_waiting, ia G 200 f_this_waiting)] [(0, .ref h_this), (1, .ref h_a0), (2, .int p1)] := by
    intro n
    induction n with
    | zero =>
      intro y_a0_size g_a0_lefts g_a0_rights g_a0_steps y_this_waitingCount hf
      replace hf : (none : Option _) = some _ := hf
      cases hf
    | succ n ih =>
      intro y_a0_size g_a0_lefts g_a0_rights g_a0_steps y_this_waitingCount hf
      rw [f_X4_join_L0] at hf
      refine hK1 _ _ _ _ (fun H locs ls h hl => ?_)
      refine lv_aload_n hx hb dX4_join_0 rfl (lv_at hl 0 rfl) ?_
      refine r_get C h fk_X4_15 4 rfl rfl dX4_join_1 ?_
      refine lv_if_le (tgt := 50) hx hb dX4_join_4 rfl (fun c1 => ?_) (fun c1 => ?_)
      · replace hf := ifp c1 hf
        cases hf
        exact r_vret C h hr hlk dX4_join_50
      · replace hf := ifn c1 hf
        refine lv_aload_n hx hb dX4_join_7 rfl (lv_at hl 0 rfl) ?_
        refine r_get C h fk_X4_9 4 rfl rfl dX4_join_8 ?_
        refine lv_aload_n hx hb dX4_join_11 rfl (lv_at hl 0 rfl) ?_
        refine r_get C h fk_X4_15 4 rfl rfl dX4_join_12 ?_
        refine lv_iconst (v := (1 : Int32)) hx hb dX4_join_15 rfl ?_
        refine lv_isub hx hb dX4_join_16 ?_
        replace hf := chkI_inv hf
        obtain ⟨hi2, hf⟩ := hf
        refine r_iald C h 5 rfl hi2 dX4_join_17 ?_
        refine lv_iload_n hx hb dX4_join_18 rfl (lv_at hl 2 rfl) ?_
        refine lv_icmp_lt (tgt := 50) hx hb dX4_join_19 rfl (fun c3 => ?_) (fun c3 => ?_)
        · replace hf := ifp c3 hf
          cases hf
          exact r_vret C h hr hlk dX4_join_50
        · replace hf := ifn c3 hf
          refine lv_aload_n hx hb dX4_join_22 rfl (lv_at hl 0 rfl) ?_
          refine lv_dup hx hb dX4_join_23 rfl ?_
          refine r_get C h fk_X4_15 4 rfl rfl dX4_join_24 ?_
          refine lv_iconst (v := (1 : Int32)) hx hb dX4_join_27 rfl ?_
          refine lv_isub hx hb dX4_join_28 ?_
          refine lv_topi (fun t4 et4 => ?_)
          replace hf := lt1_inv et4 hf
          refine r_put (ws' := [(h_a0, ob 5 [.ref h_a0_kinds, .ref h_a0_deeds, .ref h_a0_begins, .ref h_a0_steps, .ref h_a0_lefts, .ref h_a0_rights, .ref h_a0_facts, .int x_a0_count, .int y_a0_size]), (h_a0_lefts, ia G 200 g_a0_lefts), (h_a0_rights, ia G 200 g_a0_rights), (h_a0_steps, ia G 200 g_a0_steps), (h_this, ob 4 [.ref h_this_waiting, .int t4, .int x_this_open, .int x_this_expected, .int x_this_kind, .int x_this_left, .int x_this_sign, .int x_this_token, .int x_this_tokenAt, .int x_this_numeral, .int x_this_place]), (h_this_waiting, ia G 200 f_this_waiting)]) C h fw_X4_15 4 rfl rfl rfl (Nat.le_of_ble_eq_true rfl) dX4_join_29 rfl (fun H locs h => ?_)
          refine lv_aload_n hx hb dX4_join_32 rfl (lv_at hl 1 rfl) ?_
          refine lv_aload_n hx hb dX4_join_33 rfl (lv_at hl 0 rfl) ?_
          refine r_get C h fk_X4_9 4 rfl rfl dX4_join_34 ?_
          refine lv_aload_n hx hb dX4_join_37 rfl (lv_at hl 0 rfl) ?_
          refine r_get C h fk_X4_15 4 rfl rfl dX4_join_38 ?_
          replace hf := chkI_inv hf
          obtain ⟨hi5, hf⟩ := hf
          refine r_iald C h 5 rfl hi5 dX4_join_41 ?_
          refine lv_iconst (v := (0 : Int32)) hx hb dX4_join_42 rfl ?_
          refine lv_iconst (v := (0 : Int32)) hx hb dX4_join_43 rfl ?_
          replace hf := bd4_inv hf
          obtain ⟨y6, g7, g8, g9, hc10, hf⟩ := hf
          refine r_cvV (ws' := [(h_a0, ob 5 [.ref h_a0_kinds, .ref h_a0_deeds, .ref h_a0_begins, .ref h_a0_steps, .ref h_a0_lefts, .ref h_a0_rights, .ref h_a0_facts, .int x_a0_count, .int y6]), (h_a0_lefts, ia G 200 g7), (h_a0_rights, ia G 200 g8), (h_a0_steps, ia G 200 g9), (h_this, ob 4 [.ref h_this_waiting, .int t4, .int x_this_open, .int x_this_expected, .int x_this_kind, .int x_this_left, .int x_this_sign, .int x_this_token, .int x_this_tokenAt, .int x_this_numeral, .int x_this_place]), (h_this_waiting, ia G 200 f_this_waiting)]) C h (c_X5_addStep hc10) mv_X4_121 rfl 0 rfl [0, 1, 2, 3] rfl rfl [0, 1, 2, 3] [(h_a0, ob 5 [.ref h_a0_kinds, .ref h_a0_deeds, .ref h_a0_begins, .ref h_a0_steps, .ref h_a0_lefts, .ref h_a0_rights, .ref h_a0_facts, .int x_a0_count, .int y6]), (h_a0_lefts, ia G 200 g7), (h_a0_rights, ia G 200 g8), (h_a0_steps, ia G 200 g9)] rfl rfl (by decide +kernel) rfl hl.1 rfl (Nat.le_of_ble_eq_true rfl) (rok (by decide)) dX4_join_44 (fun H locs h => ?_)
          refine lv_goto (tgt := 0) hx hb dX4_join_47 rfl ?_
          exact hK2 _ _ _ _ (ih y6 g7 g8 g9 t4 hf) _ _ _ h (lv_sub hl [0, 1, 2] rfl)
  exact hK2 _ _ _ _ (L0 1000 x_a0_size f_a0_lefts f_a0_rights f_a0_steps x_this_waitingCount hf) _ _ _ h (lv_sub hl [0, 1, 2] rfl)
