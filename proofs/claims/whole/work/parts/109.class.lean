set_option maxRecDepth 100000 in
set_option maxHeartbeats 4000000 in
theorem c_X3_areClose {l : Launch} {G : Gt} {h_this h_this_kinds h_this_trims h_this_lanes h_this_lights h_this_currents h_this_buoys h_this_now h_this_rules h_this_reports h_this_now_off : Nat} {p0 : Int32} {p1 : Int32} {x_this_count : Int32} {x_this_end : Int32} {x_this_z : Int32} {f_this_lanes : Nat → Int32} {x_this_now_watch : Int32} {x_this_now_score : Int32} {x_this_now_home : Int32} {f_this_now_off : Nat → Int32} {r : Int32} (hf : f_X3_areClose p0 p1 f_this_lanes x_this_now_home f_this_now_off = some r) : mFi l G yX3_areClose cX3_areClose 3 .boolean 1 [.ref h_this, .int p0, .int p1] [(h_this, ob 3 [.ref h_this_kinds, .ref h_this_trims, .ref h_this_lanes, .ref h_this_lights, .ref h_this_currents, .ref h_this_buoys, .ref h_this_now, .ref h_this_rules, .ref h_this_reports, .int x_this_count, .int x_this_end, .int x_this_z]), (h_this_lanes, ia G 6 f_this_lanes), (h_this_now, ob 6 [.ref h_this_now_off, .int x_this_now_watch, .int x_this_now_score, .int x_this_now_home]), (h_this_now_off, ia G 6 f_this_now_off)] r [(h_this, ob 3 [.ref h_this_kinds, .ref h_this_trims, .ref h_this_lanes, .ref h_this_lights, .ref h_this_currents, .ref h_this_buoys, .ref h_this_now, .ref h_this_rules, .ref h_this_reports, .int x_this_count, .int x_this_end, .int x_this_z]), (h_this_lanes, ia G 6 f_this_lanes), (h_this_now, ob 6 [.ref h_this_now_off, .int x_this_now_watch, .int x_this_now_score, .int x_this_now_home]), (h_this_now_off, ia G 6 f_this_now_off)] := by
  refine mFi.of (by decide +kernel) (Nat.le_of_ble_eq_true rfl) ?_
  intro p e s m below meth c A C hr hlk h ls hl
  obtain ⟨hx, hb, hml, hown, hts⟩ := id C
  replace hl : lv_has ls 3 [(0, .ref h_this), (1, .int p0), (2, .int p1)] := hl
  unfold f_X3_areClose at hf
  refine lv_aload_n hx hb dX3_areClose_0 rfl (lv_at hl 0 rfl) ?_
  refine r_get C h fk_X3_33 0 rfl rfl dX3_areClose_1 ?_
  refine lv_iload_n hx hb dX3_areClose_4 rfl (lv_at hl 1 rfl) ?_
  replace hf := bd1_inv hf
  obtain ⟨r1, hc2, hf⟩ := hf
  refine r_ciV0 C h (c_X6_isHome hc2) mv_X3_101 rfl 2 rfl [2] rfl rfl hl.1 rfl (Nat.le_of_ble_eq_true rfl) (rok (by decide)) dX3_areClose_5 (fun H locs h => ?_)
  refine lv_if_ne (tgt := 22) hx hb dX3_areClose_8 rfl (fun c3 => ?_) (fun c3 => ?_)
  · replace hf := ifn c3 hf
    refine lv_iconst (v := (0 : Int32)) hx hb dX3_areClose_22 rfl ?_
    cases hf
    exact r_iret C h hr hlk rfl dX3_areClose_23
  · replace hf := ifp c3 hf
    refine lv_aload_n hx hb dX3_areClose_11 rfl (lv_at hl 0 rfl) ?_
    refine r_get C h fk_X3_33 0 rfl rfl dX3_areClose_12 ?_
    refine lv_iload_n hx hb dX3_areClose_15 rfl (lv_at hl 2 rfl) ?_
    replace hf := bd1_inv hf
    obtain ⟨r4, hc5, hf⟩ := hf
    refine r_ciV0 C h (c_X6_isHome hc5) mv_X3_101 rfl 2 rfl [2] rfl rfl hl.1 rfl (Nat.le_of_ble_eq_true rfl) (rok (by decide)) dX3_areClose_16 (fun H locs h => ?_)
    refine lv_if_eq (tgt := 24) hx hb dX3_areClose_19 rfl (fun c6 => ?_) (fun c6 => ?_)
    · replace hf := ifp c6 hf
      refine lv_aload_n hx hb dX3_areClose_24 rfl (lv_at hl 0 rfl) ?_
      refine r_get C h fk_X3_18 0 rfl rfl dX3_areClose_25 ?_
      refine lv_iload_n hx hb dX3_areClose_28 rfl (lv_at hl 1 rfl) ?_
      replace hf := chkI_inv hf
      obtain ⟨hi7, hf⟩ := hf
      refine r_iald C h 1 rfl hi7 dX3_areClose_29 ?_
      refine lv_aload_n hx hb dX3_areClose_30 rfl (lv_at hl 0 rfl) ?_
      refine r_get C h fk_X3_18 0 rfl rfl dX3_areClose_31 ?_
      refine lv_iload_n hx hb dX3_areClose_34 rfl (lv_at hl 2 rfl) ?_
      replace hf := chkI_inv hf
      obtain ⟨hi8, hf⟩ := hf
      refine r_iald C h 1 rfl hi8 dX3_areClose_35 ?_
      refine lv_icmp_eq (tgt := 65) hx hb dX3_areClose_36 rfl (fun c9 => ?_) (fun c9 => ?_)
      · replace hf := ifp c9 hf
        refine lv_iconst (v := (1 : Int32)) hx hb dX3_areClose_65 rfl ?_
        refine lv_goto (tgt := 70) hx hb dX3_areClose_66 rfl ?_
        cases hf
        exact r_iret C h hr hlk rfl dX3_areClose_70
      · replace hf := ifn c9 hf
        refine lv_aload_n hx hb dX3_areClose_39 rfl (lv_at hl 0 rfl) ?_
        refine r_get C h fk_X3_33 0 rfl rfl dX3_areClose_40 ?_
        refine r_get C h fk_X3_86 2 rfl rfl dX3_areClose_43 ?_
        refine lv_iload_n hx hb dX3_areClose_46 rfl (lv_at hl 1 rfl) ?_
        replace hf := chkI_inv hf
        obtain ⟨hi10, hf⟩ := hf
        refine r_iald C h 3 rfl hi10 dX3_areClose_47 ?_
        refine lv_aload_n hx hb dX3_areClose_48 rfl (lv_at hl 0 rfl) ?_
        refine r_get C h fk_X3_33 0 rfl rfl dX3_areClose_49 ?_
        refine r_get C h fk_X3_86 2 rfl rfl dX3_areClose_52 ?_
        refine lv_iload_n hx hb dX3_areClose_55 rfl (lv_at hl 2 rfl) ?_
        replace hf := chkI_inv hf
        obtain ⟨hi11, hf⟩ := hf
        refine r_iald C h 3 rfl hi11 dX3_areClose_56 ?_
        refine lv_isub hx hb dX3_areClose_57 ?_
        refine r_iabs C ma_X3_178 hl.1 (Nat.le_of_ble_eq_true rfl) (Nat.le_of_ble_eq_true rfl) dX3_areClose_58 ?_
        refine lv_iconst (v := (4 : Int32)) hx hb dX3_areClose_61 rfl ?_
        refine lv_icmp_gt (tgt := 69) hx hb dX3_areClose_62 rfl (fun c12 => ?_) (fun c12 => ?_)
        · replace hf := ifp c12 hf
          refine lv_iconst (v := (0 : Int32)) hx hb dX3_areClose_69 rfl ?_
          cases hf
          exact r_iret C h hr hlk rfl dX3_areClose_70
        · replace hf := ifn c12 hf
          refine lv_iconst (v := (1 : Int32)) hx hb dX3_areClose_65 rfl ?_
          refine lv_goto (tgt := 70) hx hb dX3_areClose_66 rfl ?_
          cases hf
          exact r_iret C h hr hlk rfl dX3_areClose_70
    · replace hf := ifn c6 hf
      refine lv_iconst (v := (0 : Int32)) hx hb dX3_areClose_22 rfl ?_
      cases hf
      exact r_iret C h hr hlk rfl dX3_areClose_23
set_option maxRecDepth 100000 in
set_option maxHeartbeats 4000000 in
theorem c_X3_convoyOf {l : Launch} {G : Gt} {h_this h_this_kinds h_this_trims h_this_lanes h_this_lights h_this_currents h_this_buoys h_this_now h_this_rules h_this_reports h_this_now_off : Nat} {p0 : Int32} {x_this_count : Int32} {x_this_end : Int32} {x_this_z : Int32} {f_this_lanes : Nat → Int32} {x_this_now_watch : Int32} {x_this_now_score : Int32} {x_this_now_home : Int32} {f_this_now_off : Nat → Int32} {r : Int32} (hf : f_X3_convoyOf p0 x_this_count f_this_lanes x_this_now_home f_this_now_off = some r) : mFi l G yX3_convoyOf cX3_convoyOf 6 .int 2 [.ref h_this, .int p0] [(h_this, ob 3 [.ref h_this_kinds, .ref h_this_trims, .ref h_this_lanes, .ref h_this_lights, .ref h_this_currents, .ref h_this_buoys, .ref h_this_now, .ref h_this_rules, .ref h_this_reports, .int x_this_count, .int x_this_end, .int x_this_z]), (h_this_lanes, ia G 6 f_this_lanes), (h_this_now, ob 6 [.ref h_this_now_off, .int x_this_now_watch, .int x_this_now_score, .int x_this_now_home]), (h_this_now_off, ia G 6 f_this_now_off)] r [(h_this, ob 3 [.ref h_this_kinds, .ref h_this_trims, .ref h_this_lanes, .ref h_this_lights, .ref h_this_currents, .ref h_this_buoys, .ref h_this_now, .ref h_this_rules, .ref h_this_reports, .int x_this_count, .int x_this_end, .int x_this_z]), (h_this_lanes, ia G 6 f_this_lanes), (h_this_now, ob 6 [.ref h_this_now_off, .int x_this_now_watch, .int x_this_now_score, .int x_this_now_home]), (h_this_now_off, ia G 6 f_this_now_off)] := by
  refine mFi.of (by decide +kernel) (Nat.le_of_ble_eq_true rfl) ?_
  intro p e s m below meth c A C hr hlk h ls hl
  obtain ⟨hx, hb, hml, hown, hts⟩ := id C
  replace hl : lv_has ls 6 [(0, .ref h_this), (1, .int p0)] := hl
  unfold f_X3_convoyOf at hf
  refine with_K G A 6 (fun K hK1 hK2 => ?_)
  have L29 : ∀ (rec17 : Int32 → Int32 → Int32 → Option (Int32)) (hrec17 : ∀ (v2 : Int32) (v3 : Int32) (v4 : Int32), rec17 v2 v3 v4 = some r → K 17 ([] : List Value) [(h_this, ob 3 [.ref h_this_kinds, .ref h_this_trims, .ref h_this_lanes, .ref h_this_lights, .ref h_this_currents, .ref h_this_buoys, .ref h_this_now, .ref h_this_rules, .ref h_this_reports, .int x_this_count, .int x_this_end, .int x_this_z]), (h_this_lanes, ia G 6 f_this_lanes), (h_this_now, ob 6 [.ref h_this_now_off, .int x_this_now_watch, .int x_this_now_score, .int x_this_now_home]), (h_this_now_off, ia G 6 f_this_now_off)] [(0, .ref h_this), (2, .int v2), (3, .int v3), (4, .int v4)]) (n : Nat) (v2 : Int32) (v3 : Int32) (v4 : Int32) (v5 : Int32), f_X3_convoyOf_L29 rec17 x_this_count f_this_lanes x_this_now_home f_this_now_off n v2 v3 v4 v5 = some r → K 29 ([] : List Value) [(h_this, ob 3 [.ref h_this_kinds, .ref h_this_trims, .ref h_this_lanes, .ref h_this_lights, .ref h_this_currents, .ref h_this_buoys, .ref h_this_now, .ref h_this_rules, .ref h_this_reports, .int x_this_count, .int x_this_end, .int x_this_z]), (h_this_lanes, ia G 6 f_this_lanes), (h_this_now, ob 6 [.ref h_this_now_off, .int x_this_now_watch, .int x_this_now_score, .int x_this_now_home]), (h_this_now_off, ia G 6 f_this_now_off)] [(0, .ref h_this), (2, .int v2), (3, .int v3), (4, .int v4), (5, .int v5)] := by
    intro rec17 hrec17 n
    induction n with
    | zero =>
      intro v2 v3 v4 v5 hf
      replace hf : (none : Option _) = some _ := hf
      cases hf
    | succ n ih =>
      intro v2 v3 v4 v5 hf
      rw [f_X3_convoyOf_L29] at hf
      refine hK1 _ _ _ _ (fun H locs ls h hl => ?_)
      refine lv_iload hx hb dX3_convoyOf_29 (lv_at hl 4 rfl) ?_
      refine lv_aload_n hx hb dX3_convoyOf_31 rfl (lv_at hl 0 rfl) ?_
      refine r_get C h fk_X3_51 0 rfl rfl dX3_convoyOf_32 ?_
      refine lv_icmp_ge (tgt := 72) hx hb dX3_convoyOf_35 rfl (fun c5 => ?_) (fun c5 => ?_)
      · replace hf := ifp c5 hf
        obtain ⟨t6, et6⟩ : ∃ y : Int32, y = v4 + (1 : Int32) := ⟨_, rfl⟩
        replace hf := lt1_inv et6 hf
        refine lv_iinc (v := t6) (lv' := [(4, .int t6), (0, .ref h_this), (2, .int v2), (3, .int v3), (5, .int v5)]) hx hb dX3_convoyOf_72 hl (k := 3) rfl (by rw [et6]; rfl) (by decide) rfl (fun ls hl => ?_)
        refine lv_goto (tgt := 17) hx hb dX3_convoyOf_75 rfl ?_
        exact hK2 _ _ _ _ (hrec17 v2 v3 t6 hf) _ _ _ h (lv_sub hl [1, 2, 3, 0] rfl)
      · replace hf := ifn c5 hf
        refine lv_iload_n hx hb dX3_convoyOf_38 rfl (lv_at hl 1 rfl) ?_
        refine lv_iload hx hb dX3_convoyOf_39 (lv_at hl 3 rfl) ?_
        refine lv_ishr hx hb dX3_convoyOf_41 ?_
        refine lv_iconst (v := (1 : Int32)) hx hb dX3_convoyOf_42 rfl ?_
        refine lv_iand hx hb dX3_convoyOf_43 ?_
        refine lv_iconst (v := (1 : Int32)) hx hb dX3_convoyOf_44 rfl ?_
        refine lv_icmp_ne (tgt := 66) hx hb dX3_convoyOf_45 rfl (fun c7 => ?_) (fun c7 => ?_)
        · replace hf := ifn c7 hf
          obtain ⟨t8, et8⟩ : ∃ y : Int32, y = v5 + (1 : Int32) := ⟨_, rfl⟩
          replace hf := lt1_inv et8 hf
          refine lv_iinc (v := t8) (lv' := [(5, .int t8), (0, .ref h_this), (2, .int v2), (3, .int v3), (4, .int v4)]) hx hb dX3_convoyOf_66 hl (k := 4) rfl (by rw [et8]; rfl) (by decide) rfl (fun ls hl => ?_)
          refine lv_goto (tgt := 29) hx hb dX3_convoyOf_69 rfl ?_
          exact hK2 _ _ _ _ (ih v2 v3 v4 t8 hf) _ _ _ h (lv_sub hl [1, 2, 3, 4, 0] rfl)
        · replace hf := ifp c7 hf
          refine lv_aload_n hx hb dX3_convoyOf_48 rfl (lv_at hl 0 rfl) ?_
          refine lv_iload hx hb dX3_convoyOf_49 (lv_at hl 3 rfl) ?_
          refine lv_iload hx hb dX3_convoyOf_51 (lv_at hl 4 rfl) ?_
          replace hf := bd1_inv hf
          obtain ⟨r9, hc10, hf⟩ := hf
          refine r_ciV0 C h (c_X3_areClose hc10) mv_X3_181 rfl 0 rfl [0, 1, 2, 3] rfl rfl hl.1 rfl (Nat.le_of_ble_eq_true rfl) (rok (by decide)) dX3_convoyOf_53 (fun H locs h => ?_)
          refine lv_if_eq (tgt := 66) hx hb dX3_convoyOf_56 rfl (fun c11 => ?_) (fun c11 => ?_)
          · replace hf := ifp c11 hf
            obtain ⟨t12, et12⟩ : ∃ y : Int32, y = v5 + (1 : Int32) := ⟨_, rfl⟩
            replace hf := lt1_inv et12 hf
            refine lv_iinc (v := t12) (lv' := [(5, .int t12), (0, .ref h_this), (2, .int v2), (3, .int v3), (4, .int v4)]) hx hb dX3_convoyOf_66 hl (k := 4) rfl (by rw [et12]; rfl) (by decide) rfl (fun ls hl => ?_)
            refine lv_goto (tgt := 29) hx hb dX3_convoyOf_69 rfl ?_
            exact hK2 _ _ _ _ (ih v2 v3 v4 t12 hf) _ _ _ h (lv_sub hl [1, 2, 3, 4, 0] rfl)
          · replace hf := ifn c11 hf
            refine lv_iload_n hx hb dX3_convoyOf_59 rfl (lv_at hl 1 rfl) ?_
            refine lv_iconst (v := (1 : Int32)) hx hb dX3_convoyOf_60 rfl ?_
            refine lv_iload hx hb dX3_convoyOf_61 (lv_at hl 4 rfl) ?_
            refine lv_ishl hx hb dX3_convoyOf_63 ?_
            refine lv_ior hx hb dX3_convoyOf_64 ?_
            refine lv_topi (fun t13 et13 => ?_)
            replace hf := lt1_inv et13 hf
            refine lv_istore_n (lv' := [(2, .int t13), (0, .ref h_this), (3, .int v3), (4, .int v4), (5, .int v5)]) hx hb dX3_convoyOf_65 rfl hl (by decide) rfl (fun ls hl => ?_)
            obtain ⟨t14, et14⟩ : ∃ y : Int32, y = v5 + (1 : Int32) := ⟨_, rfl⟩
            replace hf := lt1_inv et14 hf
            refine lv_iinc (v := t14) (lv' := [(5, .int t14), (2, .int t13), (0, .ref h_this), (3, .int v3), (4, .int v4)]) hx hb dX3_convoyOf_66 hl (k := 4) rfl (by rw [et14]; rfl) (by decide) rfl (fun ls hl => ?_)
            refine lv_goto (tgt := 29) hx hb dX3_convoyOf_69 rfl ?_
            exact hK2 _ _ _ _ (ih t13 v3 v4 t14 hf) _ _ _ h (lv_sub hl [2, 1, 3, 4, 0] rfl)
  have L17 : ∀ (rec6 : Int32 → Int32 → Option (Int32)) (hrec6 : ∀ (v2 : Int32) (v3 : Int32), rec6 v2 v3 = some r → K 6 ([] : List Value) [(h_this, ob 3 [.ref h_this_kinds, .ref h_this_trims, .ref h_this_lanes, .ref h_this_lights, .ref h_this_currents, .ref h_this_buoys, .ref h_this_now, .ref h_this_rules, .ref h_this_reports, .int x_this_count, .int x_this_end, .int x_this_z]), (h_this_lanes, ia G 6 f_this_lanes), (h_this_now, ob 6 [.ref h_this_now_off, .int x_this_now_watch, .int x_this_now_score, .int x_this_now_home]), (h_this_now_off, ia G 6 f_this_now_off)] [(0, .ref h_this), (2, .int v2), (3, .int v3)]) (n : Nat) (v2 : Int32) (v3 : Int32) (v4 : Int32), f_X3_convoyOf_L17 rec6 x_this_count f_this_lanes x_this_now_home f_this_now_off n v2 v3 v4 = some r → K 17 ([] : List Value) [(h_this, ob 3 [.ref h_this_kinds, .ref h_this_trims, .ref h_this_lanes, .ref h_this_lights, .ref h_this_currents, .ref h_this_buoys, .ref h_this_now, .ref h_this_rules, .ref h_this_reports, .int x_this_count, .int x_this_end, .int x_this_z]), (h_this_lanes, ia G 6 f_this_lanes), (h_this_now, ob 6 [.ref h_this_now_off, .int x_this_now_watch, .int x_this_now_score, .int x_this_now_home]), (h_this_now_off, ia G 6 f_this_now_off)] [(0, .ref h_this), (2, .int v2), (3, .int v3), (4, .int v4)] := by
    intro rec6 hrec6 n
    induction n with
    | zero =>
      intro v2 v3 v4 hf
      replace hf : (none : Option _) = some _ := hf
      cases hf
    | succ n ih =>
      intro v2 v3 v4 hf
      rw [f_X3_convoyOf_L17] at hf
      refine hK1 _ _ _ _ (fun H locs ls h hl => ?_)
      refine lv_iload hx hb dX3_convoyOf_17 (lv_at hl 3 rfl) ?_
      refine lv_aload_n hx hb dX3_convoyOf_19 rfl (lv_at hl 0 rfl) ?_
      refine r_get C h fk_X3_51 0 rfl rfl dX3_convoyOf_20 ?_
      refine lv_icmp_ge (tgt := 78) hx hb dX3_convoyOf_23 rfl (fun c3 => ?_) (fun c3 => ?_)
      · replace hf := ifp c3 hf
        obtain ⟨t4, et4⟩ : ∃ y : Int32, y = v3 + (1 : Int32) := ⟨_, rfl⟩
        replace hf := lt1_inv et4 hf
        refine lv_iinc (v := t4) (lv' := [(3, .int t4), (0, .ref h_this), (2, .int v2), (4, .int v4)]) hx hb dX3_convoyOf_78 hl (k := 2) rfl (by rw [et4]; rfl) (by decide) rfl (fun ls hl => ?_)
        refine lv_goto (tgt := 6) hx hb dX3_convoyOf_81 rfl ?_
        exact hK2 _ _ _ _ (hrec6 v2 t4 hf) _ _ _ h (lv_sub hl [1, 2, 0] rfl)
      · replace hf := ifn c3 hf
        refine lv_iconst (v := (0 : Int32)) hx hb dX3_convoyOf_26 rfl ?_
        refine lv_istore (lv' := [(5, .int (0 : Int32)), (0, .ref h_this), (2, .int v2), (3, .int v3), (4, .int v4)]) hx hb dX3_convoyOf_27 hl (by decide) rfl (fun ls hl => ?_)
        exact hK2 _ _ _ _ (L29 _ ih 1000 v2 v3 v4 (0 : Int32) hf) _ _ _ h (lv_sub hl [1, 2, 3, 4, 0] rfl)
  have L6 : ∀ (n : Nat) (v2 : Int32) (v3 : Int32), f_X3_convoyOf_L6 x_this_count f_this_lanes x_this_now_home f_this_now_off n v2 v3 = some r → K 6 ([] : List Value) [(h_this, ob 3 [.ref h_this_kinds, .ref h_this_trims, .ref h_this_lanes, .ref h_this_lights, .ref h_this_currents, .ref h_this_buoys, .ref h_this_now, .ref h_this_rules, .ref h_this_reports, .int x_this_count, .int x_this_end, .int x_this_z]), (h_this_lanes, ia G 6 f_this_lanes), (h_this_now, ob 6 [.ref h_this_now_off, .int x_this_now_watch, .int x_this_now_score, .int x_this_now_home]), (h_this_now_off, ia G 6 f_this_now_off)] [(0, .ref h_this), (2, .int v2), (3, .int v3)] := by
    intro n
    induction n with
    | zero =>
      intro v2 v3 hf
      replace hf : (none : Option _) = some _ := hf
      cases hf
    | succ n ih =>
      intro v2 v3 hf
      rw [f_X3_convoyOf_L6] at hf
      refine hK1 _ _ _ _ (fun H locs ls h hl => ?_)
      refine lv_iload_n hx hb dX3_convoyOf_6 rfl (lv_at hl 2 rfl) ?_
      refine lv_aload_n hx hb dX3_convoyOf_7 rfl (lv_at hl 0 rfl) ?_
      refine r_get C h fk_X3_51 0 rfl rfl dX3_convoyOf_8 ?_
      refine lv_icmp_ge (tgt := 84) hx hb dX3_convoyOf_11 rfl (fun c2 => ?_) (fun c2 => ?_)
      · replace hf := ifp c2 hf
        refine lv_iload_n hx hb dX3_convoyOf_84 rfl (lv_at hl 1 rfl) ?_
        cases hf
        exact r_iret C h hr hlk rfl dX3_convoyOf_85
      · replace hf := ifn c2 hf
        refine lv_iconst (v := (0 : Int32)) hx hb dX3_convoyOf_14 rfl ?_
        refine lv_istore (lv' := [(4, .int (0 : Int32)), (0, .ref h_this), (2, .int v2), (3, .int v3)]) hx hb dX3_convoyOf_15 hl (by decide) rfl (fun ls hl => ?_)
        exact hK2 _ _ _ _ (L17 _ ih 1000 v2 v3 (0 : Int32) hf) _ _ _ h (lv_sub hl [1, 2, 3, 0] rfl)
  refine lv_iconst (v := (1 : Int32)) hx hb dX3_convoyOf_0 rfl ?_
  refine lv_iload_n hx hb dX3_convoyOf_1 rfl (lv_at hl 1 rfl) ?_
  refine lv_ishl hx hb dX3_convoyOf_2 ?_
  refine lv_topi (fun t1 et1 => ?_)
  replace hf := lt1_inv et1 hf
  refine lv_istore_n (lv' := [(2, .int t1), (0, .ref h_this), (1, .int p0)]) hx hb dX3_convoyOf_3 rfl hl (by decide) rfl (fun ls hl => ?_)
  refine lv_iconst (v := (1 : Int32)) hx hb dX3_convoyOf_4 rfl ?_
  refine lv_istore_n (lv' := [(3, .int (1 : Int32)), (2, .int t1), (0, .ref h_this), (1, .int p0)]) hx hb dX3_convoyOf_5 rfl hl (by decide) rfl (fun ls hl => ?_)
  exact hK2 _ _ _ _ (L6 1000 t1 (1 : Int32) hf) _ _ _ h (lv_sub hl [2, 1, 0] rfl)
set_option maxRecDepth 100000 in
set_option maxHeartbeats 4000000 in
theorem c_X8_leastOfSet {l : Launch} {G : Gt} {p0 : Int32} {r : Int32} (hf : f_X8_leastOfSet p0 = some r) : mFi l G yX8_leastOfSet cX8_leastOfSet 2 .int 0 [.int p0] ([] : va_W) r ([] : va_W) := by
  refine mFi.of (by decide +kernel) (Nat.le_of_ble_eq_true rfl) ?_
  intro p e s m below meth c A C hr hlk h ls hl
  obtain ⟨hx, hb, hml, hown, hts⟩ := id C
  replace hl : lv_has ls 2 [(0, .int p0)] := hl
  unfold f_X8_leastOfSet at hf
  refine with_K G A 2 (fun K hK1 hK2 => ?_)
  have L2 : ∀ (n : Nat) (v1 : Int32), f_X8_leastOfSet_L2 p0 n v1 = some r → K 2 ([] : List Value) ([] : va_W) [(0, .int p0), (1, .int v1)] := by
    intro n
    induction n with
    | zero =>
      intro v1 hf
      replace hf : (none : Option _) = some _ := hf
      cases hf
    | succ n ih =>
      intro v1 hf
      rw [f_X8_leastOfSet_L2] at hf
      refine hK1 _ _ _ _ (fun H locs ls h hl => ?_)
      refine lv_iload_n hx hb dX8_leastOfSet_2 rfl (lv_at hl 1 rfl) ?_
      refine lv_bipush (v := (6 : Int32)) hx hb dX8_leastOfSet_3 rfl ?_
      refine lv_icmp_ge (tgt := 25) hx hb dX8_leastOfSet_5 rfl (fun c1 => ?_) (fun c1 => ?_)
      · replace hf := ifp c1 hf
        refine lv_bipush (v := (-3 : Int32)) hx hb dX8_leastOfSet_25 rfl ?_
        cases hf
        exact r_iret C h hr hlk rfl dX8_leastOfSet_27
      · replace hf := ifn c1 hf
        refine lv_iload_n hx hb dX8_leastOfSet_8 rfl (lv_at hl 0 rfl) ?_
        refine lv_iload_n hx hb dX8_leastOfSet_9 rfl (lv_at hl 1 rfl) ?_
        refine lv_ishr hx hb dX8_leastOfSet_10 ?_
        refine lv_iconst (v := (1 : Int32)) hx hb dX8_leastOfSet_11 rfl ?_
        refine lv_iand hx hb dX8_leastOfSet_12 ?_
        refine lv_iconst (v := (1 : Int32)) hx hb dX8_leastOfSet_13 rfl ?_
        refine lv_icmp_ne (tgt := 19) hx hb dX8_leastOfSet_14 rfl (fun c2 => ?_) (fun c2 => ?_)
        · replace hf := ifn c2 hf
          obtain ⟨t3, et3⟩ : ∃ y : Int32, y = v1 + (1 : Int32) := ⟨_, rfl⟩
          replace hf := lt1_inv et3 hf
          refine lv_iinc (v := t3) (lv' := [(1, .int t3), (0, .int p0)]) hx hb dX8_leastOfSet_19 hl (k := 1) rfl (by rw [et3]; rfl) (by decide) rfl (fun ls hl => ?_)
          refine lv_goto (tgt := 2) hx hb dX8_leastOfSet_22 rfl ?_
          exact hK2 _ _ _ _ (ih t3 hf) _ _ _ h (lv_sub hl [1, 0] rfl)
        · replace hf := ifp c2 hf
          refine lv_iload_n hx hb dX8_leastOfSet_17 rfl (lv_at hl 1 rfl) ?_
          cases hf
          exact r_iret C h hr hlk rfl dX8_leastOfSet_18
  refine lv_iconst (v := (0 : Int32)) hx hb dX8_leastOfSet_0 rfl ?_
  refine lv_istore_n (lv' := [(1, .int (0 : Int32)), (0, .int p0)]) hx hb dX8_leastOfSet_1 rfl hl (by decide) rfl (fun ls hl => ?_)
  exact hK2 _ _ _ _ (L2 1000 (0 : Int32) hf) _ _ _ h (lv_sub hl [1, 0] rfl)
set_option maxRecDepth 100000 in
set_option maxHeartbeats 4000000 in
theorem c_X8_countConvoys {l : Launch} {G : Gt} {h_this h_this_rock h_this_kept h_this_trial h_this_planner h_this_reader h_this_draft h_this_host h_this_thing h_this_tape h_this_rows h_this_rock_kinds h_this_rock_trims h_this_rock_lanes h_this_rock_lights h_this_rock_currents h_this_rock_buoys h_this_rock_now h_this_rock_rules h_this_rock_reports h_this_rock_now_off : Nat} {x_this_tapeCount : Int32} {x_this_rowCount : Int32} {x_this_isKept : Int32} {x_this_rock_count : Int32} {x_this_rock_end : Int32} {x_this_rock_z : Int32} {f_this_rock_lanes : Nat → Int32} {x_this_rock_now_watch : Int32} {x_this_rock_now_score : Int32} {x_this_rock_now_home : Int32} {f_this_rock_now_off : Nat → Int32} {r : Int32} (hf : f_X8_countConvoys x_this_rock_count f_this_rock_lanes x_this_rock_now_home f_this_rock_now_off = some r) : mFi l G yX8_countConvoys cX8_countConvoys 3 .int 3 [.ref h_this] [(h_this, ob 8 [.ref h_this_rock, .ref h_this_kept, .ref h_this_trial, .ref h_this_planner, .ref h_this_reader, .ref h_this_draft, .ref h_this_host, .ref h_this_thing, .ref h_this_tape, .ref h_this_rows, .int x_this_tapeCount, .int x_this_rowCount, .int x_this_isKept]), (h_this_rock, ob 3 [.ref h_this_rock_kinds, .ref h_this_rock_trims, .ref h_this_rock_lanes, .ref h_this_rock_lights, .ref h_this_rock_currents, .ref h_this_rock_buoys, .ref h_this_rock_now, .ref h_this_rock_rules, .ref h_this_rock_reports, .int x_this_rock_count, .int x_this_rock_end, .int x_this_rock_z]), (h_this_rock_lanes, ia G 6 f_this_rock_lanes), (h_this_rock_now, ob 6 [.ref h_this_rock_now_off, .int x_this_rock_now_watch, .int x_this_rock_now_score, .int x_this_rock_now_home]), (h_this_rock_now_off, ia G 6 f_this_rock_now_off)] r [(h_this, ob 8 [.ref h_this_rock, .ref h_this_kept, .ref h_this_trial, .ref h_this_planner, .ref h_this_reader, .ref h_this_draft, .ref h_this_host, .ref h_this_thing, .ref h_this_tape, .ref h_this_rows, .int x_this_tapeCount, .int x_this_rowCount, .int x_this_isKept]), (h_this_rock, ob 3 [.ref h_this_rock_kinds, .ref h_this_rock_trims, .ref h_this_rock_lanes, .ref h_this_rock_lights, .ref h_this_rock_currents, .ref h_this_rock_buoys, .ref h_this_rock_now, .ref h_this_rock_rules, .ref h_this_rock_reports, .int x_this_rock_count, .int x_this_rock_end, .int x_this_rock_z]), (h_this_rock_lanes, ia G 6 f_this_rock_lanes), (h_this_rock_now, ob 6 [.ref h_this_rock_now_off, .int x_this_rock_now_watch, .int x_this_rock_now_score, .int x_this_rock_now_home]), (h_this_rock_now_off, ia G 6 f_this_rock_now_off)] := by
  refine mFi.of (by decide +kernel) (Nat.le_of_ble_eq_true rfl) ?_
  intro p e s m below meth c A C hr hlk h ls hl
  obtain ⟨hx, hb, hml, hown, hts⟩ := id C
  replace hl : lv_has ls 3 [(0, .ref h_this)] := hl
  unfold f_X8_countConvoys at hf
  refine with_K G A 3 (fun K hK1 hK2 => ?_)
  have L4 : ∀ (n : Nat) (v1 : Int32) (v2 : Int32), f_X8_countConvoys_L4 x_this_rock_count f_this_rock_lanes x_this_rock_now_home f_this_rock_now_off n v1 v2 = some r → K 4 ([] : List Value) [(h_this, ob 8 [.ref h_this_rock, .ref h_this_kept, .ref h_this_trial, .ref h_this_planner, .ref h_this_reader, .ref h_this_draft, .ref h_this_host, .ref h_this_thing, .ref h_this_tape, .ref h_this_rows, .int x_this_tapeCount, .int x_this_rowCount, .int x_this_isKept]), (h_this_rock, ob 3 [.ref h_this_rock_kinds, .ref h_this_rock_trims, .ref h_this_rock_lanes, .ref h_this_rock_lights, .ref h_this_rock_currents, .ref h_this_rock_buoys, .ref h_this_rock_now, .ref h_this_rock_rules, .ref h_this_rock_reports, .int x_this_rock_count, .int x_this_rock_end, .int x_this_rock_z]), (h_this_rock_lanes, ia G 6 f_this_rock_lanes), (h_this_rock_now, ob 6 [.ref h_this_rock_now_off, .int x_this_rock_now_watch, .int x_this_rock_now_score, .int x_this_rock_now_home]), (h_this_rock_now_off, ia G 6 f_this_rock_now_off)] [(0, .ref h_this), (1, .int v1), (2, .int v2)] := by
    intro n
    induction n with
    | zero =>
      intro v1 v2 hf
      replace hf : (none : Option _) = some _ := hf
      cases hf
    | succ n ih =>
      intro v1 v2 hf
      rw [f_X8_countConvoys_L4] at hf
      refine hK1 _ _ _ _ (fun H locs ls h hl => ?_)
      refine lv_iload_n hx hb dX8_countConvoys_4 rfl (lv_at hl 2 rfl) ?_
      refine lv_aload_n hx hb dX8_countConvoys_5 rfl (lv_at hl 0 rfl) ?_
      refine r_get C h fk_X8_10 0 rfl rfl dX8_countConvoys_6 ?_
      refine r_get C h fk_X8_83 1 rfl rfl dX8_countConvoys_9 ?_
      refine lv_icmp_ge (tgt := 53) hx hb dX8_countConvoys_12 rfl (fun c1 => ?_) (fun c1 => ?_)
      · replace hf := ifp c1 hf
        refine lv_iload_n hx hb dX8_countConvoys_53 rfl (lv_at hl 1 rfl) ?_
        cases hf
        exact r_iret C h hr hlk rfl dX8_countConvoys_54
      · replace hf := ifn c1 hf
        refine lv_aload_n hx hb dX8_countConvoys_15 rfl (lv_at hl 0 rfl) ?_
        refine r_get C h fk_X8_10 0 rfl rfl dX8_countConvoys_16 ?_
        refine r_get C h fk_X8_94 1 rfl rfl dX8_countConvoys_19 ?_
        refine lv_iload_n hx hb dX8_countConvoys_22 rfl (lv_at hl 2 rfl) ?_
        replace hf := bd1_inv hf
        obtain ⟨r2, hc3, hf⟩ := hf
        refine r_ciV0 C h (c_X6_isHome hc3) mv_X8_109 rfl 3 rfl [3] rfl rfl hl.1 rfl (Nat.le_of_ble_eq_true rfl) (rok (by decide)) dX8_countConvoys_23 (fun H locs h => ?_)
        refine lv_if_ne (tgt := 47) hx hb dX8_countConvoys_26 rfl (fun c4 => ?_) (fun c4 => ?_)
        · replace hf := ifn c4 hf
          obtain ⟨t5, et5⟩ : ∃ y : Int32, y = v2 + (1 : Int32) := ⟨_, rfl⟩
          replace hf := lt1_inv et5 hf
          refine lv_iinc (v := t5) (lv' := [(2, .int t5), (0, .ref h_this), (1, .int v1)]) hx hb dX8_countConvoys_47 hl (k := 2) rfl (by rw [et5]; rfl) (by decide) rfl (fun ls hl => ?_)
          refine lv_goto (tgt := 4) hx hb dX8_countConvoys_50 rfl ?_
          exact hK2 _ _ _ _ (ih v1 t5 hf) _ _ _ h (lv_sub hl [1, 2, 0] rfl)
        · replace hf := ifp c4 hf
          refine lv_aload_n hx hb dX8_countConvoys_29 rfl (lv_at hl 0 rfl) ?_
          refine r_get C h fk_X8_10 0 rfl rfl dX8_countConvoys_30 ?_
          refine lv_iload_n hx hb dX8_countConvoys_33 rfl (lv_at hl 2 rfl) ?_
          replace hf := bd1_inv hf
          obtain ⟨r6, hc7, hf⟩ := hf
          refine r_ciV0 C h (c_X3_convoyOf hc7) mv_X8_206 rfl 1 rfl [1, 2, 3, 4] rfl rfl hl.1 rfl (Nat.le_of_ble_eq_true rfl) (rok (by decide)) dX8_countConvoys_34 (fun H locs h => ?_)
          replace hf := bd1_inv hf
          obtain ⟨r8, hc9, hf⟩ := hf
          refine r_ciS0 C h (c_X8_leastOfSet hc9) ms_X8_234 rfl [] rfl rfl hl.1 rfl (Nat.le_of_ble_eq_true rfl) (rok (by decide)) dX8_countConvoys_37 (fun H locs h => ?_)
          refine lv_iload_n hx hb dX8_countConvoys_40 rfl (lv_at hl 2 rfl) ?_
          refine lv_icmp_ne (tgt := 47) hx hb dX8_countConvoys_41 rfl (fun c10 => ?_) (fun c10 => ?_)
          · replace hf := ifn c10 hf
            obtain ⟨t11, et11⟩ : ∃ y : Int32, y = v2 + (1 : Int32) := ⟨_, rfl⟩
            replace hf := lt1_inv et11 hf
            refine lv_iinc (v := t11) (lv' := [(2, .int t11), (0, .ref h_this), (1, .int v1)]) hx hb dX8_countConvoys_47 hl (k := 2) rfl (by rw [et11]; rfl) (by decide) rfl (fun ls hl => ?_)
            refine lv_goto (tgt := 4) hx hb dX8_countConvoys_50 rfl ?_
            exact hK2 _ _ _ _ (ih v1 t11 hf) _ _ _ h (lv_sub hl [1, 2, 0] rfl)
          · replace hf := ifp c10 hf
            obtain ⟨t12, et12⟩ : ∃ y : Int32, y = v1 + (1 : Int32) := ⟨_, rfl⟩
            replace hf := lt1_inv et12 hf
            refine lv_iinc (v := t12) (lv' := [(1, .int t12), (0, .ref h_this), (2, .int v2)]) hx hb dX8_countConvoys_44 hl (k := 1) rfl (by rw [et12]; rfl) (by decide) rfl (fun ls hl => ?_)
            obtain ⟨t13, et13⟩ : ∃ y : Int32, y = v2 + (1 : Int32) := ⟨_, rfl⟩
            replace hf := lt1_inv et13 hf
            refine lv_iinc (v := t13) (lv' := [(2, .int t13), (1, .int t12), (0, .ref h_this)]) hx hb dX8_countConvoys_47 hl (k := 2) rfl (by rw [et13]; rfl) (by decide) rfl (fun ls hl => ?_)
            refine lv_goto (tgt := 4) hx hb dX8_countConvoys_50 rfl ?_
            exact hK2 _ _ _ _ (ih t12 t13 hf) _ _ _ h (lv_sub hl [2, 1, 0] rfl)
  refine lv_iconst (v := (0 : Int32)) hx hb dX8_countConvoys_0 rfl ?_
  refine lv_istore_n (lv' := [(1, .int (0 : Int32)), (0, .ref h_this)]) hx hb dX8_countConvoys_1 rfl hl (by decide) rfl (fun ls hl => ?_)
  refine lv_iconst (v := (0 : Int32)) hx hb dX8_countConvoys_2 rfl ?_
  refine lv_istore_n (lv' := [(2, .int (0 : Int32)), (1, .int (0 : Int32)), (0, .ref h_this)]) hx hb dX8_countConvoys_3 rfl hl (by decide) rfl (fun ls hl => ?_)
  exact hK2 _ _ _ _ (L4 1000 (0 : Int32) (0 : Int32) hf) _ _ _ h (lv_sub hl [2, 1, 0] rfl)
set_option maxRecDepth 100000 in
set_option maxHeartbeats 4000000 in
theorem c_X8_convoys {l : Launch} {G : Gt} {h_this h_this_rock h_this_kept h_this_trial h_this_planner h_this_reader h_this_draft h_this_host h_this_thing h_this_tape h_this_rows h_this_rock_kinds h_this_rock_trims h_this_rock_lanes h_this_rock_lights h_this_rock_currents h_this_rock_buoys h_this_rock_now h_this_rock_rules h_this_rock_reports h_this_rock_now_off : Nat} {p0 : Int32} {x_this_tapeCount : Int32} {x_this_rowCount : Int32} {x_this_isKept : Int32} {x_this_rock_count : Int32} {x_this_rock_end : Int32} {x_this_rock_z : Int32} {f_this_rock_lanes : Nat → Int32} {x_this_rock_now_watch : Int32} {x_this_rock_now_score : Int32} {x_this_rock_now_home : Int32} {f_this_rock_now_off : Nat → Int32} {r : Int32} (hf : f_X8_convoys p0 x_this_rock_count f_this_rock_lanes x_this_rock_now_home f_this_rock_now_off = some r) : mFi l G yX8_convoys cX8_convoys 2 .int 4 [.ref h_this, .int p0] [(h_this, ob 8 [.ref h_this_rock, .ref h_this_kept, .ref h_this_trial, .ref h_this_planner, .ref h_this_reader, .ref h_this_draft, .ref h_this_host, .ref h_this_thing, .ref h_this_tape, .ref h_this_rows, .int x_this_tapeCount, .int x_this_rowCount, .int x_this_isKept]), (h_this_rock, ob 3 [.ref h_this_rock_kinds, .ref h_this_rock_trims, .ref h_this_rock_lanes, .ref h_this_rock_lights, .ref h_this_rock_currents, .ref h_this_rock_buoys, .ref h_this_rock_now, .ref h_this_rock_rules, .ref h_this_rock_reports, .int x_this_rock_count, .int x_this_rock_end, .int x_this_rock_z]), (h_this_rock_lanes, ia G 6 f_this_rock_lanes), (h_this_rock_now, ob 6 [.ref h_this_rock_now_off, .int x_this_rock_now_watch, .int x_this_rock_now_score, .int x_this_rock_now_home]), (h_this_rock_now_off, ia G 6 f_this_rock_now_off)] r [(h_this, ob 8 [.ref h_this_rock, .ref h_this_kept, .ref h_this_trial, .ref h_this_planner, .ref h_this_reader, .ref h_this_draft, .ref h_this_host, .ref h_this_thing, .ref h_this_tape, .ref h_this_rows, .int x_this_tapeCount, .int x_this_rowCount, .int x_this_isKept]), (h_this_rock, ob 3 [.ref h_this_rock_kinds, .ref h_this_rock_trims, .ref h_this_rock_lanes, .ref h_this_rock_lights, .ref h_this_rock_currents, .ref h_this_rock_buoys, .ref h_this_rock_now, .ref h_this_rock_rules, .ref h_this_rock_reports, .int x_this_rock_count, .int x_this_rock_end, .int x_this_rock_z]), (h_this_rock_lanes, ia G 6 f_this_rock_lanes), (h_this_rock_now, ob 6 [.ref h_this_rock_now_off, .int x_this_rock_now_watch, .int x_this_rock_now_score, .int x_this_rock_now_home]), (h_this_rock_now_off, ia G 6 f_this_rock_now_off)] := by
  refine mFi.of (by decide +kernel) (Nat.le_of_ble_eq_true rfl) ?_
  intro p e s m below meth c A C hr hlk h ls hl
  obtain ⟨hx, hb, hml, hown, hts⟩ := id C
  replace hl : lv_has ls 2 [(0, .ref h_this), (1, .int p0)] := hl
  unfold f_X8_convoys at hf
  refine lv_iload_n hx hb dX8_convoys_0 rfl (lv_at hl 1 rfl) ?_
  refine lv_iconst (v := (-1 : Int32)) hx hb dX8_convoys_1 rfl ?_
  refine lv_icmp_ne (tgt := 10) hx hb dX8_convoys_2 rfl (fun c1 => ?_) (fun c1 => ?_)
  · replace hf := ifn c1 hf
    refine lv_aload_n hx hb dX8_convoys_10 rfl (lv_at hl 0 rfl) ?_
    refine r_get C h fk_X8_10 0 rfl rfl dX8_convoys_11 ?_
    refine lv_iload_n hx hb dX8_convoys_14 rfl (lv_at hl 1 rfl) ?_
    replace hf := bd1_inv hf
    obtain ⟨r2, hc3, hf⟩ := hf
    refine r_ciV0 C h (c_X3_has hc3) mv_X8_90 rfl 1 rfl [1] rfl rfl hl.1 rfl (Nat.le_of_ble_eq_true rfl) (rok (by decide)) dX8_convoys_15 (fun H locs h => ?_)
    refine lv_if_ne (tgt := 23) hx hb dX8_convoys_18 rfl (fun c4 => ?_) (fun c4 => ?_)
    · replace hf := ifn c4 hf
      refine lv_aload_n hx hb dX8_convoys_23 rfl (lv_at hl 0 rfl) ?_
      refine r_get C h fk_X8_10 0 rfl rfl dX8_convoys_24 ?_
      refine r_get C h fk_X8_94 1 rfl rfl dX8_convoys_27 ?_
      refine lv_iload_n hx hb dX8_convoys_30 rfl (lv_at hl 1 rfl) ?_
      replace hf := bd1_inv hf
      obtain ⟨r5, hc6, hf⟩ := hf
      refine r_ciV0 C h (c_X6_isHome hc6) mv_X8_109 rfl 3 rfl [3] rfl rfl hl.1 rfl (Nat.le_of_ble_eq_true rfl) (rok (by decide)) dX8_convoys_31 (fun H locs h => ?_)
      refine lv_if_eq (tgt := 41) hx hb dX8_convoys_34 rfl (fun c7 => ?_) (fun c7 => ?_)
      · replace hf := ifp c7 hf
        refine lv_aload_n hx hb dX8_convoys_41 rfl (lv_at hl 0 rfl) ?_
        refine r_get C h fk_X8_10 0 rfl rfl dX8_convoys_42 ?_
        refine lv_iload_n hx hb dX8_convoys_45 rfl (lv_at hl 1 rfl) ?_
        replace hf := bd1_inv hf
        obtain ⟨r8, hc9, hf⟩ := hf
        refine r_ciV0 C h (c_X3_convoyOf hc9) mv_X8_206 rfl 1 rfl [1, 2, 3, 4] rfl rfl hl.1 rfl (Nat.le_of_ble_eq_true rfl) (rok (by decide)) dX8_convoys_46 (fun H locs h => ?_)
        cases hf
        exact r_iret C h hr hlk rfl dX8_convoys_49
      · replace hf := ifn c7 hf
        refine lv_iconst (v := (0 : Int32)) hx hb dX8_convoys_37 rfl ?_
        refine lv_goto (tgt := 49) hx hb dX8_convoys_38 rfl ?_
        cases hf
        exact r_iret C h hr hlk rfl dX8_convoys_49
    · replace hf := ifp c4 hf
      refine lv_iconst (v := (-1 : Int32)) hx hb dX8_convoys_21 rfl ?_
      cases hf
      exact r_iret C h hr hlk rfl dX8_convoys_22
  · replace hf := ifp c1 hf
    refine lv_aload_n hx hb dX8_convoys_5 rfl (lv_at hl 0 rfl) ?_
    replace hf := bd1_inv hf
    obtain ⟨r10, hc11, hf⟩ := hf
    refine r_ciV0 C h (c_X8_countConvoys hc11) mv_X8_202 rfl 0 rfl [0, 1, 2, 3, 4] rfl rfl hl.1 rfl (Nat.le_of_ble_eq_true rfl) (rok (by decide)) dX8_convoys_6 (fun H locs h => ?_)
    cases hf
    exact r_iret C h hr hlk rfl dX8_convoys_9
set_option maxRecDepth 100000 in
set_option maxHeartbeats 4000000 in
theorem c_X1_begin {l : Launch} {G : Gt} {h_a0 h_a0_kinds h_a0_trims h_a0_lanes h_a0_lights h_a0_currents h_a0_buoys h_a0_now h_a0_rules h_a0_reports h_a0_now_off h_this h_this_ahead h_this_acts h_this_first h_this_ahead_0 h_this_ahead_1 h_this_ahead_2 h_this_ahead_3 h_this_ahead_4 h_this_ahead_0_off h_this_ahead_1_off h_this_ahead_2_off h_this_ahead_3_off h_this_ahead_4_off : Nat} {p1 : Int32} {x_a0_count : Int32} {x_a0_end : Int32} {x_a0_z : Int32} {x_a0_now_watch : Int32} {x_a0_now_score : Int32} {x_a0_now_home : Int32} {f_a0_now_off : Nat → Int32} {x_this_length : Int32} {x_this_wanted : Int32} {x_this_best : Int32} {x_this_ways : Int32} {x_this_fewest : Int32} {x_this_everHome : Int32} {x_this_ahead_0_watch : Int32} {x_this_ahead_0_score : Int32} {x_this_ahead_0_home : Int32} {f_this_ahead_0_off : Nat → Int32} {x_this_ahead_1_watch : Int32} {x_this_ahead_1_score : Int32} {x_this_ahead_1_home : Int32} {x_this_ahead_2_watch : Int32} {x_this_ahead_2_score : Int32} {x_this_ahead_2_home : Int32} {x_this_ahead_3_watch : Int32} {x_this_ahead_3_score : Int32} {x_this_ahead_3_home : Int32} {x_this_ahead_4_watch : Int32} {x_this_ahead_4_score : Int32} {x_this_ahead_4_home : Int32} {m_this_length : Int32} {m_this_ahead_0_watch : Int32} {m_this_ahead_0_score : Int32} {m_this_ahead_0_home : Int32} {m_this_ahead_0_off : Nat → Int32} (hf : f_X1_begin p1 x_a0_end x_a0_now_watch x_a0_now_score x_a0_now_home f_a0_now_off f_this_ahead_0_off = some (m_this_length, m_this_ahead_0_watch, m_this_ahead_0_score, m_this_ahead_0_home, m_this_ahead_0_off)) : mFv l G yX1_begin cX1_begin 3 2 [.ref h_this, .ref h_a0, .int p1] [(h_a0, ob 3 [.ref h_a0_kinds, .ref h_a0_trims, .ref h_a0_lanes, .ref h_a0_lights, .ref h_a0_currents, .ref h_a0_buoys, .ref h_a0_now, .ref h_a0_rules, .ref h_a0_reports, .int x_a0_count, .int x_a0_end, .int x_a0_z]), (h_a0_now, ob 6 [.ref h_a0_now_off, .int x_a0_now_watch, .int x_a0_now_score, .int x_a0_now_home]), (h_a0_now_off, ia G 6 f_a0_now_off), (h_this, ob 1 [.ref h_this_ahead, .ref h_this_acts, .ref h_this_first, .int x_this_length, .int x_this_wanted, .int x_this_best, .int x_this_ways, .int x_this_fewest, .int x_this_everHome]), (h_this_ahead, ra G 5 (rl5 h_this_ahead_0 h_this_ahead_1 h_this_ahead_2 h_this_ahead_3 h_this_ahead_4)), (h_this_ahead_0, ob 6 [.ref h_this_ahead_0_off, .int x_this_ahead_0_watch, .int x_this_ahead_0_score, .int x_this_ahead_0_home]), (h_this_ahead_0_off, ia G 6 f_this_ahead_0_off), (h_this_ahead_1, ob 6 [.ref h_this_ahead_1_off, .int x_this_ahead_1_watch, .int x_this_ahead_1_score, .int x_this_ahead_1_home]), (h_this_ahead_2, ob 6 [.ref h_this_ahead_2_off, .int x_this_ahead_2_watch, .int x_this_ahead_2_score, .int x_this_ahead_2_home]), (h_this_ahead_3, ob 6 [.ref h_this_ahead_3_off, .int x_this_ahead_3_watch, .int x_this_ahead_3_score, .int x_this_ahead_3_home]), (h_this_ahead_4, ob 6 [.ref h_this_ahead_4_off, .int x_this_ahead_4_watch, .int x_this_ahead_4_score, .int x_this_ahead_4_home])] [(h_a0, ob 3 [.ref h_a0_kinds, .ref h_a0_trims, .ref h_a0_lanes, .ref h_a0_lights, .ref h_a0_currents, .ref h_a0_buoys, .ref h_a0_now, .ref h_a0_rules, .ref h_a0_reports, .int x_a0_count, .int x_a0_end, .int x_a0_z]), (h_a0_now, ob 6 [.ref h_a0_now_off, .int x_a0_now_watch, .int x_a0_now_score, .int x_a0_now_home]), (h_a0_now_off, ia G 6 f_a0_now_off), (h_this, ob 1 [.ref h_this_ahead, .ref h_this_acts, .ref h_this_first, .int m_this_length, .int x_this_wanted, .int x_this_best, .int x_this_ways, .int x_this_fewest, .int x_this_everHome]), (h_this_ahead, ra G 5 (rl5 h_this_ahead_0 h_this_ahead_1 h_this_ahead_2 h_this_ahead_3 h_this_ahead_4)), (h_this_ahead_0, ob 6 [.ref h_this_ahead_0_off, .int m_this_ahead_0_watch, .int m_this_ahead_0_score, .int m_this_ahead_0_home]), (h_this_ahead_0_off, ia G 6 m_this_ahead_0_off), (h_this_ahead_1, ob 6 [.ref h_this_ahead_1_off, .int x_this_ahead_1_watch, .int x_this_ahead_1_score, .int x_this_ahead_1_home]), (h_this_ahead_2, ob 6 [.ref h_this_ahead_2_off, .int x_this_ahead_2_watch, .int x_this_ahead_2_score, .int x_this_ahead_2_home]), (h_this_ahead_3, ob 6 [.ref h_this_ahead_3_off, .int x_this_ahead_3_watch, .int x_this_ahead_3_score, .int x_this_ahead_3_home]), (h_this_ahead_4, ob 6 [.ref h_this_ahead_4_off, .int x_this_ahead_4_watch, .int x_this_ahead_4_score, .int x_this_ahead_4_home])] := by
  refine mFv.of (by decide +kernel) (Nat.le_of_ble_eq_true rfl) ?_
  intro p e s m below meth c A C hr hlk h ls hl
  obtain ⟨hx, hb, hml, hown, hts⟩ := id C
  replace hl : lv_has ls 3 [(0, .ref h_this), (1, .ref h_a0), (2, .int p1)] := hl
  unfold f_X1_begin at hf
  refine lv_aload_n hx hb dX1_begin_0 rfl (lv_at hl 0 rfl) ?_
  refine lv_iconst (v := (0 : Int32)) hx hb dX1_begin_1 rfl ?_
  refine lv_iload_n hx hb dX1_begin_2 rfl (lv_at hl 2 rfl) ?_
  refine lv_iconst (v := (4 : Int32)) hx hb dX1_begin_3 rfl ?_
  refine r_imin C mi_X1_44 hl.1 (Nat.le_of_ble_eq_true rfl) (Nat.le_of_ble_eq_true rfl) dX1_begin_4 ?_
  refine lv_aload_n hx hb dX1_begin_7 rfl (lv_at hl 1 rfl) ?_
  refine r_get C h fk_X1_50 0 rfl rfl dX1_begin_8 ?_
  refine lv_aload_n hx hb dX1_begin_11 rfl (lv_at hl 1 rfl) ?_
  refine r_get C h fk_X1_55 0 rfl rfl dX1_begin_12 ?_
  refine r_get C h fk_X1_59 1 rfl rfl dX1_begin_15 ?_
  refine lv_isub hx hb dX1_begin_18 ?_
  refine r_imin C mi_X1_44 hl.1 (Nat.le_of_ble_eq_true rfl) (Nat.le_of_ble_eq_true rfl) dX1_begin_19 ?_
  refine r_imax C mx_X1_62 hl.1 (Nat.le_of_ble_eq_true rfl) (Nat.le_of_ble_eq_true rfl) dX1_begin_22 ?_
  refine lv_topi (fun t1 et1 => ?_)
  replace hf := lt1_inv et1 hf
  refine r_put (ws' := [(h_a0, ob 3 [.ref h_a0_kinds, .ref h_a0_trims, .ref h_a0_lanes, .ref h_a0_lights, .ref h_a0_currents, .ref h_a0_buoys, .ref h_a0_now, .ref h_a0_rules, .ref h_a0_reports, .int x_a0_count, .int x_a0_end, .int x_a0_z]), (h_a0_now, ob 6 [.ref h_a0_now_off, .int x_a0_now_watch, .int x_a0_now_score, .int x_a0_now_home]), (h_a0_now_off, ia G 6 f_a0_now_off), (h_this, ob 1 [.ref h_this_ahead, .ref h_this_acts, .ref h_this_first, .int t1, .int x_this_wanted, .int x_this_best, .int x_this_ways, .int x_this_fewest, .int x_this_everHome]), (h_this_ahead, ra G 5 (rl5 h_this_ahead_0 h_this_ahead_1 h_this_ahead_2 h_this_ahead_3 h_this_ahead_4)), (h_this_ahead_0, ob 6 [.ref h_this_ahead_0_off, .int x_this_ahead_0_watch, .int x_this_ahead_0_score, .int x_this_ahead_0_home]), (h_this_ahead_0_off, ia G 6 f_this_ahead_0_off), (h_this_ahead_1, ob 6 [.ref h_this_ahead_1_off, .int x_this_ahead_1_watch, .int x_this_ahead_1_score, .int x_this_ahead_1_home]), (h_this_ahead_2, ob 6 [.ref h_this_ahead_2_off, .int x_this_ahead_2_watch, .int x_this_ahead_2_score, .int x_this_ahead_2_home]), (h_this_ahead_3, ob 6 [.ref h_this_ahead_3_off, .int x_this_ahead_3_watch, .int x_this_ahead_3_score, .int x_this_ahead_3_home]), (h_this_ahead_4, ob 6 [.ref h_this_ahead_4_off, .int x_this_ahead_4_watch, .int x_this_ahead_4_score, .int x_this_ahead_4_home])]) C h fw_X1_24 3 rfl rfl rfl (Nat.le_of_ble_eq_true rfl) dX1_begin_25 rfl (fun H locs h => ?_)
  refine lv_aload_n hx hb dX1_begin_28 rfl (lv_at hl 0 rfl) ?_
  refine r_get C h fk_X1_11 3 rfl rfl dX1_begin_29 ?_
  refine lv_iconst (v := (0 : Int32)) hx hb dX1_begin_32 rfl ?_
  refine r_aald C h 4 rfl (vlit rfl) rfl dX1_begin_33 ?_
  refine lv_aload_n hx hb dX1_begin_34 rfl (lv_at hl 1 rfl) ?_
  refine r_get C h fk_X1_55 0 rfl rfl dX1_begin_35 ?_
  replace hf := bd4_inv hf
  obtain ⟨y2, y3, y4, g5, hc6, hf⟩ := hf
  refine r_cvV (ws' := [(h_a0, ob 3 [.ref h_a0_kinds, .ref h_a0_trims, .ref h_a0_lanes, .ref h_a0_lights, .ref h_a0_currents, .ref h_a0_buoys, .ref h_a0_now, .ref h_a0_rules, .ref h_a0_reports, .int x_a0_count, .int x_a0_end, .int x_a0_z]), (h_a0_now, ob 6 [.ref h_a0_now_off, .int x_a0_now_watch, .int x_a0_now_score, .int x_a0_now_home]), (h_a0_now_off, ia G 6 f_a0_now_off), (h_this, ob 1 [.ref h_this_ahead, .ref h_this_acts, .ref h_this_first, .int t1, .int x_this_wanted, .int x_this_best, .int x_this_ways, .int x_this_fewest, .int x_this_everHome]), (h_this_ahead, ra G 5 (rl5 h_this_ahead_0 h_this_ahead_1 h_this_ahead_2 h_this_ahead_3 h_this_ahead_4)), (h_this_ahead_0, ob 6 [.ref h_this_ahead_0_off, .int y2, .int y3, .int y4]), (h_this_ahead_0_off, ia G 6 g5), (h_this_ahead_1, ob 6 [.ref h_this_ahead_1_off, .int x_this_ahead_1_watch, .int x_this_ahead_1_score, .int x_this_ahead_1_home]), (h_this_ahead_2, ob 6 [.ref h_this_ahead_2_off, .int x_this_ahead_2_watch, .int x_this_ahead_2_score, .int x_this_ahead_2_home]), (h_this_ahead_3, ob 6 [.ref h_this_ahead_3_off, .int x_this_ahead_3_watch, .int x_this_ahead_3_score, .int x_this_ahead_3_home]), (h_this_ahead_4, ob 6 [.ref h_this_ahead_4_off, .int x_this_ahead_4_watch, .int x_this_ahead_4_score, .int x_this_ahead_4_home])]) C h (c_X6_become hc6) mv_X1_65 rfl 5 rfl [1, 2, 5, 6] rfl rfl [5, 6] [(h_this_ahead_0, ob 6 [.ref h_this_ahead_0_off, .int y2, .int y3, .int y4]), (h_this_ahead_0_off, ia G 6 g5)] rfl rfl (by decide +kernel) rfl hl.1 rfl (Nat.le_of_ble_eq_true rfl) (rok (by decide)) dX1_begin_38 (fun H locs h => ?_)
  cases hf
  exact r_vret C h hr hlk dX1_begin_41
set_option maxRecDepth 100000 in
set_option maxHeartbeats 4000000 in
theorem c_X1_weigh {l : Launch} {G : Gt} {h_this h_this_ahead h_this_acts h_this_first : Nat} {p0 : Int32} {p1 : Int32} {p2 : Int32} {p3 : Int32} {x_this_length : Int32} {x_this_wanted : Int32} {x_this_best : Int32} {x_this_ways : Int32} {x_this_fewest : Int32} {x_this_everHome : Int32} {f_this_acts : Nat → Int32} {f_this_first : Nat → Int32} {m_this_best : Int32} {m_this_ways : Int32} {m_this_fewest : Int32} {m_this_everHome : Int32} {m_this_first : Nat → Int32} (hf : f_X1_weigh p0 p1 p2 p3 x_this_wanted x_this_best x_this_ways x_this_fewest x_this_everHome f_this_acts f_this_first = some (m_this_best, m_this_ways, m_this_fewest, m_this_everHome, m_this_first)) : mFv l G yX1_weigh cX1_weigh 5 1 [.ref h_this, .int p0, .int p1, .int p2, .int p3] [(h_this, ob 1 [.ref h_this_ahead, .ref h_this_acts, .ref h_this_first, .int x_this_length, .int x_this_wanted, .int x_this_best, .int x_this_ways, .int x_this_fewest, .int x_this_everHome]), (h_this_acts, ia G 4 f_this_acts), (h_this_first, ia G 4 f_this_first)] [(h_this, ob 1 [.ref h_this_ahead, .ref h_this_acts, .ref h_this_first, .int x_this_length, .int x_this_wanted, .int m_this_best, .int m_this_ways, .int m_this_fewest, .int m_this_everHome]), (h_this_acts, ia G 4 f_this_acts), (h_this_first, ia G 4 m_this_first)] := by
  refine mFv.of (by decide +kernel) (Nat.le_of_ble_eq_true rfl) ?_
  intro p e s m below meth c A C hr hlk h ls hl
  obtain ⟨hx, hb, hml, hown, hts⟩ := id C
  replace hl : lv_has ls 5 [(0, .ref h_this), (1, .int p0), (2, .int p1), (3, .int p2), (4, .int p3)] := hl
  unfold f_X1_weigh at hf
  refine with_K G A 5 (fun K hK1 hK2 => ?_)
  have B81 : ∀ (y_this_best : Int32) (y_this_ways : Int32) (g_this_first : Nat → Int32), f_X1_weigh_b81 p0 p3 x_this_everHome y_this_best y_this_ways g_this_first = some (m_this_best, m_this_ways, m_this_fewest, m_this_everHome, m_this_first) → K 81 ([] : List Value) [(h_this, ob 1 [.ref h_this_ahead, .ref h_this_acts, .ref h_this_first, .int x_this_length, .int x_this_wanted, .int y_this_best, .int y_this_ways, .int x_this_fewest, .int x_this_everHome]), (h_this_acts, ia G 4 f_this_acts), (h_this_first, ia G 4 g_this_first)] [(0, .ref h_this), (1, .int p0), (4, .int p3)] := by
    intro y_this_best y_this_ways g_this_first hf
    unfold f_X1_weigh_b81 at hf
    refine hK1 _ _ _ _ (fun H locs ls h hl => ?_)
    refine lv_aload_n hx hb dX1_weigh_81 rfl (lv_at hl 0 rfl) ?_
    refine lv_iload_n hx hb dX1_weigh_82 rfl (lv_at hl 1 rfl) ?_
    refine r_put (ws' := [(h_this, ob 1 [.ref h_this_ahead, .ref h_this_acts, .ref h_this_first, .int x_this_length, .int x_this_wanted, .int y_this_best, .int y_this_ways, .int p0, .int x_this_everHome]), (h_this_acts, ia G 4 f_this_acts), (h_this_first, ia G 4 g_this_first)]) C h fw_X1_37 0 rfl rfl rfl (Nat.le_of_ble_eq_true rfl) dX1_weigh_83 rfl (fun H locs h => ?_)
    refine lv_aload_n hx hb dX1_weigh_86 rfl (lv_at hl 0 rfl) ?_
    refine lv_dup hx hb dX1_weigh_87 rfl ?_
    refine r_get C h fk_X1_40 0 rfl rfl dX1_weigh_88 ?_
    refine lv_iload hx hb dX1_weigh_91 (lv_at hl 2 rfl) ?_
    refine lv_ior hx hb dX1_weigh_93 ?_
    refine lv_topi (fun t6 et6 => ?_)
    replace hf := lt1_inv et6 hf
    refine r_put (ws' := [(h_this, ob 1 [.ref h_this_ahead, .ref h_this_acts, .ref h_this_first, .int x_this_length, .int x_this_wanted, .int y_this_best, .int y_this_ways, .int p0, .int t6]), (h_this_acts, ia G 4 f_this_acts), (h_this_first, ia G 4 g_this_first)]) C h fw_X1_40 0 rfl rfl rfl (Nat.le_of_ble_eq_true rfl) dX1_weigh_94 rfl (fun H locs h => ?_)
    cases hf
    exact r_vret C h hr hlk dX1_weigh_97
  have B50 : ∀ (y_this_best : Int32) (y_this_ways : Int32) (g_this_first : Nat → Int32), f_X1_weigh_b50 p0 p3 x_this_wanted x_this_fewest x_this_everHome y_this_best y_this_ways g_this_first = some (m_this_best, m_this_ways, m_this_fewest, m_this_everHome, m_this_first) → K 50 ([] : List Value) [(h_this, ob 1 [.ref h_this_ahead, .ref h_this_acts, .ref h_this_first, .int x_this_length, .int x_this_wanted, .int y_this_best, .int y_this_ways, .int x_this_fewest, .int x_this_everHome]), (h_this_acts, ia G 4 f_this_acts), (h_this_first, ia G 4 g_this_first)] [(0, .ref h_this), (1, .int p0), (4, .int p3)] := by
    intro y_this_best y_this_ways g_this_first hf
    unfold f_X1_weigh_b50 at hf
    refine hK1 _ _ _ _ (fun H locs ls h hl => ?_)
    refine lv_iload hx hb dX1_weigh_50 (lv_at hl 2 rfl) ?_
    refine lv_aload_n hx hb dX1_weigh_52 rfl (lv_at hl 0 rfl) ?_
    refine r_get C h fk_X1_28 0 rfl rfl dX1_weigh_53 ?_
    refine lv_iand hx hb dX1_weigh_56 ?_
    refine lv_aload_n hx hb dX1_weigh_57 rfl (lv_at hl 0 rfl) ?_
    refine r_get C h fk_X1_28 0 rfl rfl dX1_weigh_58 ?_
    refine lv_icmp_ne (tgt := 86) hx hb dX1_weigh_61 rfl (fun c3 => ?_) (fun c3 => ?_)
    · replace hf := ifn c3 hf
      refine lv_aload_n hx hb dX1_weigh_86 rfl (lv_at hl 0 rfl) ?_
      refine lv_dup hx hb dX1_weigh_87 rfl ?_
      refine r_get C h fk_X1_40 0 rfl rfl dX1_weigh_88 ?_
      refine lv_iload hx hb dX1_weigh_91 (lv_at hl 2 rfl) ?_
      refine lv_ior hx hb dX1_weigh_93 ?_
      refine lv_topi (fun t4 et4 => ?_)
      replace hf := lt1_inv et4 hf
      refine r_put (ws' := [(h_this, ob 1 [.ref h_this_ahead, .ref h_this_acts, .ref h_this_first, .int x_this_length, .int x_this_wanted, .int y_this_best, .int y_this_ways, .int x_this_fewest, .int t4]), (h_this_acts, ia G 4 f_this_acts), (h_this_first, ia G 4 g_this_first)]) C h fw_X1_40 0 rfl rfl rfl (Nat.le_of_ble_eq_true rfl) dX1_weigh_94 rfl (fun H locs h => ?_)
      cases hf
      exact r_vret C h hr hlk dX1_weigh_97
    · replace hf := ifp c3 hf
      refine lv_aload_n hx hb dX1_weigh_64 rfl (lv_at hl 0 rfl) ?_
      refine r_get C h fk_X1_37 0 rfl rfl dX1_weigh_65 ?_
      refine lv_bipush (v := (-3 : Int32)) hx hb dX1_weigh_68 rfl ?_
      refine lv_icmp_eq (tgt := 81) hx hb dX1_weigh_70 rfl (fun c5 => ?_) (fun c5 => ?_)
      · replace hf := ifp c5 hf
        exact hK2 _ _ _ _ (B81 y_this_best y_this_ways g_this_first hf) _ _ _ h (lv_sub hl [0, 1, 2] rfl)
      · replace hf := ifn c5 hf
        refine lv_iload_n hx hb dX1_weigh_73 rfl (lv_at hl 1 rfl) ?_
        refine lv_aload_n hx hb dX1_weigh_74 rfl (lv_at hl 0 rfl) ?_
        refine r_get C h fk_X1_37 0 rfl rfl dX1_weigh_75 ?_
        refine lv_icmp_ge (tgt := 86) hx hb dX1_weigh_78 rfl (fun c7 => ?_) (fun c7 => ?_)
        · replace hf := ifp c7 hf
          refine lv_aload_n hx hb dX1_weigh_86 rfl (lv_at hl 0 rfl) ?_
          refine lv_dup hx hb dX1_weigh_87 rfl ?_
          refine r_get C h fk_X1_40 0 rfl rfl dX1_weigh_88 ?_
          refine lv_iload hx hb dX1_weigh_91 (lv_at hl 2 rfl) ?_
          refine lv_ior hx hb dX1_weigh_93 ?_
          refine lv_topi (fun t8 et8 => ?_)
          replace hf := lt1_inv et8 hf
          refine r_put (ws' := [(h_this, ob 1 [.ref h_this_ahead, .ref h_this_acts, .ref h_this_first, .int x_this_length, .int x_this_wanted, .int y_this_best, .int y_this_ways, .int x_this_fewest, .int t8]), (h_this_acts, ia G 4 f_this_acts), (h_this_first, ia G 4 g_this_first)]) C h fw_X1_40 0 rfl rfl rfl (Nat.le_of_ble_eq_true rfl) dX1_weigh_94 rfl (fun H locs h => ?_)
          cases hf
          exact r_vret C h hr hlk dX1_weigh_97
        · replace hf := ifn c7 hf
          exact hK2 _ _ _ _ (B81 y_this_best y_this_ways g_this_first hf) _ _ _ h (lv_sub hl [0, 1, 2] rfl)
  have B32 : ∀ (y_this_best : Int32) (y_this_ways : Int32) (g_this_first : Nat → Int32), f_X1_weigh_b32 p0 p1 p2 p3 x_this_wanted x_this_fewest x_this_everHome y_this_best y_this_ways g_this_first = some (m_this_best, m_this_ways, m_this_fewest, m_this_everHome, m_this_first) → K 32 ([] : List Value) [(h_this, ob 1 [.ref h_this_ahead, .ref h_this_acts, .ref h_this_first, .int x_this_length, .int x_this_wanted, .int y_this_best, .int y_this_ways, .int x_this_fewest, .int x_this_everHome]), (h_this_acts, ia G 4 f_this_acts), (h_this_first, ia G 4 g_this_first)] [(0, .ref h_this), (1, .int p0), (2, .int p1), (3, .int p2), (4, .int p3)] := by
    intro y_this_best y_this_ways g_this_first hf
    unfold f_X1_weigh_b32 at hf
    refine hK1 _ _ _ _ (fun H locs ls h hl => ?_)
    refine lv_iload_n hx hb dX1_weigh_32 rfl (lv_at hl 3 rfl) ?_
    refine lv_aload_n hx hb dX1_weigh_33 rfl (lv_at hl 0 rfl) ?_
    refine r_get C h fk_X1_31 0 rfl rfl dX1_weigh_34 ?_
    refine lv_icmp_ne (tgt := 50) hx hb dX1_weigh_37 rfl (fun c2 => ?_) (fun c2 => ?_)
    · replace hf := ifn c2 hf
      exact hK2 _ _ _ _ (B50 y_this_best y_this_ways g_this_first hf) _ _ _ h (lv_sub hl [0, 1, 4] rfl)
    · replace hf := ifp c2 hf
      refine lv_aload_n hx hb dX1_weigh_40 rfl (lv_at hl 0 rfl) ?_
      refine lv_dup hx hb dX1_weigh_41 rfl ?_
      refine r_get C h fk_X1_34 0 rfl rfl dX1_weigh_42 ?_
      refine lv_iload_n hx hb dX1_weigh_45 rfl (lv_at hl 2 rfl) ?_
      refine lv_iadd hx hb dX1_weigh_46 ?_
      refine lv_topi (fun t9 et9 => ?_)
      replace hf := lt1_inv et9 hf
      refine r_put (ws' := [(h_this, ob 1 [.ref h_this_ahead, .ref h_this_acts, .ref h_this_first, .int x_this_length, .int x_this_wanted, .int y_this_best, .int t9, .int x_this_fewest, .int x_this_everHome]), (h_this_acts, ia G 4 f_this_acts), (h_this_first, ia G 4 g_this_first)]) C h fw_X1_34 0 rfl rfl rfl (Nat.le_of_ble_eq_true rfl) dX1_weigh_47 rfl (fun H locs h => ?_)
      exact hK2 _ _ _ _ (B50 y_this_best t9 g_this_first hf) _ _ _ h (lv_sub hl [0, 1, 4] rfl)
  refine lv_iload_n hx hb dX1_weigh_0 rfl (lv_at hl 3 rfl) ?_
  refine lv_aload_n hx hb dX1_weigh_1 rfl (lv_at hl 0 rfl) ?_
  refine r_get C h fk_X1_31 0 rfl rfl dX1_weigh_2 ?_
  refine lv_icmp_le (tgt := 32) hx hb dX1_weigh_5 rfl (fun c1 => ?_) (fun c1 => ?_)
  · replace hf := ifp c1 hf
    exact hK2 _ _ _ _ (B32 x_this_best x_this_ways f_this_first hf) _ _ _ h (lv_sub hl [0, 1, 2, 3, 4] rfl)
  · replace hf := ifn c1 hf
    refine lv_aload_n hx hb dX1_weigh_8 rfl (lv_at hl 0 rfl) ?_
    refine lv_iload_n hx hb dX1_weigh_9 rfl (lv_at hl 3 rfl) ?_
    refine r_put (ws' := [(h_this, ob 1 [.ref h_this_ahead, .ref h_this_acts, .ref h_this_first, .int x_this_length, .int x_this_wanted, .int p2, .int x_this_ways, .int x_this_fewest, .int x_this_everHome]), (h_this_acts, ia G 4 f_this_acts), (h_this_first, ia G 4 f_this_first)]) C h fw_X1_31 0 rfl rfl rfl (Nat.le_of_ble_eq_true rfl) dX1_weigh_10 rfl (fun H locs h => ?_)
    refine lv_aload_n hx hb dX1_weigh_13 rfl (lv_at hl 0 rfl) ?_
    refine lv_iconst (v := (0 : Int32)) hx hb dX1_weigh_14 rfl ?_
    refine r_put (ws' := [(h_this, ob 1 [.ref h_this_ahead, .ref h_this_acts, .ref h_this_first, .int x_this_length, .int x_this_wanted, .int p2, .int (0 : Int32), .int x_this_fewest, .int x_this_everHome]), (h_this_acts, ia G 4 f_this_acts), (h_this_first, ia G 4 f_this_first)]) C h fw_X1_34 0 rfl rfl rfl (Nat.le_of_ble_eq_true rfl) dX1_weigh_15 rfl (fun H locs h => ?_)
    refine lv_aload_n hx hb dX1_weigh_18 rfl (lv_at hl 0 rfl) ?_
    refine r_get C h fk_X1_17 0 rfl rfl dX1_weigh_19 ?_
    refine lv_iconst (v := (0 : Int32)) hx hb dX1_weigh_22 rfl ?_
    refine lv_aload_n hx hb dX1_weigh_23 rfl (lv_at hl 0 rfl) ?_
    refine r_get C h fk_X1_21 0 rfl rfl dX1_weigh_24 ?_
    refine lv_iconst (v := (0 : Int32)) hx hb dX1_weigh_27 rfl ?_
    refine lv_iconst (v := (4 : Int32)) hx hb dX1_weigh_28 rfl ?_
    replace hf := chkC_inv hf
    obtain ⟨ha10, hf⟩ := hf
    refine r_copy (ws' := [(h_this, ob 1 [.ref h_this_ahead, .ref h_this_acts, .ref h_this_first, .int x_this_length, .int x_this_wanted, .int p2, .int (0 : Int32), .int x_this_fewest, .int x_this_everHome]), (h_this_acts, ia G 4 f_this_acts), (h_this_first, ia G 4 (va_cpy f_this_acts f_this_first (0 : Int32).toNatClampNeg (0 : Int32).toNatClampNeg (4 : Int32).toNatClampNeg))]) C h ac_X1_104 1 2 rfl rfl ha10 hl.1 (Nat.le_of_ble_eq_true rfl) (Nat.le_of_ble_eq_true rfl) dX1_weigh_29 rfl (fun H locs h => ?_)
    exact hK2 _ _ _ _ (B32 p2 (0 : Int32) (va_cpy f_this_acts f_this_first (0 : Int32).toNatClampNeg (0 : Int32).toNatClampNeg (4 : Int32).toNatClampNeg) hf) _ _ _ h (lv_sub hl [0, 1, 2, 3, 4] rfl)
