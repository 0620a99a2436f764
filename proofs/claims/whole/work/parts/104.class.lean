set_option maxRecDepth 100000 in
set_option maxHeartbeats 4000000 in
theorem c_X5_clear {l : Launch} {G : Gt} {h_this h_this_kinds h_this_deeds h_this_begins h_this_steps h_this_lefts h_this_rights h_this_facts : Nat} {x_this_count : Int32} {x_this_size : Int32} {m_this_count : Int32} {m_this_size : Int32} (hf : f_X5_clear = some (m_this_count, m_this_size)) : mFv l G yX5_clear cX5_clear 1 0 [.ref h_this] [(h_this, ob 5 [.ref h_this_kinds, .ref h_this_deeds, .ref h_this_begins, .ref h_this_steps, .ref h_this_lefts, .ref h_this_rights, .ref h_this_facts, .int x_this_count, .int x_this_size])] [(h_this, ob 5 [.ref h_this_kinds, .ref h_this_deeds, .ref h_this_begins, .ref h_this_steps, .ref h_this_lefts, .ref h_this_rights, .ref h_this_facts, .int m_this_count, .int m_this_size])] := by
  refine mFv.of (by decide +kernel) (Nat.le_of_ble_eq_true rfl) ?_
  intro p e s m below meth c A C hr hlk h ls hl
  obtain ⟨hx, hb, hml, hown, hts⟩ := id C
  replace hl : lv_has ls 1 [(0, .ref h_this)] := hl
  unfold f_X5_clear at hf
  refine lv_aload_n hx hb dX5_clear_0 rfl (lv_at hl 0 rfl) ?_
  refine lv_iconst (v := (0 : Int32)) hx hb dX5_clear_1 rfl ?_
  refine r_put (ws' := [(h_this, ob 5 [.ref h_this_kinds, .ref h_this_deeds, .ref h_this_begins, .ref h_this_steps, .ref h_this_lefts, .ref h_this_rights, .ref h_this_facts, .int (0 : Int32), .int x_this_size])]) C h fw_X5_33 0 rfl rfl rfl (Nat.le_of_ble_eq_true rfl) dX5_clear_2 rfl (fun H locs h => ?_)
  refine lv_aload_n hx hb dX5_clear_5 rfl (lv_at hl 0 rfl) ?_
  refine lv_iconst (v := (0 : Int32)) hx hb dX5_clear_6 rfl ?_
  refine r_put (ws' := [(h_this, ob 5 [.ref h_this_kinds, .ref h_this_deeds, .ref h_this_begins, .ref h_this_steps, .ref h_this_lefts, .ref h_this_rights, .ref h_this_facts, .int (0 : Int32), .int (0 : Int32)])]) C h fw_X5_37 0 rfl rfl rfl (Nat.le_of_ble_eq_true rfl) dX5_clear_7 rfl (fun H locs h => ?_)
  cases hf
  exact r_vret C h hr hlk dX5_clear_10
set_option maxRecDepth 100000 in
set_option maxHeartbeats 4000000 in
theorem c_X4_isLetter {l : Launch} {G : Gt} {p0 : Int32} {r : Int32} (hf : f_X4_isLetter p0 = some r) : mFi l G yX4_isLetter cX4_isLetter 1 .boolean 0 [.int p0] ([] : va_W) r ([] : va_W) := by
  refine mFi.of (by decide +kernel) (Nat.le_of_ble_eq_true rfl) ?_
  intro p e s m below meth c A C hr hlk h ls hl
  obtain ⟨hx, hb, hml, hown, hts⟩ := id C
  replace hl : lv_has ls 1 [(0, .int p0)] := hl
  unfold f_X4_isLetter at hf
  refine lv_iload_n hx hb dX4_isLetter_0 rfl (lv_at hl 0 rfl) ?_
  refine lv_bipush (v := (97 : Int32)) hx hb dX4_isLetter_1 rfl ?_
  refine lv_icmp_lt (tgt := 16) hx hb dX4_isLetter_3 rfl (fun c1 => ?_) (fun c1 => ?_)
  · replace hf := ifp c1 hf
    refine lv_iconst (v := (0 : Int32)) hx hb dX4_isLetter_16 rfl ?_
    cases hf
    exact r_iret C h hr hlk rfl dX4_isLetter_17
  · replace hf := ifn c1 hf
    refine lv_iload_n hx hb dX4_isLetter_6 rfl (lv_at hl 0 rfl) ?_
    refine lv_bipush (v := (122 : Int32)) hx hb dX4_isLetter_7 rfl ?_
    refine lv_icmp_gt (tgt := 16) hx hb dX4_isLetter_9 rfl (fun c2 => ?_) (fun c2 => ?_)
    · replace hf := ifp c2 hf
      refine lv_iconst (v := (0 : Int32)) hx hb dX4_isLetter_16 rfl ?_
      cases hf
      exact r_iret C h hr hlk rfl dX4_isLetter_17
    · replace hf := ifn c2 hf
      refine lv_iconst (v := (1 : Int32)) hx hb dX4_isLetter_12 rfl ?_
      refine lv_goto (tgt := 17) hx hb dX4_isLetter_13 rfl ?_
      cases hf
      exact r_iret C h hr hlk rfl dX4_isLetter_17
set_option maxRecDepth 100000 in
set_option maxHeartbeats 4000000 in
theorem c_X4_wordOf {l : Launch} {G : Gt} {h_a0 : Nat} {p1 : Int32} {p2 : Int32} {n_a0 : Nat} {f_a0 : Nat → Int32} {r : Int32} (hf : f_X4_wordOf p1 p2 n_a0 f_a0 = some r) : mFi l G yX4_wordOf cX4_wordOf 8 .int 9 [.ref h_a0, .int p1, .int p2] [(h_a0, ia G n_a0 f_a0)] r [(h_a0, ia G n_a0 f_a0)] := by
  refine mFi.of (by decide +kernel) (Nat.le_of_ble_eq_true rfl) ?_
  intro p e s m below meth c A C hr hlk h ls hl
  obtain ⟨hx, hb, hml, hown, hts⟩ := id C
  replace hl : lv_has ls 8 [(0, .ref h_a0), (1, .int p1), (2, .int p2)] := hl
  unfold f_X4_wordOf at hf
  refine with_K G A 8 (fun K hK1 hK2 => ?_)
  have L11 : ∀ (n : Nat) (v3 : Int32) (v4 : Int32) (v5 : Int32) (v6 : Int32), f_X4_wordOf_L11 p1 p2 n_a0 f_a0 n v3 v4 v5 v6 = some r → K 11 ([] : List Value) [(h_a0, ia G n_a0 f_a0)] [(0, .ref h_a0), (1, .int p1), (2, .int p2), (3, .int v3), (4, .int v4), (5, .int v5), (6, .int v6)] := by
    intro n
    induction n with
    | zero =>
      intro v3 v4 v5 v6 hf
      replace hf : (none : Option _) = some _ := hf
      cases hf
    | succ n ih =>
      intro v3 v4 v5 v6 hf
      rw [f_X4_wordOf_L11] at hf
      refine hK1 _ _ _ _ (fun H locs ls h hl => ?_)
      refine lv_iload hx hb dX4_wordOf_11 (lv_at hl 6 rfl) ?_
      refine r_ldcW C h dX4_wordOf_13 (fun aW hW => ?_)
      refine r_wlen C h hW hl.1 (Nat.le_of_ble_eq_true rfl) dX4_wordOf_15 (fun H locs h => ?_)
      refine lv_icmp_ge (tgt := 100) hx hb dX4_wordOf_18 rfl (fun c1 => ?_) (fun c1 => ?_)
      · replace hf := ifp c1 hf
        refine lv_bipush (v := (20 : Int32)) hx hb dX4_wordOf_100 rfl ?_
        cases hf
        exact r_iret C h hr hlk rfl dX4_wordOf_102
      · replace hf := ifn c1 hf
        refine r_ldcW C h dX4_wordOf_21 (fun aW hW => ?_)
        refine lv_iload hx hb dX4_wordOf_23 (lv_at hl 6 rfl) ?_
        replace hf := chkI_inv hf
        obtain ⟨hi2, hf⟩ := hf
        refine r_wch C h hW hi2 hl.1 (Nat.le_of_ble_eq_true rfl) dX4_wordOf_25 (fun H locs h => ?_)
        refine lv_topi (fun t3 et3 => ?_)
        replace hf := lt1_inv et3 hf
        refine lv_istore (lv' := [(7, .int t3), (0, .ref h_a0), (1, .int p1), (2, .int p2), (3, .int v3), (4, .int v4), (5, .int v5), (6, .int v6)]) hx hb dX4_wordOf_28 hl (by decide) rfl (fun ls hl => ?_)
        refine lv_iload hx hb dX4_wordOf_30 (lv_at hl 0 rfl) ?_
        refine lv_bipush (v := (32 : Int32)) hx hb dX4_wordOf_32 rfl ?_
        refine lv_icmp_eq (tgt := 72) hx hb dX4_wordOf_34 rfl (fun c4 => ?_) (fun c4 => ?_)
        · replace hf := ifp c4 hf
          refine lv_iload hx hb dX4_wordOf_72 (lv_at hl 6 rfl) ?_
          refine lv_if_eq (tgt := 85) hx hb dX4_wordOf_74 rfl (fun c5 => ?_) (fun c5 => ?_)
          · replace hf := ifp c5 hf
            obtain ⟨t6, et6⟩ : ∃ y : Int32, y = v3 + (1 : Int32) := ⟨_, rfl⟩
            replace hf := lt1_inv et6 hf
            refine lv_iinc (v := t6) (lv' := [(3, .int t6), (7, .int t3), (0, .ref h_a0), (1, .int p1), (2, .int p2), (4, .int v4), (5, .int v5), (6, .int v6)]) hx hb dX4_wordOf_85 hl (k := 4) rfl (by rw [et6]; rfl) (by decide) rfl (fun ls hl => ?_)
            refine lv_iconst (v := (0 : Int32)) hx hb dX4_wordOf_88 rfl ?_
            refine lv_istore (lv' := [(4, .int (0 : Int32)), (3, .int t6), (7, .int t3), (0, .ref h_a0), (1, .int p1), (2, .int p2), (5, .int v5), (6, .int v6)]) hx hb dX4_wordOf_89 hl (by decide) rfl (fun ls hl => ?_)
            refine lv_iconst (v := (1 : Int32)) hx hb dX4_wordOf_91 rfl ?_
            refine lv_istore (lv' := [(5, .int (1 : Int32)), (4, .int (0 : Int32)), (3, .int t6), (7, .int t3), (0, .ref h_a0), (1, .int p1), (2, .int p2), (6, .int v6)]) hx hb dX4_wordOf_92 hl (by decide) rfl (fun ls hl => ?_)
            obtain ⟨t7, et7⟩ : ∃ y : Int32, y = v6 + (1 : Int32) := ⟨_, rfl⟩
            replace hf := lt1_inv et7 hf
            refine lv_iinc (v := t7) (lv' := [(6, .int t7), (5, .int (1 : Int32)), (4, .int (0 : Int32)), (3, .int t6), (7, .int t3), (0, .ref h_a0), (1, .int p1), (2, .int p2)]) hx hb dX4_wordOf_94 hl (k := 7) rfl (by rw [et7]; rfl) (by decide) rfl (fun ls hl => ?_)
            refine lv_goto (tgt := 11) hx hb dX4_wordOf_97 rfl ?_
            exact hK2 _ _ _ _ (ih t6 (0 : Int32) (1 : Int32) t7 hf) _ _ _ h (lv_sub hl [5, 6, 7, 3, 2, 1, 0] rfl)
          · replace hf := ifn c5 hf
            refine lv_iload hx hb dX4_wordOf_77 (lv_at hl 5 rfl) ?_
            refine lv_iload_n hx hb dX4_wordOf_79 rfl (lv_at hl 3 rfl) ?_
            refine lv_icmp_ne (tgt := 85) hx hb dX4_wordOf_80 rfl (fun c8 => ?_) (fun c8 => ?_)
            · replace hf := ifn c8 hf
              obtain ⟨t9, et9⟩ : ∃ y : Int32, y = v3 + (1 : Int32) := ⟨_, rfl⟩
              replace hf := lt1_inv et9 hf
              refine lv_iinc (v := t9) (lv' := [(3, .int t9), (7, .int t3), (0, .ref h_a0), (1, .int p1), (2, .int p2), (4, .int v4), (5, .int v5), (6, .int v6)]) hx hb dX4_wordOf_85 hl (k := 4) rfl (by rw [et9]; rfl) (by decide) rfl (fun ls hl => ?_)
              refine lv_iconst (v := (0 : Int32)) hx hb dX4_wordOf_88 rfl ?_
              refine lv_istore (lv' := [(4, .int (0 : Int32)), (3, .int t9), (7, .int t3), (0, .ref h_a0), (1, .int p1), (2, .int p2), (5, .int v5), (6, .int v6)]) hx hb dX4_wordOf_89 hl (by decide) rfl (fun ls hl => ?_)
              refine lv_iconst (v := (1 : Int32)) hx hb dX4_wordOf_91 rfl ?_
              refine lv_istore (lv' := [(5, .int (1 : Int32)), (4, .int (0 : Int32)), (3, .int t9), (7, .int t3), (0, .ref h_a0), (1, .int p1), (2, .int p2), (6, .int v6)]) hx hb dX4_wordOf_92 hl (by decide) rfl (fun ls hl => ?_)
              obtain ⟨t10, et10⟩ : ∃ y : Int32, y = v6 + (1 : Int32) := ⟨_, rfl⟩
              replace hf := lt1_inv et10 hf
              refine lv_iinc (v := t10) (lv' := [(6, .int t10), (5, .int (1 : Int32)), (4, .int (0 : Int32)), (3, .int t9), (7, .int t3), (0, .ref h_a0), (1, .int p1), (2, .int p2)]) hx hb dX4_wordOf_94 hl (k := 7) rfl (by rw [et10]; rfl) (by decide) rfl (fun ls hl => ?_)
              refine lv_goto (tgt := 11) hx hb dX4_wordOf_97 rfl ?_
              exact hK2 _ _ _ _ (ih t9 (0 : Int32) (1 : Int32) t10 hf) _ _ _ h (lv_sub hl [5, 6, 7, 3, 2, 1, 0] rfl)
            · replace hf := ifp c8 hf
              refine lv_iload_n hx hb dX4_wordOf_83 rfl (lv_at hl 4 rfl) ?_
              cases hf
              exact r_iret C h hr hlk rfl dX4_wordOf_84
        · replace hf := ifn c4 hf
          refine lv_iload hx hb dX4_wordOf_37 (lv_at hl 6 rfl) ?_
          refine lv_if_eq (tgt := 63) hx hb dX4_wordOf_39 rfl (fun c11 => ?_) (fun c11 => ?_)
          · replace hf := ifp c11 hf
            refine lv_iconst (v := (0 : Int32)) hx hb dX4_wordOf_63 rfl ?_
            refine lv_istore (lv' := [(5, .int (0 : Int32)), (7, .int t3), (0, .ref h_a0), (1, .int p1), (2, .int p2), (3, .int v3), (4, .int v4), (6, .int v6)]) hx hb dX4_wordOf_64 hl (by decide) rfl (fun ls hl => ?_)
            obtain ⟨t12, et12⟩ : ∃ y : Int32, y = v4 + (1 : Int32) := ⟨_, rfl⟩
            replace hf := lt1_inv et12 hf
            refine lv_iinc (v := t12) (lv' := [(4, .int t12), (5, .int (0 : Int32)), (7, .int t3), (0, .ref h_a0), (1, .int p1), (2, .int p2), (3, .int v3), (6, .int v6)]) hx hb dX4_wordOf_66 hl (k := 6) rfl (by rw [et12]; rfl) (by decide) rfl (fun ls hl => ?_)
            refine lv_goto (tgt := 94) hx hb dX4_wordOf_69 rfl ?_
            obtain ⟨t13, et13⟩ : ∃ y : Int32, y = v6 + (1 : Int32) := ⟨_, rfl⟩
            replace hf := lt1_inv et13 hf
            refine lv_iinc (v := t13) (lv' := [(6, .int t13), (4, .int t12), (5, .int (0 : Int32)), (7, .int t3), (0, .ref h_a0), (1, .int p1), (2, .int p2), (3, .int v3)]) hx hb dX4_wordOf_94 hl (k := 7) rfl (by rw [et13]; rfl) (by decide) rfl (fun ls hl => ?_)
            refine lv_goto (tgt := 11) hx hb dX4_wordOf_97 rfl ?_
            exact hK2 _ _ _ _ (ih v3 t12 (0 : Int32) t13 hf) _ _ _ h (lv_sub hl [4, 5, 6, 7, 1, 2, 0] rfl)
          · replace hf := ifn c11 hf
            refine lv_iload hx hb dX4_wordOf_42 (lv_at hl 5 rfl) ?_
            refine lv_iload_n hx hb dX4_wordOf_44 rfl (lv_at hl 3 rfl) ?_
            refine lv_icmp_ge (tgt := 63) hx hb dX4_wordOf_45 rfl (fun c14 => ?_) (fun c14 => ?_)
            · replace hf := ifp c14 hf
              refine lv_iconst (v := (0 : Int32)) hx hb dX4_wordOf_63 rfl ?_
              refine lv_istore (lv' := [(5, .int (0 : Int32)), (7, .int t3), (0, .ref h_a0), (1, .int p1), (2, .int p2), (3, .int v3), (4, .int v4), (6, .int v6)]) hx hb dX4_wordOf_64 hl (by decide) rfl (fun ls hl => ?_)
              obtain ⟨t15, et15⟩ : ∃ y : Int32, y = v4 + (1 : Int32) := ⟨_, rfl⟩
              replace hf := lt1_inv et15 hf
              refine lv_iinc (v := t15) (lv' := [(4, .int t15), (5, .int (0 : Int32)), (7, .int t3), (0, .ref h_a0), (1, .int p1), (2, .int p2), (3, .int v3), (6, .int v6)]) hx hb dX4_wordOf_66 hl (k := 6) rfl (by rw [et15]; rfl) (by decide) rfl (fun ls hl => ?_)
              refine lv_goto (tgt := 94) hx hb dX4_wordOf_69 rfl ?_
              obtain ⟨t16, et16⟩ : ∃ y : Int32, y = v6 + (1 : Int32) := ⟨_, rfl⟩
              replace hf := lt1_inv et16 hf
              refine lv_iinc (v := t16) (lv' := [(6, .int t16), (4, .int t15), (5, .int (0 : Int32)), (7, .int t3), (0, .ref h_a0), (1, .int p1), (2, .int p2), (3, .int v3)]) hx hb dX4_wordOf_94 hl (k := 7) rfl (by rw [et16]; rfl) (by decide) rfl (fun ls hl => ?_)
              refine lv_goto (tgt := 11) hx hb dX4_wordOf_97 rfl ?_
              exact hK2 _ _ _ _ (ih v3 t15 (0 : Int32) t16 hf) _ _ _ h (lv_sub hl [4, 5, 6, 7, 1, 2, 0] rfl)
            · replace hf := ifn c14 hf
              refine lv_aload_n hx hb dX4_wordOf_48 rfl (lv_at hl 1 rfl) ?_
              refine lv_iload_n hx hb dX4_wordOf_49 rfl (lv_at hl 2 rfl) ?_
              refine lv_iload hx hb dX4_wordOf_50 (lv_at hl 5 rfl) ?_
              refine lv_iadd hx hb dX4_wordOf_52 ?_
              replace hf := chkI_inv hf
              obtain ⟨hi17, hf⟩ := hf
              refine r_iald C h 0 rfl hi17 dX4_wordOf_53 ?_
              refine lv_iload hx hb dX4_wordOf_54 (lv_at hl 0 rfl) ?_
              refine lv_icmp_ne (tgt := 63) hx hb dX4_wordOf_56 rfl (fun c18 => ?_) (fun c18 => ?_)
              · replace hf := ifn c18 hf
                refine lv_iconst (v := (0 : Int32)) hx hb dX4_wordOf_63 rfl ?_
                refine lv_istore (lv' := [(5, .int (0 : Int32)), (7, .int t3), (0, .ref h_a0), (1, .int p1), (2, .int p2), (3, .int v3), (4, .int v4), (6, .int v6)]) hx hb dX4_wordOf_64 hl (by decide) rfl (fun ls hl => ?_)
                obtain ⟨t19, et19⟩ : ∃ y : Int32, y = v4 + (1 : Int32) := ⟨_, rfl⟩
                replace hf := lt1_inv et19 hf
                refine lv_iinc (v := t19) (lv' := [(4, .int t19), (5, .int (0 : Int32)), (7, .int t3), (0, .ref h_a0), (1, .int p1), (2, .int p2), (3, .int v3), (6, .int v6)]) hx hb dX4_wordOf_66 hl (k := 6) rfl (by rw [et19]; rfl) (by decide) rfl (fun ls hl => ?_)
                refine lv_goto (tgt := 94) hx hb dX4_wordOf_69 rfl ?_
                obtain ⟨t20, et20⟩ : ∃ y : Int32, y = v6 + (1 : Int32) := ⟨_, rfl⟩
                replace hf := lt1_inv et20 hf
                refine lv_iinc (v := t20) (lv' := [(6, .int t20), (4, .int t19), (5, .int (0 : Int32)), (7, .int t3), (0, .ref h_a0), (1, .int p1), (2, .int p2), (3, .int v3)]) hx hb dX4_wordOf_94 hl (k := 7) rfl (by rw [et20]; rfl) (by decide) rfl (fun ls hl => ?_)
                refine lv_goto (tgt := 11) hx hb dX4_wordOf_97 rfl ?_
                exact hK2 _ _ _ _ (ih v3 t19 (0 : Int32) t20 hf) _ _ _ h (lv_sub hl [4, 5, 6, 7, 1, 2, 0] rfl)
              · replace hf := ifp c18 hf
                refine lv_iconst (v := (1 : Int32)) hx hb dX4_wordOf_59 rfl ?_
                refine lv_goto (tgt := 64) hx hb dX4_wordOf_60 rfl ?_
                refine lv_istore (lv' := [(5, .int (1 : Int32)), (7, .int t3), (0, .ref h_a0), (1, .int p1), (2, .int p2), (3, .int v3), (4, .int v4), (6, .int v6)]) hx hb dX4_wordOf_64 hl (by decide) rfl (fun ls hl => ?_)
                obtain ⟨t21, et21⟩ : ∃ y : Int32, y = v4 + (1 : Int32) := ⟨_, rfl⟩
                replace hf := lt1_inv et21 hf
                refine lv_iinc (v := t21) (lv' := [(4, .int t21), (5, .int (1 : Int32)), (7, .int t3), (0, .ref h_a0), (1, .int p1), (2, .int p2), (3, .int v3), (6, .int v6)]) hx hb dX4_wordOf_66 hl (k := 6) rfl (by rw [et21]; rfl) (by decide) rfl (fun ls hl => ?_)
                refine lv_goto (tgt := 94) hx hb dX4_wordOf_69 rfl ?_
                obtain ⟨t22, et22⟩ : ∃ y : Int32, y = v6 + (1 : Int32) := ⟨_, rfl⟩
                replace hf := lt1_inv et22 hf
                refine lv_iinc (v := t22) (lv' := [(6, .int t22), (4, .int t21), (5, .int (1 : Int32)), (7, .int t3), (0, .ref h_a0), (1, .int p1), (2, .int p2), (3, .int v3)]) hx hb dX4_wordOf_94 hl (k := 7) rfl (by rw [et22]; rfl) (by decide) rfl (fun ls hl => ?_)
                refine lv_goto (tgt := 11) hx hb dX4_wordOf_97 rfl ?_
                exact hK2 _ _ _ _ (ih v3 t21 (1 : Int32) t22 hf) _ _ _ h (lv_sub hl [4, 5, 6, 7, 1, 2, 0] rfl)
  refine lv_iconst (v := (0 : Int32)) hx hb dX4_wordOf_0 rfl ?_
  refine lv_istore_n (lv' := [(3, .int (0 : Int32)), (0, .ref h_a0), (1, .int p1), (2, .int p2)]) hx hb dX4_wordOf_1 rfl hl (by decide) rfl (fun ls hl => ?_)
  refine lv_iconst (v := (0 : Int32)) hx hb dX4_wordOf_2 rfl ?_
  refine lv_istore (lv' := [(4, .int (0 : Int32)), (3, .int (0 : Int32)), (0, .ref h_a0), (1, .int p1), (2, .int p2)]) hx hb dX4_wordOf_3 hl (by decide) rfl (fun ls hl => ?_)
  refine lv_iconst (v := (1 : Int32)) hx hb dX4_wordOf_5 rfl ?_
  refine lv_istore (lv' := [(5, .int (1 : Int32)), (4, .int (0 : Int32)), (3, .int (0 : Int32)), (0, .ref h_a0), (1, .int p1), (2, .int p2)]) hx hb dX4_wordOf_6 hl (by decide) rfl (fun ls hl => ?_)
  refine lv_iconst (v := (0 : Int32)) hx hb dX4_wordOf_8 rfl ?_
  refine lv_istore (lv' := [(6, .int (0 : Int32)), (5, .int (1 : Int32)), (4, .int (0 : Int32)), (3, .int (0 : Int32)), (0, .ref h_a0), (1, .int p1), (2, .int p2)]) hx hb dX4_wordOf_9 hl (by decide) rfl (fun ls hl => ?_)
  exact hK2 _ _ _ _ (L11 1000 (0 : Int32) (0 : Int32) (1 : Int32) (0 : Int32) hf) _ _ _ h (lv_sub hl [4, 5, 6, 3, 2, 1, 0] rfl)
set_option maxRecDepth 100000 in
set_option maxHeartbeats 4000000 in
theorem c_X4_isDigit {l : Launch} {G : Gt} {p0 : Int32} {r : Int32} (hf : f_X4_isDigit p0 = some r) : mFi l G yX4_isDigit cX4_isDigit 1 .boolean 0 [.int p0] ([] : va_W) r ([] : va_W) := by
  refine mFi.of (by decide +kernel) (Nat.le_of_ble_eq_true rfl) ?_
  intro p e s m below meth c A C hr hlk h ls hl
  obtain ⟨hx, hb, hml, hown, hts⟩ := id C
  replace hl : lv_has ls 1 [(0, .int p0)] := hl
  unfold f_X4_isDigit at hf
  refine lv_iload_n hx hb dX4_isDigit_0 rfl (lv_at hl 0 rfl) ?_
  refine lv_bipush (v := (48 : Int32)) hx hb dX4_isDigit_1 rfl ?_
  refine lv_icmp_lt (tgt := 16) hx hb dX4_isDigit_3 rfl (fun c1 => ?_) (fun c1 => ?_)
  · replace hf := ifp c1 hf
    refine lv_iconst (v := (0 : Int32)) hx hb dX4_isDigit_16 rfl ?_
    cases hf
    exact r_iret C h hr hlk rfl dX4_isDigit_17
  · replace hf := ifn c1 hf
    refine lv_iload_n hx hb dX4_isDigit_6 rfl (lv_at hl 0 rfl) ?_
    refine lv_bipush (v := (57 : Int32)) hx hb dX4_isDigit_7 rfl ?_
    refine lv_icmp_gt (tgt := 16) hx hb dX4_isDigit_9 rfl (fun c2 => ?_) (fun c2 => ?_)
    · replace hf := ifp c2 hf
      refine lv_iconst (v := (0 : Int32)) hx hb dX4_isDigit_16 rfl ?_
      cases hf
      exact r_iret C h hr hlk rfl dX4_isDigit_17
    · replace hf := ifn c2 hf
      refine lv_iconst (v := (1 : Int32)) hx hb dX4_isDigit_12 rfl ?_
      refine lv_goto (tgt := 17) hx hb dX4_isDigit_13 rfl ?_
      cases hf
      exact r_iret C h hr hlk rfl dX4_isDigit_17
set_option maxRecDepth 100000 in
set_option maxHeartbeats 4000000 in
theorem c_X4_advanceDigits {l : Launch} {G : Gt} {h_a0 h_this h_this_waiting : Nat} {p1 : Int32} {n_a0 : Nat} {f_a0 : Nat → Int32} {x_this_waitingCount : Int32} {x_this_open : Int32} {x_this_expected : Int32} {x_this_kind : Int32} {x_this_left : Int32} {x_this_sign : Int32} {x_this_token : Int32} {x_this_tokenAt : Int32} {x_this_numeral : Int32} {x_this_place : Int32} {m_this_token : Int32} {m_this_numeral : Int32} {m_this_place : Int32} (hf : f_X4_advanceDigits p1 n_a0 f_a0 x_this_tokenAt x_this_place = some (m_this_token, m_this_numeral, m_this_place)) : mFv l G yX4_advanceDigits cX4_advanceDigits 3 1 [.ref h_this, .ref h_a0, .int p1] [(h_a0, ia G n_a0 f_a0), (h_this, ob 4 [.ref h_this_waiting, .int x_this_waitingCount, .int x_this_open, .int x_this_expected, .int x_this_kind, .int x_this_left, .int x_this_sign, .int x_this_token, .int x_this_tokenAt, .int x_this_numeral, .int x_this_place])] [(h_a0, ia G n_a0 f_a0), (h_this, ob 4 [.ref h_this_waiting, .int x_this_waitingCount, .int x_this_open, .int x_this_expected, .int x_this_kind, .int x_this_left, .int x_this_sign, .int m_this_token, .int x_this_tokenAt, .int m_this_numeral, .int m_this_place])] := by
  refine mFv.of (by decide +kernel) (Nat.le_of_ble_eq_true rfl) ?_
  intro p e s m below meth c A C hr hlk h ls hl
  obtain ⟨hx, hb, hml, hown, hts⟩ := id C
  replace hl : lv_has ls 3 [(0, .ref h_this), (1, .ref h_a0), (2, .int p1)] := hl
  unfold f_X4_advanceDigits at hf
  refine with_K G A 3 (fun K hK1 hK2 => ?_)
  have B59 : ∀ (y_this_numeral : Int32) (y_this_place : Int32), f_X4_advanceDigits_b59 x_this_tokenAt y_this_numeral y_this_place = some (m_this_token, m_this_numeral, m_this_place) → K 59 ([] : List Value) [(h_a0, ia G n_a0 f_a0), (h_this, ob 4 [.ref h_this_waiting, .int x_this_waitingCount, .int x_this_open, .int x_this_expected, .int x_this_kind, .int x_this_left, .int x_this_sign, .int x_this_token, .int x_this_tokenAt, .int y_this_numeral, .int y_this_place])] [(0, .ref h_this)] := by
    intro y_this_numeral y_this_place hf
    unfold f_X4_advanceDigits_b59 at hf
    refine hK1 _ _ _ _ (fun H locs ls h hl => ?_)
    refine lv_aload_n hx hb dX4_advanceDigits_59 rfl (lv_at hl 0 rfl) ?_
    refine lv_aload_n hx hb dX4_advanceDigits_60 rfl (lv_at hl 0 rfl) ?_
    refine r_get C h fk_X4_43 1 rfl rfl dX4_advanceDigits_61 ?_
    refine lv_aload_n hx hb dX4_advanceDigits_64 rfl (lv_at hl 0 rfl) ?_
    refine r_get C h fk_X4_37 1 rfl rfl dX4_advanceDigits_65 ?_
    refine lv_isub hx hb dX4_advanceDigits_68 ?_
    refine lv_iconst (v := (4 : Int32)) hx hb dX4_advanceDigits_69 rfl ?_
    refine lv_icmp_gt (tgt := 78) hx hb dX4_advanceDigits_70 rfl (fun c2 => ?_) (fun c2 => ?_)
    · replace hf := ifp c2 hf
      refine lv_bipush (v := (20 : Int32)) hx hb dX4_advanceDigits_78 rfl ?_
      refine r_put (ws' := [(h_a0, ia G n_a0 f_a0), (h_this, ob 4 [.ref h_this_waiting, .int x_this_waitingCount, .int x_this_open, .int x_this_expected, .int x_this_kind, .int x_this_left, .int x_this_sign, .int (20 : Int32), .int x_this_tokenAt, .int y_this_numeral, .int y_this_place])]) C h fw_X4_34 1 rfl rfl rfl (Nat.le_of_ble_eq_true rfl) dX4_advanceDigits_80 rfl (fun H locs h => ?_)
      cases hf
      exact r_vret C h hr hlk dX4_advanceDigits_83
    · replace hf := ifn c2 hf
      refine lv_bipush (v := (18 : Int32)) hx hb dX4_advanceDigits_73 rfl ?_
      refine lv_goto (tgt := 80) hx hb dX4_advanceDigits_75 rfl ?_
      refine r_put (ws' := [(h_a0, ia G n_a0 f_a0), (h_this, ob 4 [.ref h_this_waiting, .int x_this_waitingCount, .int x_this_open, .int x_this_expected, .int x_this_kind, .int x_this_left, .int x_this_sign, .int (18 : Int32), .int x_this_tokenAt, .int y_this_numeral, .int y_this_place])]) C h fw_X4_34 1 rfl rfl rfl (Nat.le_of_ble_eq_true rfl) dX4_advanceDigits_80 rfl (fun H locs h => ?_)
      cases hf
      exact r_vret C h hr hlk dX4_advanceDigits_83
  have L5 : ∀ (n : Nat) (y_this_numeral : Int32) (y_this_place : Int32), f_X4_advanceDigits_L5 p1 n_a0 f_a0 x_this_tokenAt n y_this_numeral y_this_place = some (m_this_token, m_this_numeral, m_this_place) → K 5 ([] : List Value) [(h_a0, ia G n_a0 f_a0), (h_this, ob 4 [.ref h_this_waiting, .int x_this_waitingCount, .int x_this_open, .int x_this_expected, .int x_this_kind, .int x_this_left, .int x_this_sign, .int x_this_token, .int x_this_tokenAt, .int y_this_numeral, .int y_this_place])] [(0, .ref h_this), (1, .ref h_a0), (2, .int p1)] := by
    intro n
    induction n with
    | zero =>
      intro y_this_numeral y_this_place hf
      replace hf : (none : Option _) = some _ := hf
      cases hf
    | succ n ih =>
      intro y_this_numeral y_this_place hf
      rw [f_X4_advanceDigits_L5] at hf
      refine hK1 _ _ _ _ (fun H locs ls h hl => ?_)
      refine lv_aload_n hx hb dX4_advanceDigits_5 rfl (lv_at hl 0 rfl) ?_
      refine r_get C h fk_X4_43 1 rfl rfl dX4_advanceDigits_6 ?_
      refine lv_iload_n hx hb dX4_advanceDigits_9 rfl (lv_at hl 2 rfl) ?_
      refine lv_icmp_ge (tgt := 59) hx hb dX4_advanceDigits_10 rfl (fun c1 => ?_) (fun c1 => ?_)
      · replace hf := ifp c1 hf
        exact hK2 _ _ _ _ (B59 y_this_numeral y_this_place hf) _ _ _ h (lv_sub hl [0] rfl)
      · replace hf := ifn c1 hf
        refine lv_aload_n hx hb dX4_advanceDigits_13 rfl (lv_at hl 1 rfl) ?_
        refine lv_aload_n hx hb dX4_advanceDigits_14 rfl (lv_at hl 0 rfl) ?_
        refine r_get C h fk_X4_43 1 rfl rfl dX4_advanceDigits_15 ?_
        replace hf := chkI_inv hf
        obtain ⟨hi3, hf⟩ := hf
        refine r_iald C h 0 rfl hi3 dX4_advanceDigits_18 ?_
        replace hf := bd1_inv hf
        obtain ⟨r4, hc5, hf⟩ := hf
        refine r_ciS0 C h (c_X4_isDigit hc5) ms_X4_67 rfl [] rfl rfl hl.1 rfl (Nat.le_of_ble_eq_true rfl) (rok (by decide)) dX4_advanceDigits_19 (fun H locs h => ?_)
        refine lv_if_eq (tgt := 59) hx hb dX4_advanceDigits_22 rfl (fun c6 => ?_) (fun c6 => ?_)
        · replace hf := ifp c6 hf
          exact hK2 _ _ _ _ (B59 y_this_numeral y_this_place hf) _ _ _ h (lv_sub hl [0] rfl)
        · replace hf := ifn c6 hf
          refine lv_aload_n hx hb dX4_advanceDigits_25 rfl (lv_at hl 0 rfl) ?_
          refine lv_aload_n hx hb dX4_advanceDigits_26 rfl (lv_at hl 0 rfl) ?_
          refine r_get C h fk_X4_40 1 rfl rfl dX4_advanceDigits_27 ?_
          refine lv_bipush (v := (10 : Int32)) hx hb dX4_advanceDigits_30 rfl ?_
          refine lv_imul hx hb dX4_advanceDigits_32 ?_
          refine lv_aload_n hx hb dX4_advanceDigits_33 rfl (lv_at hl 1 rfl) ?_
          refine lv_aload_n hx hb dX4_advanceDigits_34 rfl (lv_at hl 0 rfl) ?_
          refine r_get C h fk_X4_43 1 rfl rfl dX4_advanceDigits_35 ?_
          replace hf := chkI_inv hf
          obtain ⟨hi7, hf⟩ := hf
          refine r_iald C h 0 rfl hi7 dX4_advanceDigits_38 ?_
          refine lv_iadd hx hb dX4_advanceDigits_39 ?_
          refine lv_bipush (v := (48 : Int32)) hx hb dX4_advanceDigits_40 rfl ?_
          refine lv_isub hx hb dX4_advanceDigits_42 ?_
          refine lv_topi (fun t8 et8 => ?_)
          replace hf := lt1_inv et8 hf
          refine r_put (ws' := [(h_a0, ia G n_a0 f_a0), (h_this, ob 4 [.ref h_this_waiting, .int x_this_waitingCount, .int x_this_open, .int x_this_expected, .int x_this_kind, .int x_this_left, .int x_this_sign, .int x_this_token, .int x_this_tokenAt, .int t8, .int y_this_place])]) C h fw_X4_40 1 rfl rfl rfl (Nat.le_of_ble_eq_true rfl) dX4_advanceDigits_43 rfl (fun H locs h => ?_)
          refine lv_aload_n hx hb dX4_advanceDigits_46 rfl (lv_at hl 0 rfl) ?_
          refine lv_dup hx hb dX4_advanceDigits_47 rfl ?_
          refine r_get C h fk_X4_43 1 rfl rfl dX4_advanceDigits_48 ?_
          refine lv_iconst (v := (1 : Int32)) hx hb dX4_advanceDigits_51 rfl ?_
          refine lv_iadd hx hb dX4_advanceDigits_52 ?_
          refine lv_topi (fun t9 et9 => ?_)
          replace hf := lt1_inv et9 hf
          refine r_put (ws' := [(h_a0, ia G n_a0 f_a0), (h_this, ob 4 [.ref h_this_waiting, .int x_this_waitingCount, .int x_this_open, .int x_this_expected, .int x_this_kind, .int x_this_left, .int x_this_sign, .int x_this_token, .int x_this_tokenAt, .int t8, .int t9])]) C h fw_X4_43 1 rfl rfl rfl (Nat.le_of_ble_eq_true rfl) dX4_advanceDigits_53 rfl (fun H locs h => ?_)
          refine lv_goto (tgt := 5) hx hb dX4_advanceDigits_56 rfl ?_
          exact hK2 _ _ _ _ (ih t8 t9 hf) _ _ _ h (lv_sub hl [0, 1, 2] rfl)
  refine lv_aload_n hx hb dX4_advanceDigits_0 rfl (lv_at hl 0 rfl) ?_
  refine lv_iconst (v := (0 : Int32)) hx hb dX4_advanceDigits_1 rfl ?_
  refine r_put (ws' := [(h_a0, ia G n_a0 f_a0), (h_this, ob 4 [.ref h_this_waiting, .int x_this_waitingCount, .int x_this_open, .int x_this_expected, .int x_this_kind, .int x_this_left, .int x_this_sign, .int x_this_token, .int x_this_tokenAt, .int (0 : Int32), .int x_this_place])]) C h fw_X4_40 1 rfl rfl rfl (Nat.le_of_ble_eq_true rfl) dX4_advanceDigits_2 rfl (fun H locs h => ?_)
  exact hK2 _ _ _ _ (L5 1000 (0 : Int32) x_this_place hf) _ _ _ h (lv_sub hl [0, 1, 2] rfl)
set_option maxRecDepth 100000 in
set_option maxHeartbeats 4000000 in
theorem c_X4_advance {l : Launch} {G : Gt} {h_a0 h_this h_this_waiting : Nat} {p1 : Int32} {n_a0 : Nat} {f_a0 : Nat → Int32} {x_this_waitingCount : Int32} {x_this_open : Int32} {x_this_expected : Int32} {x_this_kind : Int32} {x_this_left : Int32} {x_this_sign : Int32} {x_this_token : Int32} {x_this_tokenAt : Int32} {x_this_numeral : Int32} {x_this_place : Int32} {m_this_token : Int32} {m_this_tokenAt : Int32} {m_this_numeral : Int32} {m_this_place : Int32} (hf : f_X4_advance p1 n_a0 f_a0 x_this_numeral x_this_place = some (m_this_token, m_this_tokenAt, m_this_numeral, m_this_place)) : mFv l G yX4_advance cX4_advance 3 10 [.ref h_this, .ref h_a0, .int p1] [(h_a0, ia G n_a0 f_a0), (h_this, ob 4 [.ref h_this_waiting, .int x_this_waitingCount, .int x_this_open, .int x_this_expected, .int x_this_kind, .int x_this_left, .int x_this_sign, .int x_this_token, .int x_this_tokenAt, .int x_this_numeral, .int x_this_place])] [(h_a0, ia G n_a0 f_a0), (h_this, ob 4 [.ref h_this_waiting, .int x_this_waitingCount, .int x_this_open, .int x_this_expected, .int x_this_kind, .int x_this_left, .int x_this_sign, .int m_this_token, .int m_this_tokenAt, .int m_this_numeral, .int m_this_place])] := by
  refine mFv.of (by decide +kernel) (Nat.le_of_ble_eq_true rfl) ?_
  intro p e s m below meth c A C hr hlk h ls hl
  obtain ⟨hx, hb, hml, hown, hts⟩ := id C
  replace hl : lv_has ls 3 [(0, .ref h_this), (1, .ref h_a0), (2, .int p1)] := hl
  unfold f_X4_advance at hf
  refine with_K G A 3 (fun K hK1 hK2 => ?_)
  have B102 : ∀ (y_this_tokenAt : Int32) (y_this_place : Int32), f_X4_advance_b102 n_a0 f_a0 x_this_numeral y_this_tokenAt y_this_place = some (m_this_token, m_this_tokenAt, m_this_numeral, m_this_place) → K 102 ([] : List Value) [(h_a0, ia G n_a0 f_a0), (h_this, ob 4 [.ref h_this_waiting, .int x_this_waitingCount, .int x_this_open, .int x_this_expected, .int x_this_kind, .int x_this_left, .int x_this_sign, .int x_this_token, .int y_this_tokenAt, .int x_this_numeral, .int y_this_place])] [(0, .ref h_this), (1, .ref h_a0)] := by
    intro y_this_tokenAt y_this_place hf
    unfold f_X4_advance_b102 at hf
    refine hK1 _ _ _ _ (fun H locs ls h hl => ?_)
    refine lv_aload_n hx hb dX4_advance_102 rfl (lv_at hl 0 rfl) ?_
    refine lv_aload_n hx hb dX4_advance_103 rfl (lv_at hl 1 rfl) ?_
    refine lv_aload_n hx hb dX4_advance_104 rfl (lv_at hl 0 rfl) ?_
    refine r_get C h fk_X4_37 1 rfl rfl dX4_advance_105 ?_
    refine lv_aload_n hx hb dX4_advance_108 rfl (lv_at hl 0 rfl) ?_
    refine r_get C h fk_X4_43 1 rfl rfl dX4_advance_109 ?_
    refine lv_aload_n hx hb dX4_advance_112 rfl (lv_at hl 0 rfl) ?_
    refine r_get C h fk_X4_37 1 rfl rfl dX4_advance_113 ?_
    refine lv_isub hx hb dX4_advance_116 ?_
    replace hf := bd1_inv hf
    obtain ⟨r19, hc20, hf⟩ := hf
    refine r_ciS0 C h (c_X4_wordOf hc20) ms_X4_63 rfl [0] rfl rfl hl.1 rfl (Nat.le_of_ble_eq_true rfl) (rok (by decide)) dX4_advance_117 (fun H locs h => ?_)
    refine r_put (ws' := [(h_a0, ia G n_a0 f_a0), (h_this, ob 4 [.ref h_this_waiting, .int x_this_waitingCount, .int x_this_open, .int x_this_expected, .int x_this_kind, .int x_this_left, .int x_this_sign, .int r19, .int y_this_tokenAt, .int x_this_numeral, .int y_this_place])]) C h fw_X4_34 1 rfl rfl rfl (Nat.le_of_ble_eq_true rfl) dX4_advance_120 rfl (fun H locs h => ?_)
    refine lv_goto (tgt := 171) hx hb dX4_advance_123 rfl ?_
    cases hf
    exact r_vret C h hr hlk dX4_advance_171
  have L69 : ∀ (n : Nat) (y_this_tokenAt : Int32) (y_this_place : Int32), f_X4_advance_L69 p1 n_a0 f_a0 x_this_numeral n y_this_tokenAt y_this_place = some (m_this_token, m_this_tokenAt, m_this_numeral, m_this_place) → K 69 ([] : List Value) [(h_a0, ia G n_a0 f_a0), (h_this, ob 4 [.ref h_this_waiting, .int x_this_waitingCount, .int x_this_open, .int x_this_expected, .int x_this_kind, .int x_this_left, .int x_this_sign, .int x_this_token, .int y_this_tokenAt, .int x_this_numeral, .int y_this_place])] [(0, .ref h_this), (1, .ref h_a0), (2, .int p1)] := by
    intro n
    induction n with
    | zero =>
      intro y_this_tokenAt y_this_place hf
      replace hf : (none : Option _) = some _ := hf
      cases hf
    | succ n ih =>
      intro y_this_tokenAt y_this_place hf
      rw [f_X4_advance_L69] at hf
      refine hK1 _ _ _ _ (fun H locs ls h hl => ?_)
      refine lv_aload_n hx hb dX4_advance_69 rfl (lv_at hl 0 rfl) ?_
      refine r_get C h fk_X4_43 1 rfl rfl dX4_advance_70 ?_
      refine lv_iload_n hx hb dX4_advance_73 rfl (lv_at hl 2 rfl) ?_
      refine lv_icmp_ge (tgt := 102) hx hb dX4_advance_74 rfl (fun c18 => ?_) (fun c18 => ?_)
      · replace hf := ifp c18 hf
        exact hK2 _ _ _ _ (B102 y_this_tokenAt y_this_place hf) _ _ _ h (lv_sub hl [0, 1] rfl)
      · replace hf := ifn c18 hf
        refine lv_aload_n hx hb dX4_advance_77 rfl (lv_at hl 1 rfl) ?_
        refine lv_aload_n hx hb dX4_advance_78 rfl (lv_at hl 0 rfl) ?_
        refine r_get C h fk_X4_43 1 rfl rfl dX4_advance_79 ?_
        replace hf := chkI_inv hf
        obtain ⟨hi21, hf⟩ := hf
        refine r_iald C h 0 rfl hi21 dX4_advance_82 ?_
        replace hf := bd1_inv hf
        obtain ⟨r22, hc23, hf⟩ := hf
        refine r_ciS0 C h (c_X4_isLetter hc23) ms_X4_59 rfl [] rfl rfl hl.1 rfl (Nat.le_of_ble_eq_true rfl) (rok (by decide)) dX4_advance_83 (fun H locs h => ?_)
        refine lv_if_eq (tgt := 102) hx hb dX4_advance_86 rfl (fun c24 => ?_) (fun c24 => ?_)
        · replace hf := ifp c24 hf
          exact hK2 _ _ _ _ (B102 y_this_tokenAt y_this_place hf) _ _ _ h (lv_sub hl [0, 1] rfl)
        · replace hf := ifn c24 hf
          refine lv_aload_n hx hb dX4_advance_89 rfl (lv_at hl 0 rfl) ?_
          refine lv_dup hx hb dX4_advance_90 rfl ?_
          refine r_get C h fk_X4_43 1 rfl rfl dX4_advance_91 ?_
          refine lv_iconst (v := (1 : Int32)) hx hb dX4_advance_94 rfl ?_
          refine lv_iadd hx hb dX4_advance_95 ?_
          refine lv_topi (fun t25 et25 => ?_)
          replace hf := lt1_inv et25 hf
          refine r_put (ws' := [(h_a0, ia G n_a0 f_a0), (h_this, ob 4 [.ref h_this_waiting, .int x_this_waitingCount, .int x_this_open, .int x_this_expected, .int x_this_kind, .int x_this_left, .int x_this_sign, .int x_this_token, .int y_this_tokenAt, .int x_this_numeral, .int t25])]) C h fw_X4_43 1 rfl rfl rfl (Nat.le_of_ble_eq_true rfl) dX4_advance_96 rfl (fun H locs h => ?_)
          refine lv_goto (tgt := 69) hx hb dX4_advance_99 rfl ?_
          exact hK2 _ _ _ _ (ih y_this_tokenAt t25 hf) _ _ _ h (lv_sub hl [0, 1, 2] rfl)
  have B32 : ∀ (y_this_place : Int32), f_X4_advance_b32 p1 n_a0 f_a0 x_this_numeral y_this_place = some (m_this_token, m_this_tokenAt, m_this_numeral, m_this_place) → K 32 ([] : List Value) [(h_a0, ia G n_a0 f_a0), (h_this, ob 4 [.ref h_this_waiting, .int x_this_waitingCount, .int x_this_open, .int x_this_expected, .int x_this_kind, .int x_this_left, .int x_this_sign, .int x_this_token, .int x_this_tokenAt, .int x_this_numeral, .int y_this_place])] [(0, .ref h_this), (1, .ref h_a0), (2, .int p1)] := by
    intro y_this_place hf
    unfold f_X4_advance_b32 at hf
    refine hK1 _ _ _ _ (fun H locs ls h hl => ?_)
    refine lv_aload_n hx hb dX4_advance_32 rfl (lv_at hl 0 rfl) ?_
    refine lv_aload_n hx hb dX4_advance_33 rfl (lv_at hl 0 rfl) ?_
    refine r_get C h fk_X4_43 1 rfl rfl dX4_advance_34 ?_
    refine r_put (ws' := [(h_a0, ia G n_a0 f_a0), (h_this, ob 4 [.ref h_this_waiting, .int x_this_waitingCount, .int x_this_open, .int x_this_expected, .int x_this_kind, .int x_this_left, .int x_this_sign, .int x_this_token, .int y_this_place, .int x_this_numeral, .int y_this_place])]) C h fw_X4_37 1 rfl rfl rfl (Nat.le_of_ble_eq_true rfl) dX4_advance_37 rfl (fun H locs h => ?_)
    refine lv_aload_n hx hb dX4_advance_40 rfl (lv_at hl 0 rfl) ?_
    refine r_get C h fk_X4_43 1 rfl rfl dX4_advance_41 ?_
    refine lv_iload_n hx hb dX4_advance_44 rfl (lv_at hl 2 rfl) ?_
    refine lv_icmp_lt (tgt := 57) hx hb dX4_advance_45 rfl (fun c2 => ?_) (fun c2 => ?_)
    · replace hf := ifp c2 hf
      refine lv_aload_n hx hb dX4_advance_57 rfl (lv_at hl 1 rfl) ?_
      refine lv_aload_n hx hb dX4_advance_58 rfl (lv_at hl 0 rfl) ?_
      refine r_get C h fk_X4_43 1 rfl rfl dX4_advance_59 ?_
      replace hf := chkI_inv hf
      obtain ⟨hi3, hf⟩ := hf
      refine r_iald C h 0 rfl hi3 dX4_advance_62 ?_
      replace hf := bd1_inv hf
      obtain ⟨r4, hc5, hf⟩ := hf
      refine r_ciS0 C h (c_X4_isLetter hc5) ms_X4_59 rfl [] rfl rfl hl.1 rfl (Nat.le_of_ble_eq_true rfl) (rok (by decide)) dX4_advance_63 (fun H locs h => ?_)
      refine lv_if_eq (tgt := 126) hx hb dX4_advance_66 rfl (fun c6 => ?_) (fun c6 => ?_)
      · replace hf := ifp c6 hf
        refine lv_aload_n hx hb dX4_advance_126 rfl (lv_at hl 1 rfl) ?_
        refine lv_aload_n hx hb dX4_advance_127 rfl (lv_at hl 0 rfl) ?_
        refine r_get C h fk_X4_43 1 rfl rfl dX4_advance_128 ?_
        replace hf := chkI_inv hf
        obtain ⟨hi7, hf⟩ := hf
        refine r_iald C h 0 rfl hi7 dX4_advance_131 ?_
        replace hf := bd1_inv hf
        obtain ⟨r8, hc9, hf⟩ := hf
        refine r_ciS0 C h (c_X4_isDigit hc9) ms_X4_67 rfl [] rfl rfl hl.1 rfl (Nat.le_of_ble_eq_true rfl) (rok (by decide)) dX4_advance_132 (fun H locs h => ?_)
        refine lv_if_eq (tgt := 147) hx hb dX4_advance_135 rfl (fun c10 => ?_) (fun c10 => ?_)
        · replace hf := ifp c10 hf
          refine lv_aload_n hx hb dX4_advance_147 rfl (lv_at hl 0 rfl) ?_
          refine lv_sipush (v := (256 : Int32)) hx hb dX4_advance_148 rfl ?_
          refine lv_aload_n hx hb dX4_advance_151 rfl (lv_at hl 1 rfl) ?_
          refine lv_aload_n hx hb dX4_advance_152 rfl (lv_at hl 0 rfl) ?_
          refine r_get C h fk_X4_43 1 rfl rfl dX4_advance_153 ?_
          replace hf := chkI_inv hf
          obtain ⟨hi11, hf⟩ := hf
          refine r_iald C h 0 rfl hi11 dX4_advance_156 ?_
          refine lv_iadd hx hb dX4_advance_157 ?_
          refine lv_topi (fun t12 et12 => ?_)
          replace hf := lt1_inv et12 hf
          refine r_put (ws' := [(h_a0, ia G n_a0 f_a0), (h_this, ob 4 [.ref h_this_waiting, .int x_this_waitingCount, .int x_this_open, .int x_this_expected, .int x_this_kind, .int x_this_left, .int x_this_sign, .int t12, .int y_this_place, .int x_this_numeral, .int y_this_place])]) C h fw_X4_34 1 rfl rfl rfl (Nat.le_of_ble_eq_true rfl) dX4_advance_158 rfl (fun H locs h => ?_)
          refine lv_aload_n hx hb dX4_advance_161 rfl (lv_at hl 0 rfl) ?_
          refine lv_dup hx hb dX4_advance_162 rfl ?_
          refine r_get C h fk_X4_43 1 rfl rfl dX4_advance_163 ?_
          refine lv_iconst (v := (1 : Int32)) hx hb dX4_advance_166 rfl ?_
          refine lv_iadd hx hb dX4_advance_167 ?_
          refine lv_topi (fun t13 et13 => ?_)
          replace hf := lt1_inv et13 hf
          refine r_put (ws' := [(h_a0, ia G n_a0 f_a0), (h_this, ob 4 [.ref h_this_waiting, .int x_this_waitingCount, .int x_this_open, .int x_this_expected, .int x_this_kind, .int x_this_left, .int x_this_sign, .int t12, .int y_this_place, .int x_this_numeral, .int t13])]) C h fw_X4_43 1 rfl rfl rfl (Nat.le_of_ble_eq_true rfl) dX4_advance_168 rfl (fun H locs h => ?_)
          cases hf
          exact r_vret C h hr hlk dX4_advance_171
        · replace hf := ifn c10 hf
          refine lv_aload_n hx hb dX4_advance_138 rfl (lv_at hl 0 rfl) ?_
          refine lv_aload_n hx hb dX4_advance_139 rfl (lv_at hl 1 rfl) ?_
          refine lv_iload_n hx hb dX4_advance_140 rfl (lv_at hl 2 rfl) ?_
          replace hf := bd3_inv hf
          obtain ⟨y14, y15, y16, hc17, hf⟩ := hf
          refine r_cvV (ws' := [(h_a0, ia G n_a0 f_a0), (h_this, ob 4 [.ref h_this_waiting, .int x_this_waitingCount, .int x_this_open, .int x_this_expected, .int x_this_kind, .int x_this_left, .int x_this_sign, .int y14, .int y_this_place, .int y15, .int y16])]) C h (c_X4_advanceDigits hc17) mv_X4_70 rfl 1 rfl [0, 1] rfl rfl [1] [(h_this, ob 4 [.ref h_this_waiting, .int x_this_waitingCount, .int x_this_open, .int x_this_expected, .int x_this_kind, .int x_this_left, .int x_this_sign, .int y14, .int y_this_place, .int y15, .int y16])] rfl rfl (by decide +kernel) rfl hl.1 rfl (Nat.le_of_ble_eq_true rfl) (rok (by decide)) dX4_advance_141 (fun H locs h => ?_)
          refine lv_goto (tgt := 171) hx hb dX4_advance_144 rfl ?_
          cases hf
          exact r_vret C h hr hlk dX4_advance_171
      · replace hf := ifn c6 hf
        exact hK2 _ _ _ _ (L69 1000 y_this_place y_this_place hf) _ _ _ h (lv_sub hl [0, 1, 2] rfl)
    · replace hf := ifn c2 hf
      refine lv_aload_n hx hb dX4_advance_48 rfl (lv_at hl 0 rfl) ?_
      refine lv_bipush (v := (19 : Int32)) hx hb dX4_advance_49 rfl ?_
      refine r_put (ws' := [(h_a0, ia G n_a0 f_a0), (h_this, ob 4 [.ref h_this_waiting, .int x_this_waitingCount, .int x_this_open, .int x_this_expected, .int x_this_kind, .int x_this_left, .int x_this_sign, .int (19 : Int32), .int y_this_place, .int x_this_numeral, .int y_this_place])]) C h fw_X4_34 1 rfl rfl rfl (Nat.le_of_ble_eq_true rfl) dX4_advance_51 rfl (fun H locs h => ?_)
      refine lv_goto (tgt := 171) hx hb dX4_advance_54 rfl ?_
      cases hf
      exact r_vret C h hr hlk dX4_advance_171
  have L0 : ∀ (n : Nat) (y_this_place : Int32), f_X4_advance_L0 p1 n_a0 f_a0 x_this_numeral n y_this_place = some (m_this_token, m_this_tokenAt, m_this_numeral, m_this_place) → K 0 ([] : List Value) [(h_a0, ia G n_a0 f_a0), (h_this, ob 4 [.ref h_this_waiting, .int x_this_waitingCount, .int x_this_open, .int x_this_expected, .int x_this_kind, .int x_this_left, .int x_this_sign, .int x_this_token, .int x_this_tokenAt, .int x_this_numeral, .int y_this_place])] [(0, .ref h_this), (1, .ref h_a0), (2, .int p1)] := by
    intro n
    induction n with
    | zero =>
      intro y_this_place hf
      replace hf : (none : Option _) = some _ := hf
      cases hf
    | succ n ih =>
      intro y_this_place hf
      rw [f_X4_advance_L0] at hf
      refine hK1 _ _ _ _ (fun H locs ls h hl => ?_)
      refine lv_aload_n hx hb dX4_advance_0 rfl (lv_at hl 0 rfl) ?_
      refine r_get C h fk_X4_43 1 rfl rfl dX4_advance_1 ?_
      refine lv_iload_n hx hb dX4_advance_4 rfl (lv_at hl 2 rfl) ?_
      refine lv_icmp_ge (tgt := 32) hx hb dX4_advance_5 rfl (fun c1 => ?_) (fun c1 => ?_)
      · replace hf := ifp c1 hf
        exact hK2 _ _ _ _ (B32 y_this_place hf) _ _ _ h (lv_sub hl [0, 1, 2] rfl)
      · replace hf := ifn c1 hf
        refine lv_aload_n hx hb dX4_advance_8 rfl (lv_at hl 1 rfl) ?_
        refine lv_aload_n hx hb dX4_advance_9 rfl (lv_at hl 0 rfl) ?_
        refine r_get C h fk_X4_43 1 rfl rfl dX4_advance_10 ?_
        replace hf := chkI_inv hf
        obtain ⟨hi26, hf⟩ := hf
        refine r_iald C h 0 rfl hi26 dX4_advance_13 ?_
        refine lv_bipush (v := (32 : Int32)) hx hb dX4_advance_14 rfl ?_
        refine lv_icmp_ne (tgt := 32) hx hb dX4_advance_16 rfl (fun c27 => ?_) (fun c27 => ?_)
        · replace hf := ifn c27 hf
          exact hK2 _ _ _ _ (B32 y_this_place hf) _ _ _ h (lv_sub hl [0, 1, 2] rfl)
        · replace hf := ifp c27 hf
          refine lv_aload_n hx hb dX4_advance_19 rfl (lv_at hl 0 rfl) ?_
          refine lv_dup hx hb dX4_advance_20 rfl ?_
          refine r_get C h fk_X4_43 1 rfl rfl dX4_advance_21 ?_
          refine lv_iconst (v := (1 : Int32)) hx hb dX4_advance_24 rfl ?_
          refine lv_iadd hx hb dX4_advance_25 ?_
          refine lv_topi (fun t28 et28 => ?_)
          replace hf := lt1_inv et28 hf
          refine r_put (ws' := [(h_a0, ia G n_a0 f_a0), (h_this, ob 4 [.ref h_this_waiting, .int x_this_waitingCount, .int x_this_open, .int x_this_expected, .int x_this_kind, .int x_this_left, .int x_this_sign, .int x_this_token, .int x_this_tokenAt, .int x_this_numeral, .int t28])]) C h fw_X4_43 1 rfl rfl rfl (Nat.le_of_ble_eq_true rfl) dX4_advance_26 rfl (fun H locs h => ?_)
          refine lv_goto (tgt := 0) hx hb dX4_advance_29 rfl ?_
          exact hK2 _ _ _ _ (ih t28 hf) _ _ _ h (lv_sub hl [0, 1, 2] rfl)
  exact hK2 _ _ _ _ (L0 1000 x_this_place hf) _ _ _ h (lv_sub hl [0, 1, 2] rfl)
