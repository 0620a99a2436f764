/-! ===== E: the class's rock ===== -/
theorem lightW_le {a : Nat → Nat} (hB : BA a) (w : Nat) : lightW a w ≤ 15 := by
  unfold lightW
  split
  · exact hB.2.2.2.2.1 w (by assumption)
  · exact Nat.zero_le _
theorem nearA_le {kd li w : Nat} (h : li ≤ 15) : nearA kd li w ≤ 12 := by
  unfold nearA
  have h1 : li / 4 ≤ 3 := by omega
  have h2 : li % 4 ≤ 3 := by omega
  have h3 : (li / 4) * (li % 4) ≤ 3 * 3 := Nat.mul_le_mul h1 h2
  repeat' split
  all_goals omega
theorem reachA_le {kd tr li : Nat} (h : li ≤ 15) (ht : tr ≤ 9) : reachA kd tr li ≤ 60 := by
  unfold reachA
  repeat' split
  all_goals omega
theorem oth_le (a : Nat → Nat) (k : Nat) : ∀ d j, oth a k d j ≤ d := by
  intro d
  induction d with
  | zero => intro j; exact Nat.le_refl 0
  | succ d ih =>
    intro j
    have := ih (j + 1)
    unfold oth
    split <;> omega
theorem e8_lightAt {a : Nat → Nat} {li : Nat → Int32} (hl : ∀ w, w < 16 → li w = nI (a (7 + w))) {w : Nat} (hw : w < 2 ^ 31) : f_X3_lightAt (nI w) li = some (nI (lightW a w)) := by
  unfold f_X3_lightAt lightW
  rw [if_neg (nI_pos hw)]
  by_cases h : w < 16
  · simp (disch := omega) only [ql16, q_le, qcI, q_cl, hl, h, if_true]
    rw [if_neg (by omega)]
  · simp (disch := omega) only [ql16, ql0, q_le, h, if_false]
    rw [if_pos (by omega)]
theorem e8_nearsAlone {kd li w : Nat} (hk : kd < 2 ^ 30) (hl : li ≤ 15) (hw : w < 2 ^ 30) : f_X8_nearsAlone (nI kd) (nI li) (nI w) = some (nI (nearA kd li w)) := by
  unfold f_X8_nearsAlone nearA
  have h3 : (li / 4) * (li % 4) ≤ 3 * 3 := Nat.mul_le_mul (by omega) (by omega)
  simp (disch := omega) only [qt1, ql0, ql1, ql2, ql3, ql4, ql5, ql31, q_shr, q_and3, q_eq, q_rem, q_mul, q_add]
  repeat' split
  all_goals first | rfl | (exfalso; omega)
theorem e8_reachesAlone {kd tr li : Nat} (hk : kd < 2 ^ 30) (hl : li ≤ 15) (ht : tr ≤ 9) : f_X8_reachesAlone (nI kd) (nI tr) (nI li) = some (nI (reachA kd tr li)) := by
  unfold f_X8_reachesAlone reachA
  simp (disch := omega) only [qt1, ql1, ql2, ql3, ql4, ql5, ql10, ql20, ql31, q_shr, q_eq, q_mul, q_add, q_div]
  rw [ql0, q_max0 (by omega) (by omega)]
  repeat' split
  all_goals first | rfl | (exfalso; omega)
theorem hb_bit {a : Nat → Nat} (hB : BA a) {k : Nat} (hk : k < 6) : hb a / 2 ^ k % 2 = a (39 + 5 * k) := by
  have h0 := (hB.2.2.2.1 0 (by decide)).2.2.2.2
  have h1 := (hB.2.2.2.1 1 (by decide)).2.2.2.2
  have h2 := (hB.2.2.2.1 2 (by decide)).2.2.2.2
  have h3 := (hB.2.2.2.1 3 (by decide)).2.2.2.2
  have h4 := (hB.2.2.2.1 4 (by decide)).2.2.2.2
  have h5 := (hB.2.2.2.1 5 (by decide)).2.2.2.2
  unfold hb
  rcases (by omega : k = 0 ∨ k = 1 ∨ k = 2 ∨ k = 3 ∨ k = 4 ∨ k = 5) with rfl | rfl | rfl | rfl | rfl | rfl <;> simp only [Nat.reducePow, Nat.reduceMul, Nat.reduceAdd] at * <;> omega
theorem hb_lt {a : Nat → Nat} (hB : BA a) : hb a < 64 := by
  have h0 := (hB.2.2.2.1 0 (by decide)).2.2.2.2
  have h1 := (hB.2.2.2.1 1 (by decide)).2.2.2.2
  have h2 := (hB.2.2.2.1 2 (by decide)).2.2.2.2
  have h3 := (hB.2.2.2.1 3 (by decide)).2.2.2.2
  have h4 := (hB.2.2.2.1 4 (by decide)).2.2.2.2
  have h5 := (hB.2.2.2.1 5 (by decide)).2.2.2.2
  unfold hb
  simp only [Nat.reduceMul, Nat.reduceAdd] at *
  omega
theorem e8_isHome {a : Nat → Nat} (hB : BA a) {k : Nat} (hk : k < 6) : f_X6_isHome (nI k) (nI (hb a)) = some (nI (a (39 + 5 * k))) := by
  have h1 := hb_lt hB
  have h2 := (hB.2.2.2.1 k hk).2.2.2.2
  have h3 : hb a / 2 ^ k ≤ hb a := Nat.div_le_self _ _
  unfold f_X6_isHome
  simp (disch := omega) only [ql0, ql1, ql31, q_shr, q_and1, q_eq, hb_bit hB hk]
  split <;> congr 2 <;> omega
theorem e8_nearsL {a : Nat → Nat} {ln : Nat → Int32} (hB : BA a) (hl : ∀ k, k < 6 → ln k = nI (a (38 + 5 * k))) {p : Nat} (hp : p < 6) : ∀ (d fuel j b m : Nat), j + d = a 4 → d < fuel → b < 1000 → m + d < 1000 →
    f_X3_nears_L37 (nI p) (nI (hb a)) (nI (a 4)) ln fuel (nI b - nI m) (nI j) = some (nI (b - m - oth a p d j)) := by
  have h4 := hB.1
  intro d
  induction d with
  | zero =>
    intro fuel j b m hj hf hb1 hm
    obtain ⟨n, rfl⟩ : ∃ n, fuel = n + 1 := ⟨fuel - 1, by omega⟩
    rw [f_X3_nears_L37]
    rw [if_pos (nI_le (by omega) (by omega)), ql0, q_max0 (by omega) (by omega)]
    rfl
  | succ d ih =>
    intro fuel j b m hj hf hb1 hm
    obtain ⟨n, rfl⟩ : ∃ n, fuel = n + 1 := ⟨fuel - 1, by omega⟩
    have hL := (hB.2.2.2.1 j (by omega)).2.2.2.1
    have hLp := (hB.2.2.2.1 p hp).2.2.2.1
    have hh := (hB.2.2.2.1 j (by omega)).2.2.2.2
    have e1 : nI b - nI m + -nI 1 = nI b - nI (m + 1) := by
      rw [nI_succ m, ← ql1]; grind
    rw [f_X3_nears_L37]
    simp (disch := omega) only [qt1, q_le, q_eq, ql1, q_add, qcI, q_cl, hl, e8_isHome hB, qb1, ql0]
    rw [if_neg (by omega)]
    unfold oth
    by_cases c1 : j = p
    · rw [if_pos c1, ih _ _ _ _ (by omega) (by omega) hb1 (by omega), if_neg (fun z => z.1 c1)]
      congr 2; omega
    · rw [if_neg c1]
      by_cases c2 : a (38 + 5 * j) = a (38 + 5 * p)
      · rw [if_pos c2]
        by_cases c3 : a (39 + 5 * j) = 0
        · rw [if_pos c3, e1, ih _ _ _ _ (by omega) (by omega) hb1 (by omega), if_pos ⟨c1, c2, c3⟩]
          congr 2; omega
        · rw [if_neg c3, ih _ _ _ _ (by omega) (by omega) hb1 (by omega), if_neg (fun z => c3 z.2.2)]
          congr 2; omega
      · rw [if_neg c2, ih _ _ _ _ (by omega) (by omega) hb1 (by omega), if_neg (fun z => c2 z.2.1)]
        congr 2; omega
theorem e8_nears {a : Nat → Nat} {cnt wa ho : Int32} {kd tr ln li cu bu of : Nat → Int32} (hB : BA a) (hE : CE cnt kd tr ln li cu bu a) (hS : CS wa ho of a) {k : Nat} (hk : k < 6) :
    f_X3_nears (nI k) wa ho cnt cu kd ln li = some (nI (near a k)) := by
  obtain ⟨rfl, h1, h2, h3⟩ := hE
  obtain ⟨rfl, rfl, h4⟩ := hS
  have b1 := hB.2.2.2.1 k hk
  have b2 := hB.2.2.2.2.2.1 (a (38 + 5 * k)) (by omega)
  have b3 := hB.1
  have b4 := hB.2.1
  have b5 := hB.2.2.1
  have b6 := lightW_le hB (a 0)
  have b7 := @nearA_le (a (35 + 5 * k)) (lightW a (a 0)) (a 0) b6
  unfold f_X3_nears near lightN
  rw [qcI (by omega) (by omega), e8_lightAt h2 (by omega), qb1, q_cl (by omega), (h1 k hk).1, e8_nearsAlone (by omega) b6 (by omega), qb1, qcI (by omega) (by omega), (h1 k hk).2.2, qcI (by omega) (by omega), q_cl (by omega), (h3 _ (by omega)).1, q_add, qt1]
  have := e8_nearsL hB (fun k hk => (h1 k hk).2.2) hk (a 4) 1000 0 (nearA (a (35 + 5 * k)) (lightW a (a 0)) (a 0) + a (23 + a (38 + 5 * k))) 0 (by omega) (by omega) (by omega) (by omega)
  rw [show nI 0 = (0 : Int32) from rfl, Int32.sub_zero, Nat.sub_zero] at this
  exact this
