/-! ===== E: the reference's rock ===== -/
section EM
variable {a : Nat → Nat} {s : Nat → Int32}
theorem e9_get (hR : RM s a) {k f : Nat} (hk : k < 6) (hf : f < 5) : f_X9_get (nI k) (nI f) s = some (nI (a (35 + 5 * k + f))) := by
  unfold f_X9_get
  rw [ql35, ql5, q_mul, q_add, q_add, qcI (by omega) (by omega), q_cl (by omega), hR _ (by omega) (by omega) (by omega)]
theorem e9_kind (hR : RM s a) {k : Nat} (hk : k < 6) : f_X9_get (nI k) 0 s = some (nI (a (35 + 5 * k))) := e9_get hR (f := 0) hk (by decide)
theorem e9_off (hR : RM s a) {k : Nat} (hk : k < 6) : f_X9_get (nI k) 1 s = some (nI (a (36 + 5 * k))) := by rw [show 36 + 5 * k = 35 + 5 * k + 1 by omega]; exact e9_get hR (f := 1) hk (by decide)
theorem e9_trim (hR : RM s a) {k : Nat} (hk : k < 6) : f_X9_get (nI k) 2 s = some (nI (a (37 + 5 * k))) := by rw [show 37 + 5 * k = 35 + 5 * k + 2 by omega]; exact e9_get hR (f := 2) hk (by decide)
theorem e9_lane (hR : RM s a) {k : Nat} (hk : k < 6) : f_X9_get (nI k) 3 s = some (nI (a (38 + 5 * k))) := by rw [show 38 + 5 * k = 35 + 5 * k + 3 by omega]; exact e9_get hR (f := 3) hk (by decide)
theorem e9_home (hR : RM s a) {k : Nat} (hk : k < 6) : f_X9_get (nI k) 4 s = some (nI (a (39 + 5 * k))) := by rw [show 39 + 5 * k = 35 + 5 * k + 4 by omega]; exact e9_get hR (f := 4) hk (by decide)
theorem e9_light (hB : BA a) (hR : RM s a) : f_X9_lightNow s = some (nI (lightN a)) := by
  have b4 := hB.2.1
  have b5 := hB.2.2.1
  unfold f_X9_lightNow lightN lightW
  rw [hR 0 (by decide) (by decide) (by decide), ql16, ql7, q_add]
  simp (disch := omega) only [q_le]
  by_cases c : a 0 < 16
  · rw [if_neg (by omega), if_pos c, qcI (by omega) (by omega), q_cl (by omega), hR _ (by omega) (by omega) (by omega)]
  · rw [if_pos (by omega), if_neg c]; rfl
theorem e9_nearsBy {kd li w : Nat} (hk : kd < 2 ^ 30) (hl : li ≤ 15) (hw : w < 2 ^ 30) : f_X9_nearsBy (nI kd) (nI li / 4) (nI li - nI li / 4 * 4) (nI w) = some (nI (nearA kd li w)) := by
  unfold f_X9_nearsBy nearA
  have h3 : (li / 4) * (li % 4) ≤ 3 * 3 := Nat.mul_le_mul (by omega) (by omega)
  rw [ql4, q_rem (by omega) (by omega) (by omega)]
  simp (disch := omega) only [ql0, ql1, ql2, ql3, ql5, q_rem]
  simp (disch := omega) only [q_div, q_eq, q_mul, q_add]
  repeat' split
  all_goals first | rfl | (exfalso; omega)
theorem e9_reachesBy {kd li t : Nat} (hk : kd < 2 ^ 30) (hl : li ≤ 15) (ht : t ≤ 9) : f_X9_reachesBy (nI kd) (nI t) (nI li / 4) = some (nI (reachA kd t li)) := by
  unfold f_X9_reachesBy reachA
  simp (disch := omega) only [qt1, ql1, ql2, ql3, ql4, ql5, ql10, ql20, q_div, q_eq, q_mul, q_add]
  by_cases c : 3 * (li / 4) ≤ 10 + 2 * t + 5
  · simp (disch := omega) only [ql0, q_sub, q_le]
    repeat' split
    all_goals first | rfl | (exfalso; omega) | (congr 2; omega)
  · exfalso; omega
theorem e9_nearsL (hB : BA a) (hR : RM s a) {p : Nat} (hp : p < 6) : ∀ (d fuel j b m : Nat), j + d = a 4 → d < fuel → b < 1000 → m + d < 1000 →
    f_X9_nearsOf_L45 (nI p) s fuel (nI b - nI m) (nI j) = some (nI (b - m - oth a p d j)) := by
  have h4 := hB.1
  intro d
  induction d with
  | zero =>
    intro fuel j b m hj hf hb1 hm
    obtain ⟨n, rfl⟩ : ∃ n, fuel = n + 1 := ⟨fuel - 1, by omega⟩
    rw [f_X9_nearsOf_L45, hR 4 (by decide) (by decide) (by decide), if_pos (nI_le (by omega) (by omega)), q_max0' (by omega) (by omega)]
    rfl
  | succ d ih =>
    intro fuel j b m hj hf hb1 hm
    obtain ⟨n, rfl⟩ : ∃ n, fuel = n + 1 := ⟨fuel - 1, by omega⟩
    have hL := (hB.2.2.2.1 j (by omega)).2.2.2.1
    have hLp := (hB.2.2.2.1 p hp).2.2.2.1
    have hh := (hB.2.2.2.1 j (by omega)).2.2.2.2
    have e1 : nI b - nI m - 1 = nI b - nI (m + 1) := by
      rw [nI_succ]; grind
    have e0 : nI b - nI m - 0 = nI b - nI m := Int32.sub_zero _
    rw [f_X9_nearsOf_L45, hR 4 (by decide) (by decide) (by decide), if_neg (nI_ge (by omega) (by omega))]
    simp (disch := omega) only [qt1, e9_home hR, e9_lane hR, qb1, e0, e1]
    simp (disch := omega) only [q_eq, ql1, q_add, ql0]
    unfold oth
    by_cases c1 : j = p
    · rw [if_pos c1, ih _ _ _ _ (by omega) (by omega) hb1 (by omega), if_neg (fun z => z.1 c1)]
      congr 2; omega
    · rw [if_neg c1]
      by_cases c3 : a (39 + 5 * j) = 0
      · rw [if_pos c3]
        by_cases c2 : a (38 + 5 * j) = a (38 + 5 * p)
        · rw [if_pos c2, ih _ _ _ _ (by omega) (by omega) hb1 (by omega), if_pos ⟨c1, c2, c3⟩]
          congr 2; omega
        · rw [if_neg c2, ih _ _ _ _ (by omega) (by omega) hb1 (by omega), if_neg (fun z => c2 z.2.1)]
          congr 2; omega
      · rw [if_neg c3, ih _ _ _ _ (by omega) (by omega) hb1 (by omega), if_neg (fun z => c3 z.2.2)]
        congr 2; omega
theorem e9_nears (hB : BA a) (hR : RM s a) {k : Nat} (hk : k < 6) : f_X9_nearsOf (nI k) s = some (nI (near a k)) := by
  have b1 := hB.2.2.2.1 k hk
  have b2 := hB.2.2.2.2.2.1 (a (38 + 5 * k)) (by omega)
  have b3 := hB.1
  have b4 := hB.2.1
  have b5 := hB.2.2.1
  have b6 : lightN a ≤ 15 := lightW_le hB (a 0)
  have b7 := @nearA_le (a (35 + 5 * k)) (lightN a) (a 0) b6
  unfold f_X9_nearsOf near
  rw [e9_kind hR hk, qb1, e9_light hB hR, qb1, qb1, hR 0 (by decide) (by decide) (by decide), e9_nearsBy (by omega) b6 (by omega), qb1, e9_lane hR hk, qb1, ql23, q_add, qcI (by omega) (by omega), q_cl (by omega), hR _ (by omega) (by omega) (by omega), q_add, qt1]
  have := e9_nearsL hB hR hk (a 4) 1000 0 (nearA (a (35 + 5 * k)) (lightN a) (a 0) + a (23 + a (38 + 5 * k))) 0 (by omega) (by omega) (by omega) (by omega)
  rw [show nI 0 = (0 : Int32) from rfl, Int32.sub_zero, Nat.sub_zero] at this
  exact this
theorem e9_reaches (hB : BA a) (hR : RM s a) {k t : Nat} (hk : k < 6) (ht : t ≤ 9) : f_X9_reachesWith (nI k) (nI t) s = some (nI (reach a k t)) := by
  have b1 := hB.2.2.2.1 k hk
  have b6 : lightN a ≤ 15 := lightW_le hB (a 0)
  unfold f_X9_reachesWith reach
  rw [e9_kind hR hk, qb1, e9_light hB hR, qb1, e9_reachesBy (by omega) b6 ht, qb1, e9_lane hR hk, qb1, ql29, q_add, qcI (by omega) (by omega), q_cl (by omega), hR _ (by omega) (by omega) (by omega), q_add]
theorem e9_inReach (hB : BA a) (hR : RM s a) {k t : Nat} (hk : k < 6) (ht : t ≤ 9) : f_X9_isReachedWith (nI k) (nI t) s = some (if inR a k t then 1 else 0) := by
  have b1 := hB.2.2.2.1 k hk
  have b8 := reach_le hB hk ht
  unfold f_X9_isReachedWith inR
  simp (disch := omega) only [e9_home hR, e9_off hR, e9_reaches hB hR, qb1]
  simp (disch := omega) only [ql0, q_eq, q_le, q_lt]
  repeat' split
  all_goals first | rfl | (exfalso; omega)
theorem e9_pays (hB : BA a) (hR : RM s a) {k : Nat} (hk : k < 6) : f_X9_paysOf (nI k) s = some (nI (pay a k)) := by
  have b1 := hB.2.2.2.1 k hk
  unfold f_X9_paysOf pay
  rw [e9_trim hR hk, qb1, e9_inReach hB hR hk b1.2.2.1, qb1, qb1, ql6, q_add]
  split <;> rename_i c
  · rw [if_neg (by decide)]
  · rw [if_pos rfl]; rfl
end EM
