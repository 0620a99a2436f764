/-! ===== E: the class's rock, reach ===== -/
section EC
variable {a : Nat → Nat} {cnt wa ho : Int32} {kd tr ln li cu bu of : Nat → Int32}
theorem near_le (hB : BA a) {k : Nat} (hk : k < 6) : near a k ≤ 21 := by
  have b1 := hB.2.2.2.1 k hk
  have b2 := hB.2.2.2.2.2.1 (a (38 + 5 * k)) (by omega)
  have b7 := @nearA_le (a (35 + 5 * k)) (lightN a) (a 0) (lightW_le hB _)
  unfold near
  omega
theorem reach_le (hB : BA a) {k t : Nat} (hk : k < 6) (ht : t ≤ 9) : reach a k t ≤ 69 := by
  have b1 := hB.2.2.2.1 k hk
  have b2 := hB.2.2.2.2.2.1 (a (38 + 5 * k)) (by omega)
  have b7 := @reachA_le (a (35 + 5 * k)) t (lightN a) (lightW_le hB _) ht
  unfold reach
  omega
theorem e8_reaches (hB : BA a) (hE : CE cnt kd tr ln li cu bu a) (hw : wa = nI (a 0)) {k t : Nat} (hk : k < 6) (ht : t ≤ 9) :
    f_X3_reaches (nI k) (nI t) wa bu kd ln li = some (nI (reach a k t)) := by
  obtain ⟨rfl, h1, h2, h3⟩ := hE
  subst hw
  have b1 := hB.2.2.2.1 k hk
  have b6 := lightW_le hB (a 0)
  have b4 := hB.2.1
  have b5 := hB.2.2.1
  unfold f_X3_reaches reach lightN
  rw [qcI (by omega) (by omega), e8_lightAt h2 (by omega), qb1, q_cl (by omega), (h1 k hk).1, e8_reachesAlone (by omega) b6 ht, qb1, qcI (by omega) (by omega), (h1 k hk).2.2, qcI (by omega) (by omega), q_cl (by omega), (h3 _ (by omega)).2, q_add]
theorem e8_inReach (hB : BA a) (hE : CE cnt kd tr ln li cu bu a) (hS : CS wa ho of a) {k t : Nat} (hk : k < 6) (ht : t ≤ 9) :
    f_X3_inReach (nI k) (nI t) wa ho of bu kd ln li = some (if inR a k t then 1 else 0) := by
  have hr := e8_reaches hB hE hS.1 hk ht
  obtain ⟨rfl, h1, h2, h3⟩ := hE
  obtain ⟨rfl, rfl, h4⟩ := hS
  have b1 := hB.2.2.2.1 k hk
  have b6 := lightW_le hB (a 0)
  have b4 := hB.2.1
  have b5 := hB.2.2.1
  have b8 := reach_le hB hk ht
  unfold f_X3_reaches at hr
  rw [qcI (by omega) (by omega), e8_lightAt h2 (by omega), qb1, q_cl (by omega), (h1 k hk).1, e8_reachesAlone (by omega) b6 ht, qb1, qcI (by omega) (by omega), (h1 k hk).2.2, qcI (by omega) (by omega), q_cl (by omega)] at hr
  have hr := Option.some.inj hr
  unfold f_X3_inReach inR
  rw [e8_isHome hB hk, qb1]
  simp (disch := omega) only [ql0, q_eq]
  by_cases c1 : a (39 + 5 * k) = 0
  · rw [if_pos c1, qcI (by omega) (by omega), q_cl (by omega), h4 k hk]
    simp (disch := omega) only [ql0, q_eq]
    by_cases c2 : a (36 + 5 * k) = 0
    · rw [if_pos c2, if_neg (by omega)]
    · rw [if_neg c2, qcI (by omega) (by omega), qcI (by omega) (by omega), e8_lightAt h2 (by omega), qb1, (h1 k hk).1, e8_reachesAlone (by omega) b6 ht, qb1, qcI (by omega) (by omega), (h1 k hk).2.2, qcI (by omega) (by omega), q_cl (by omega), hr]
      simp (disch := omega) only [q_lt]
      by_cases c3 : reach a k t < a (36 + 5 * k)
      · rw [if_pos c3, if_neg (by omega)]
      · rw [if_neg c3, if_pos (by omega)]
  · rw [if_neg c1, if_neg (fun z => c1 z.1)]
theorem e8_pays (hB : BA a) (hE : CE cnt kd tr ln li cu bu a) (hS : CS wa ho of a) {k : Nat} (hk : k < 6) :
    f_X3_pays (nI k) wa ho of bu kd ln li tr = some (nI (pay a k)) := by
  have b1 := hB.2.2.2.1 k hk
  have hr := e8_inReach hB hE hS hk b1.2.2.1
  unfold f_X3_pays pay
  rw [qcI (by omega) (by omega), q_cl (by omega), (hE.2.1 k hk).2.1, hr, qb1, qcI (by omega) (by omega), ql6, q_add]
  split <;> rename_i c
  · rw [if_neg (by decide)]
  · rw [if_pos rfl]; rfl
end EC
