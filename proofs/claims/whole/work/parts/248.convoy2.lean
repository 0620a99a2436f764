/-! ===== E: convoys, both sides ===== -/
theorem q_bit {S j : Nat} (hS : S < 2 ^ 31) (hj : j < 32) : ((nI S >>> (nI j &&& 31)) &&& 1 = 1) ↔ S / 2 ^ j % 2 = 1 := by
  rw [ql31, q_shr hS hj, ql1, q_and1 (by have := Nat.div_le_self S (2 ^ j); omega), q_eq (by omega) (by decide)]
theorem q_or0 (x : Int32) : x ||| 0 = x := Int32.or_zero
theorem q_least : ∀ k, k < 6 → ∀ T, T < 64 → T / 2 ^ k % 2 = 1 → (f_X8_leastOfSet (nI T)).isSome ∧ (f_X8_leastOfSet (nI T) = some (nI k) ↔ T % 2 ^ k = 0) := by decide +kernel
section ED
variable {a : Nat → Nat} {kd tr ln li cu bu of s : Nat → Int32} {cnt wa ho : Int32}
theorem e8_cvJ (hB : BA a) (hE : CE cnt kd tr ln li cu bu a) (hS : CS wa ho of a) {i : Nat} (hi : i < 6) (rec17 : Int32 → Int32 → Int32 → Option Int32) (v : Int32) : ∀ (d fuel j S : Nat), j + d = a 4 → d < fuel → S < 2 ^ a 4 → f_X3_convoyOf_L29 rec17 cnt ln ho of fuel (nI S) v (nI i) (nI j) = rec17 (nI (swJ a i d j S)) v (nI (i + 1)) := by
  have h4 := hB.1
  have hp := p_le h4
  intro d
  induction d with
  | zero =>
    intro fuel j S hj hf hS2
    obtain ⟨n, rfl⟩ : ∃ n, fuel = n + 1 := ⟨fuel - 1, by omega⟩
    rw [f_X3_convoyOf_L29, hE.1, if_pos (nI_le (by omega) (by omega)), qt1, show (1 : Int32) = nI 1 from rfl, q_add]
    rfl
  | succ d ih =>
    intro fuel j S hj hf hS2
    obtain ⟨n, rfl⟩ : ∃ n, fuel = n + 1 := ⟨fuel - 1, by omega⟩
    rw [f_X3_convoyOf_L29, hE.1, if_neg (nI_ge (by omega) (by omega)), ← hE.1, swJ, show nI j + 1 = nI (j + 1) from q_add j 1]
    by_cases c : S / 2 ^ i % 2 = 1
    · rw [if_pos ((q_bit (by omega) (by omega)).mpr c), e8_areClose hB hE hS hi (by omega), qb1]
      by_cases c2 : clA a i j
      · rw [if_pos c2, if_neg n10, (orB_q j (by omega) S (by omega)).1, qt1, qt1, if_pos ⟨c, c2⟩]
        exact ih n (j + 1) _ (by omega) (by omega) (orB_n _ (by omega) j (by omega) S hS2)
      · rw [if_neg c2, if_pos rfl, qt1, if_neg (fun h => c2 h.2)]
        exact ih n (j + 1) _ (by omega) (by omega) hS2
    · rw [if_neg (fun h => c ((q_bit (by omega) (by omega)).mp h)), qt1, if_neg (fun h => c h.1)]
      exact ih n (j + 1) _ (by omega) (by omega) hS2
theorem e8_cvI (hB : BA a) (hE : CE cnt kd tr ln li cu bu a) (hS : CS wa ho of a) (rec6 : Int32 → Int32 → Option Int32) (v : Int32) : ∀ (d fuel i S : Nat), i + d = a 4 → d < fuel → S < 2 ^ a 4 → f_X3_convoyOf_L17 rec6 cnt ln ho of fuel (nI S) v (nI i) = rec6 (nI (swI a (a 4) d i S)) (v + 1) := by
  have h4 := hB.1
  intro d
  induction d with
  | zero =>
    intro fuel i S hj hf hS2
    obtain ⟨n, rfl⟩ : ∃ n, fuel = n + 1 := ⟨fuel - 1, by omega⟩
    rw [f_X3_convoyOf_L17, hE.1, if_pos (nI_le (by omega) (by omega)), qt1]
    rfl
  | succ d ih =>
    intro fuel i S hj hf hS2
    obtain ⟨n, rfl⟩ : ∃ n, fuel = n + 1 := ⟨fuel - 1, by omega⟩
    rw [f_X3_convoyOf_L17, hE.1, if_neg (nI_ge (by omega) (by omega)), ← hE.1, swI, show (0 : Int32) = nI 0 from rfl, e8_cvJ hB hE hS (by omega) _ v (a 4) 1000 0 S (by omega) (by omega) hS2]
    exact ih n (i + 1) _ (by omega) (by omega) (swJ_K h4 (a 4) 0 S (by omega) hS2).1
theorem e8_cvR (hB : BA a) (hE : CE cnt kd tr ln li cu bu a) (hS : CS wa ho of a) : ∀ (d fuel r S : Nat), r + d = a 4 → d < fuel → S < 2 ^ a 4 → f_X3_convoyOf_L6 cnt ln ho of fuel (nI S) (nI r) = some (nI (swR a (a 4) d S)) := by
  have h4 := hB.1
  intro d
  induction d with
  | zero =>
    intro fuel i S hj hf hS2
    obtain ⟨n, rfl⟩ : ∃ n, fuel = n + 1 := ⟨fuel - 1, by omega⟩
    rw [f_X3_convoyOf_L6, hE.1, if_pos (nI_le (by omega) (by omega))]
    rfl
  | succ d ih =>
    intro fuel i S hj hf hS2
    obtain ⟨n, rfl⟩ : ∃ n, fuel = n + 1 := ⟨fuel - 1, by omega⟩
    rw [f_X3_convoyOf_L6, hE.1, if_neg (nI_ge (by omega) (by omega)), ← hE.1, swR, show (0 : Int32) = nI 0 from rfl, e8_cvI hB hE hS _ _ (a 4) 1000 0 S (by omega) (by omega) hS2, show nI i + 1 = nI (i + 1) from q_add i 1]
    exact ih n (i + 1) _ (by omega) (by omega) (swI_K h4 (a 4) 0 S (by omega) hS2).1
def cvT (a : Nat → Nat) (k : Nat) : Nat := swR a (a 4) (a 4) (2 ^ k)
theorem cvT_K (hB : BA a) {k : Nat} (hk : k < a 4) : cvT a k < 64 ∧ cvT a k / 2 ^ k % 2 = 1 := by
  have h4 := hB.1
  have := swR_K (a := a) h4 (a 4) (2 ^ k) (pc_low _ (by omega) k hk)
  have hp := p_le h4
  exact ⟨by have := this.1; unfold cvT; omega, this.2.2 k (by omega) (pc_one k (by omega)).2.2.1⟩
theorem e8_convoyOf (hB : BA a) (hE : CE cnt kd tr ln li cu bu a) (hS : CS wa ho of a) {k : Nat} (hk : k < a 4) : f_X3_convoyOf (nI k) cnt ln ho of = some (nI (cvT a k)) := by
  have h4 := hB.1
  unfold f_X3_convoyOf
  obtain ⟨n, hn⟩ : ∃ n, a 4 = n + 1 := ⟨a 4 - 1, by omega⟩
  rw [(pc_one k (by omega)).2.2.2, qt1, show (1 : Int32) = nI 1 from rfl, e8_cvR hB hE hS n 1000 1 _ (by omega) (by omega) (pc_low _ (by omega) k hk)]
  unfold cvT
  have e := swR_1 (a := a) h4 n (2 ^ k) (pc_low _ (by omega) k hk) (by rw [(pc_one k (by omega)).1]; omega)
  rw [← hn] at e
  rw [e]
theorem e9_cvJ (hB : BA a) (hR : RM s a) {i : Nat} (hi : i < 6) (rec17 : Int32 → Int32 → Int32 → Option Int32) (v : Int32) : ∀ (d fuel j S : Nat), j + d = a 4 → d < fuel → S < 2 ^ a 4 → f_X9_convoyOf_L33 rec17 s fuel (nI S) v (nI i) (nI j) = rec17 (nI (swJ a i d j S)) v (nI (i + 1)) := by
  have h4 := hB.1
  have hp := p_le h4
  have e4 := hR 4 (by decide) (by decide) (by decide)
  intro d
  induction d with
  | zero =>
    intro fuel j S hj hf hS2
    obtain ⟨n, rfl⟩ : ∃ n, fuel = n + 1 := ⟨fuel - 1, by omega⟩
    rw [f_X9_convoyOf_L33, e4, if_pos (nI_le (by omega) (by omega)), qt1, show (1 : Int32) = nI 1 from rfl, q_add]
    rfl
  | succ d ih =>
    intro fuel j S hj hf hS2
    obtain ⟨n, rfl⟩ : ∃ n, fuel = n + 1 := ⟨fuel - 1, by omega⟩
    rw [f_X9_convoyOf_L33, e4, if_neg (nI_ge (by omega) (by omega)), swJ, show nI j + 1 = nI (j + 1) from q_add j 1, q_or0]
    by_cases c : S / 2 ^ i % 2 = 1
    · rw [if_pos ((q_bit (by omega) (by omega)).mpr c), e9_areClose hB hR hi (by omega), qb1]
      by_cases c2 : clA a i j
      · rw [if_pos c2, if_neg n10, (orB_q j (by omega) S (by omega)).1, qt1, qt1, if_pos ⟨c, c2⟩]
        exact ih n (j + 1) _ (by omega) (by omega) (orB_n _ (by omega) j (by omega) S hS2)
      · rw [if_neg c2, if_pos rfl, qt1, qt1, if_neg (fun h => c2 h.2)]
        exact ih n (j + 1) _ (by omega) (by omega) hS2
    · rw [if_neg (fun h => c ((q_bit (by omega) (by omega)).mp h)), qt1, qt1, if_neg (fun h => c h.1)]
      exact ih n (j + 1) _ (by omega) (by omega) hS2
theorem e9_cvI (hB : BA a) (hR : RM s a) (rec6 : Int32 → Int32 → Option Int32) (v : Int32) : ∀ (d fuel i S : Nat), i + d = a 4 → d < fuel → S < 2 ^ a 4 → f_X9_convoyOf_L19 rec6 s fuel (nI S) v (nI i) = rec6 (nI (swI a (a 4) d i S)) (v + 1) := by
  have h4 := hB.1
  have e4 := hR 4 (by decide) (by decide) (by decide)
  intro d
  induction d with
  | zero =>
    intro fuel i S hj hf hS2
    obtain ⟨n, rfl⟩ : ∃ n, fuel = n + 1 := ⟨fuel - 1, by omega⟩
    rw [f_X9_convoyOf_L19, e4, if_pos (nI_le (by omega) (by omega)), qt1]
    rfl
  | succ d ih =>
    intro fuel i S hj hf hS2
    obtain ⟨n, rfl⟩ : ∃ n, fuel = n + 1 := ⟨fuel - 1, by omega⟩
    rw [f_X9_convoyOf_L19, e4, if_neg (nI_ge (by omega) (by omega)), swI, show (0 : Int32) = nI 0 from rfl, e9_cvJ hB hR (by omega) _ v (a 4) 1000 0 S (by omega) (by omega) hS2]
    exact ih n (i + 1) _ (by omega) (by omega) (swJ_K h4 (a 4) 0 S (by omega) hS2).1
theorem e9_cvR (hB : BA a) (hR : RM s a) {k : Nat} (hk : k < 6) : ∀ (d fuel r S : Nat), r + d = a 4 → d < fuel → S < 2 ^ a 4 → f_X9_convoyOf_L6 (nI k) s fuel (nI S) (nI r) = some (if a (39 + 5 * k) = 0 then nI (swR a (a 4) d S) else 0) := by
  have h4 := hB.1
  have b1 := hB.2.2.2.1 k hk
  have e4 := hR 4 (by decide) (by decide) (by decide)
  intro d
  induction d with
  | zero =>
    intro fuel i S hj hf hS2
    obtain ⟨n, rfl⟩ : ∃ n, fuel = n + 1 := ⟨fuel - 1, by omega⟩
    rw [f_X9_convoyOf_L6, e4, if_pos (nI_le (by omega) (by omega))]
    unfold f_X9_convoyOf_b94
    rw [e9_home hR hk, qb1]
    by_cases c : a (39 + 5 * k) = 0
    · rw [if_neg (by rw [ql1, q_eq (by omega) (by decide)]; omega), if_pos c]; rfl
    · rw [if_pos (by rw [ql1, q_eq (by omega) (by decide)]; omega), if_neg c]
  | succ d ih =>
    intro fuel i S hj hf hS2
    obtain ⟨n, rfl⟩ : ∃ n, fuel = n + 1 := ⟨fuel - 1, by omega⟩
    rw [f_X9_convoyOf_L6, e4, if_neg (nI_ge (by omega) (by omega)), swR]
    have e := e9_cvI hB hR (f_X9_convoyOf_L6 (nI k) s n) (nI i) (a 4) 1000 0 S (by omega) (by omega) hS2
    rw [show (nI 0) = (0 : Int32) from rfl] at e
    rw [e, show nI i + 1 = nI (i + 1) from q_add i 1]
    exact ih n (i + 1) _ (by omega) (by omega) (swI_K h4 (a 4) 0 S (by omega) hS2).1
theorem e9_convoyOf (hB : BA a) (hR : RM s a) {k : Nat} (hk : k < a 4) : f_X9_convoyOf (nI k) s = some (if a (39 + 5 * k) = 0 then nI (cvT a k) else 0) := by
  have h4 := hB.1
  unfold f_X9_convoyOf
  rw [(pc_one k (by omega)).2.2.2, qt1]
  exact e9_cvR hB hR (by omega) (a 4) 1000 0 _ (by omega) (by omega) (pc_low _ (by omega) k hk)
end ED
section EE
variable {cnt en z wa sc ho rn rz pn : Int32} {kd tr ln li cu bu of rk rd rb rs rl rr ph pa pl pm s : Nat → Int32}
theorem st_convoys (h : InR cnt en z wa sc ho kd tr ln li cu bu of rn rz rk rd rb rs rl rr pn ph pa pl pm s) (p0 : Int32) : ∃ r, f_X8_convoys p0 cnt ln ho of = some r ∧ f_X9_convoys p0 s = some r := by
  obtain ⟨a, RL, hB, hE, hS, he, hC, hn, hz, hP, hM, hMR⟩ := h
  have h4 := hB.1
  have e4 := hM.1 4 (by decide) (by decide) (by decide)
  unfold f_X8_convoys f_X9_convoys f_X9_convoys_b15 f_X8_countConvoys
  by_cases c : p0 = -1
  · rw [if_pos c, if_pos c, if_pos (by rw [c]; decide)]
    have loop : ∀ (d fuel k : Nat) (v : Int32), k + d = a 4 → d < fuel → ∃ r, f_X8_countConvoys_L4 cnt ln ho of fuel v (nI k) = some r ∧ f_X9_convoys_L29 s fuel v (nI k) = some r := by
      intro d
      induction d with
      | zero =>
        intro fuel k v hk hf
        obtain ⟨n, rfl⟩ : ∃ n, fuel = n + 1 := ⟨fuel - 1, by omega⟩
        rw [f_X8_countConvoys_L4, f_X9_convoys_L29, hE.1, e4, if_pos (nI_le (by omega) (by omega)), if_pos (nI_le (by omega) (by omega))]
        exact ⟨_, rfl, rfl⟩
      | succ d ih =>
        intro fuel k v hk hf
        obtain ⟨n, rfl⟩ : ∃ n, fuel = n + 1 := ⟨fuel - 1, by omega⟩
        have b1 := hB.2.2.2.1 k (by omega)
        rw [f_X8_countConvoys_L4, f_X9_convoys_L29, hE.1, e4, if_neg (nI_ge (by omega) (by omega)), if_neg (nI_ge (by omega) (by omega)), ← hE.1, show nI k + 1 = nI (k + 1) from q_add k 1, hS.2.1, e8_isHome hB (by omega), qb1, ← hS.2.1, e9_convoyOf hB hM.1 (by omega), qb1]
        by_cases c2 : a (39 + 5 * k) = 0
        · obtain ⟨t1, t2⟩ := cvT_K hB (k := k) (by omega)
          have t0 : cvT a k ≠ 0 := by intro h; rw [h] at t2; simp at t2
          obtain ⟨l1, l2⟩ := q_least k (by omega) _ t1 t2
          obtain ⟨w, hw⟩ := Option.isSome_iff_exists.mp l1
          have hp : 2 ^ k < 64 := (pc_one k (by omega)).2.1
          have hp0 : 0 < 2 ^ k := Nat.pow_pos (by decide)
          rw [if_pos (show nI (a (39 + 5 * k)) = 0 by rw [c2]; rfl), e8_convoyOf hB hE hS (by omega), qb1, if_pos c2, if_neg (nI_ne0 (by omega) (by omega)), (pc_one k (by omega)).2.2.2, qcD hp0 (by omega), q_rem (by omega) hp0 (by omega), hw, qb1]
          rw [hw] at l2
          by_cases c3 : cvT a k % 2 ^ k = 0
          · have : w = nI k := Option.some.inj (l2.mpr c3)
            rw [if_pos this, c3, if_pos (show nI 0 = 0 from rfl), qt1, qt1, qt1, qt1]
            exact ih n (k + 1) _ (by omega) (by omega)
          · have : ¬ w = nI k := fun h => c3 (l2.mp (by rw [h]))
            rw [if_neg this, if_neg (nI_ne0 (by omega) (by have := Nat.mod_lt (cvT a k) hp0; omega)), qt1, qt1, qt1, Int32.add_zero]
            exact ih n (k + 1) _ (by omega) (by omega)
        · rw [if_neg (nI_ne0 (by omega) (by omega)), if_neg c2, if_pos rfl, qt1, qt1, qt1, Int32.add_zero]
          exact ih n (k + 1) _ (by omega) (by omega)
    obtain ⟨r, e1, e2⟩ := loop (a 4) 1000 0 0 (by omega) (by omega)
    rw [show (nI 0) = (0 : Int32) from rfl] at e1 e2
    rw [e1, e2]; exact ⟨_, rfl, rfl⟩
  · rw [if_neg c, if_neg c, hE.1]
    rcases e_has (p := p0) (n := a 4) e4 (by omega) with ⟨e6, e7⟩ | ⟨j, hj, rfl, e6, e7⟩
    · rw [e6, e7, qb1, qb1, if_pos rfl, if_pos rfl]; exact ⟨_, rfl, rfl⟩
    · have b1 := hB.2.2.2.1 j (by omega)
      rw [e6, e7, qb1, qb1, if_neg n10, if_neg n10, if_neg (nI_pos (by omega)), hS.2.1, e8_isHome hB (by omega), qb1, ← hS.2.1, e9_convoyOf hB hM.1 hj, qb1]
      by_cases c2 : a (39 + 5 * j) = 0
      · rw [if_pos (show nI (a (39 + 5 * j)) = 0 by rw [c2]; rfl), ← hE.1, e8_convoyOf hB hE hS hj, if_pos c2]; exact ⟨_, rfl, rfl⟩
      · rw [if_neg (nI_ne0 (by omega) (by omega)), if_neg c2]; exact ⟨_, rfl, rfl⟩
end EE
