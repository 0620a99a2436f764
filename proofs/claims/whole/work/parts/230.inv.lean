/-! ===== E: a rock on both sides ===== -/
def RP (pn : Int32) (ph pa pl pm : Nat → Int32) (a : Nat → Nat) : Prop := pn = nI (a 6) ∧ a 6 ≤ 6 ∧ (∀ r, r < 6 → ph r = nI (a (65 + 4 * r)) ∧ pa r = nI (a (66 + 4 * r)) ∧ pl r = nI (a (67 + 4 * r)) ∧ pm r = nI (a (68 + 4 * r))) ∧ ∀ r, r < 6 → a (65 + 4 * r) ≤ 15 ∧ a (66 + 4 * r) ≤ 1 ∧ a (67 + 4 * r) ≤ 99 ∧ a (68 + 4 * r) ≤ 99
def tot : List RRul → Nat
  | [] => 0
  | x :: t => x.2.2.length + tot t
/-- a rock of the class and the reference's row -/
def InR (cnt en z wa sc ho : Int32) (kd tr ln li cu bu of : Nat → Int32) (rn rz : Int32) (rk rd rb rs rl rr : Nat → Int32) (pn : Int32) (ph pa pl pm : Nat → Int32) (s : Nat → Int32) : Prop := ∃ (a : Nat → Nat) (RL : List RRul), BA a ∧ CE cnt kd tr ln li cu bu a ∧ CS wa ho of a ∧ en = nI (a 1) ∧ CRs rk rd rb rs rl rr RL ∧ rn = nI RL.length ∧ rz = nI (tot RL) ∧ RP pn ph pa pl pm a ∧ MS s a sc z s ∧ MRs s a RL
theorem BA_upd {a : Nat → Nat} (hB : BA a) {j x : Nat} (h4 : j ≠ 4) (h0 : j = 0 → x ≤ a 1) (h1 : j = 1 → a 0 ≤ x ∧ x ≤ 16) (hs : ∀ k, k < 6 → (j = 35 + 5 * k → x ≤ 5) ∧ (j = 36 + 5 * k → x ≤ 99) ∧ (j = 37 + 5 * k → x ≤ 9) ∧ (j = 38 + 5 * k → x ≤ 5) ∧ (j = 39 + 5 * k → x ≤ 1 ∧ (a 4 ≤ k → x = 0))) (hl : ∀ w, w < 16 → j = 7 + w → x ≤ 15) (hc : ∀ c, c < 6 → (j = 23 + c → x ≤ 9) ∧ (j = 29 + c → x ≤ 9)) : BA (updN a j x) := by
  have e4 : updN a j x 4 = a 4 := updN_ne _ _ (by omega)
  refine ⟨by rw [e4]; exact hB.1, ?_, ?_, fun k hk => ?_, fun w hw => ?_, fun c hc' => ?_, fun k hk h => ?_⟩
  · unfold updN
    have := hB.2.1
    by_cases c : (0 : Nat) = j
    · rw [if_pos c, if_neg (by omega)]; exact h0 c.symm
    · rw [if_neg c]
      by_cases d : (1 : Nat) = j
      · rw [if_pos d]; exact (h1 d.symm).1
      · rw [if_neg d]; exact this
  · unfold updN
    by_cases d : (1 : Nat) = j
    · rw [if_pos d]; exact (h1 d.symm).2
    · rw [if_neg d]; exact hB.2.2.1
  · have b := hB.2.2.2.1 k hk
    obtain ⟨g1, g2, g3, g4, g5⟩ := hs k hk
    refine ⟨?_, ?_, ?_, ?_, ?_⟩
    · unfold updN; split <;> omega
    · unfold updN; split <;> omega
    · unfold updN; split <;> omega
    · unfold updN; split <;> omega
    · unfold updN; split
      · exact (g5 (by omega)).1
      · omega
  · have b := hB.2.2.2.2.1 w hw
    have := hl w hw
    unfold updN; split <;> omega
  · have b := hB.2.2.2.2.2.1 c hc'
    have := hc c hc'
    exact ⟨by unfold updN; split <;> omega, by unfold updN; split <;> omega⟩
  · rw [e4] at h
    have b := hB.2.2.2.2.2.2 k hk h
    unfold updN
    split
    · exact ((hs k hk).2.2.2.2 (by omega)).2 h
    · exact b
section EI
variable {a : Nat → Nat} {f : Nat → Int32} {c k x j N : Nat}
theorem ar5 (hf : ∀ i, i < 6 → f i = nI (a (c + 5 * i))) : ∀ i, i < 6 → upd f k (nI x) i = nI (updN a (c + 5 * k) x (c + 5 * i)) := by
  intro i hi
  unfold upd updN
  by_cases d : i = k
  · rw [if_pos d, if_pos (by omega)]
  · rw [if_neg d, if_neg (by omega)]; exact hf i hi
theorem ar5n (hf : ∀ i, i < 6 → f i = nI (a (c + 5 * i))) (h : ∀ i, i < 6 → c + 5 * i ≠ j) : ∀ i, i < 6 → f i = nI (updN a j x (c + 5 * i)) := by
  intro i hi
  rw [updN_ne _ _ (h i hi)]; exact hf i hi
theorem ar1 (hf : ∀ i, i < N → f i = nI (a (c + i))) : ∀ i, i < N → upd f k (nI x) i = nI (updN a (c + k) x (c + i)) := by
  intro i hi
  unfold upd updN
  by_cases d : i = k
  · rw [if_pos d, if_pos (by omega)]
  · rw [if_neg d, if_neg (by omega)]; exact hf i hi
theorem ar1n (hf : ∀ i, i < N → f i = nI (a (c + i))) (h : ∀ i, i < N → c + i ≠ j) : ∀ i, i < N → f i = nI (updN a j x (c + i)) := by
  intro i hi
  rw [updN_ne _ _ (h i hi)]; exact hf i hi
variable {cnt en z wa sc ho rn rz pn : Int32} {kd tr ln li cu bu of rk rd rb rs rl rr ph pa pl pm s s' T : Nat → Int32} {RL : List RRul}
theorem CE_mk (h0 : cnt = nI (a 4)) (h1 : ∀ i, i < 6 → kd i = nI (a (35 + 5 * i))) (h2 : ∀ i, i < 6 → tr i = nI (a (37 + 5 * i))) (h3 : ∀ i, i < 6 → ln i = nI (a (38 + 5 * i))) (h4 : ∀ i, i < 16 → li i = nI (a (7 + i))) (h5 : ∀ i, i < 6 → cu i = nI (a (23 + i))) (h6 : ∀ i, i < 6 → bu i = nI (a (29 + i))) : CE cnt kd tr ln li cu bu a :=
  ⟨h0, fun i hi => ⟨h1 i hi, h2 i hi, h3 i hi⟩, h4, fun i hi => ⟨h5 i hi, h6 i hi⟩⟩
theorem CE.ekd (h : CE cnt kd tr ln li cu bu a) : ∀ i, i < 6 → kd i = nI (a (35 + 5 * i)) := fun i hi => (h.2.1 i hi).1
theorem CE.etr (h : CE cnt kd tr ln li cu bu a) : ∀ i, i < 6 → tr i = nI (a (37 + 5 * i)) := fun i hi => (h.2.1 i hi).2.1
theorem CE.eln (h : CE cnt kd tr ln li cu bu a) : ∀ i, i < 6 → ln i = nI (a (38 + 5 * i)) := fun i hi => (h.2.1 i hi).2.2
theorem CE.eli (h : CE cnt kd tr ln li cu bu a) : ∀ i, i < 16 → li i = nI (a (7 + i)) := h.2.2.1
theorem CE.ecu (h : CE cnt kd tr ln li cu bu a) : ∀ i, i < 6 → cu i = nI (a (23 + i)) := fun i hi => (h.2.2.2 i hi).1
theorem CE.ebu (h : CE cnt kd tr ln li cu bu a) : ∀ i, i < 6 → bu i = nI (a (29 + i)) := fun i hi => (h.2.2.2 i hi).2
theorem RP_congr {b : Nat → Nat} (h : RP pn ph pa pl pm a) (e : ∀ y, y = 6 ∨ 65 ≤ y → b y = a y) : RP pn ph pa pl pm b := by
  obtain ⟨h1, h2, h3, h4⟩ := h
  refine ⟨by rw [e 6 (by omega)]; exact h1, by rw [e 6 (by omega)]; exact h2, fun r hr => ?_, fun r hr => ?_⟩
  · rw [e _ (by omega), e _ (by omega), e _ (by omega), e _ (by omega)]; exact h3 r hr
  · rw [e _ (by omega), e _ (by omega), e _ (by omega), e _ (by omega)]; exact h4 r hr
theorem InR_mk {b : Nat → Nat} {T : Nat → Int32} (hB : BA a) (hE : CE cnt kd tr ln li cu bu a) (hS : CS wa ho of a) (he : en = nI (a 1)) (hC : CRs rk rd rb rs rl rr RL) (hn : rn = nI RL.length) (hz : rz = nI (tot RL)) (hP : RP pn ph pa pl pm a) (hM : MS s' a sc z T) (hMR : MRs T b RL) (h5 : a 5 = b 5) : InR cnt en z wa sc ho kd tr ln li cu bu of rn rz rk rd rb rs rl rr pn ph pa pl pm s' :=
  ⟨a, RL, hB, hE, hS, he, hC, hn, hz, hP, ⟨hM.1, hM.2.1, hM.2.2.1, fun j _ => rfl⟩, MRl_congr (fun j hj => hM.2.2.2 j (by omega)) RL 0 0 hMR.1, hMR.2.1, hMR.2.2.1, by rw [h5]; exact hMR.2.2.2⟩
theorem e9_becomes {v : Int32} (hj : j < 313) : f_X9_becomes (nI j) v s = some (s j, upd s j v) := by
  unfold f_X9_becomes
  rw [qcI hj (by omega), q_cl (by omega), qt1, qcI hj (by omega)]
/-- within: both sides' words -/
theorem e_in {p lo hi : Int32} (l h : Nat) (hlo : lo = nI l) (hhi : hi = nI h) (hh : h < 2 ^ 31) (h2 : l ≤ h) : (f_X8_within p lo hi = some 0 ∧ f_X9_in1 p lo hi = some 0 ∧ (p < lo ∨ hi < p)) ∨ ∃ q : Nat, l ≤ q ∧ q ≤ h ∧ p = nI q ∧ f_X8_within p lo hi = some 1 ∧ f_X9_in1 p lo hi = some 1 := by
  subst hlo hhi
  unfold f_X8_within f_X9_in1
  by_cases c : p < nI l
  · exact Or.inl ⟨if_pos c, if_pos c, Or.inl c⟩
  · rw [if_neg c]
    by_cases d : nI h < p
    · exact Or.inl ⟨if_pos d, if_pos d, Or.inr d⟩
    · refine Or.inr ⟨p.toInt.toNat, ?_⟩
      have c' := c
      have d' := d
      rw [Int32.lt_iff_toInt_lt, nI_toInt (by omega)] at c' d'
      have e : p = nI p.toInt.toNat := by
        apply Int32.toInt_inj.mp
        rw [nI_toInt (by omega)]
        omega
      exact ⟨by omega, by omega, e, if_neg d, if_neg d⟩
theorem e_digit {p : Int32} (h : f_X9_in1 p 0 9 = some 0 ∨ f_X9_in1 p 0 9 = some 1) : f_X9_isDigit p = f_X9_in1 p 0 9 := by
  unfold f_X9_isDigit
  rcases h with h | h <;> rw [h] <;> rfl
theorem e_lane {p : Int32} (h : f_X9_in1 p 0 5 = some 0 ∨ f_X9_in1 p 0 5 = some 1) : f_X9_isLane p = f_X9_in1 p 0 5 := by
  unfold f_X9_isLane
  rcases h with h | h <;> rw [h] <;> rfl
theorem e_has {p : Int32} {n : Nat} (h4 : s 4 = nI n) (hn : n < 2 ^ 30) : (f_X3_has p (nI n) = some 0 ∧ f_X9_isShip p s = some 0) ∨ ∃ q : Nat, q < n ∧ p = nI q ∧ f_X3_has p (nI n) = some 1 ∧ f_X9_isShip p s = some 1 := by
  unfold f_X3_has f_X9_isShip f_X9_in1
  rw [h4]
  by_cases c : p < 0
  · refine Or.inl ⟨if_pos c, ?_⟩
    rw [if_pos c, qb1]; rfl
  · rw [if_neg c, if_neg c]
    obtain ⟨q, hq, rfl⟩ := nI_of c
    by_cases d : q < n
    · refine Or.inr ⟨q, d, rfl, if_neg (nI_ge d (by omega)), ?_⟩
      have e : nI n - 1 = nI (n - 1) := by
        have := nI_pred (n - 1)
        rw [show n - 1 + 1 = n by omega] at this
        exact this
      rw [e, if_neg (nI_nlt (by omega) (by omega)), qb1]; rfl
    · refine Or.inl ⟨if_pos (nI_le (by omega) hq), ?_⟩
      have e : nI n - 1 < nI q := by
        by_cases n0 : n = 0
        · subst n0
          rw [Int32.lt_iff_toInt_lt, nI_toInt hq]
          have : (nI 0 - 1).toInt = -1 := rfl
          omega
        · have e : nI n - 1 = nI (n - 1) := by
            have := nI_pred (n - 1)
            rw [show n - 1 + 1 = n by omega] at this
            exact this
          rw [e]; exact nI_lt (by omega) hq
      rw [if_pos e, qb1]; rfl
end EI
