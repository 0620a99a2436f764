/-! ===== E: a watch in the class ===== -/
def CRs (kd de be st le ri : Nat → Int32) (RL : List RRul) : Prop := CRl kd de be st le ri RL 0 0 ∧ okR RL ∧ RL.length ≤ 8
section EP
variable {kd de be st le ri fa : Nat → Int32} {a : Nat → Nat} {cnt wa ho sc : Int32} {kds tr ln li cu bu of : Nat → Int32} {RL : List RRul}
theorem e8_onRock (hB : BA a) (hS : CS wa ho of a) {k : Nat} (hk : k < 6) : f_X6_isOnRock (nI k) ho of = some (if a (39 + 5 * k) = 0 ∧ a (36 + 5 * k) = 0 then 1 else 0) := by
  obtain ⟨-, rfl, h4⟩ := hS
  have b1 := hB.2.2.2.1 k hk
  unfold f_X6_isOnRock
  rw [e8_isHome hB hk, qb1, qcI (by omega) (by omega), q_cl (by omega), h4 k hk]
  simp (disch := omega) only [ql0, q_eq]
  by_cases c1 : a (39 + 5 * k) = 0
  · rw [if_pos c1]
    by_cases c2 : a (36 + 5 * k) = 0
    · rw [if_pos c2, if_pos ⟨c1, c2⟩]
    · rw [if_neg c2, if_neg (fun z => c2 z.2)]
  · rw [if_neg c1, if_neg (fun z => c1 z.1)]
theorem e8_strandedL (hB : BA a) (hS : CS wa ho of a) : ∀ (d fuel j v : Nat), j + d = a 4 → d < fuel → v + d < 100 → f_X3_stranded_L4 ho of (nI (a 4)) fuel (nI v) (nI j) = some (nI (v + rocks a d j)) := by
  have h4 := hB.1
  intro d
  induction d with
  | zero =>
    intro fuel j v hj hf hv
    obtain ⟨n, rfl⟩ : ∃ n, fuel = n + 1 := ⟨fuel - 1, by omega⟩
    rw [f_X3_stranded_L4, if_pos (nI_le (by omega) (by omega))]
    rfl
  | succ d ih =>
    intro fuel j v hj hf hv
    obtain ⟨n, rfl⟩ : ∃ n, fuel = n + 1 := ⟨fuel - 1, by omega⟩
    rw [f_X3_stranded_L4, if_neg (nI_ge (by omega) (by omega)), e8_onRock hB hS (by omega), qb1, ql1, q_add, q_add, qt1, qt1, qt1]
    unfold rocks
    by_cases c : a (39 + 5 * j) = 0 ∧ a (36 + 5 * j) = 0
    · rw [if_pos c, if_neg (by decide), ih _ _ _ (by omega) (by omega) (by omega), if_pos c]
      congr 2; omega
    · rw [if_neg c, if_pos (by decide), ih _ _ _ (by omega) (by omega) (by omega), if_neg c]
      congr 2; omega
theorem e8_stranded (hB : BA a) (hS : CS wa ho of a) : f_X3_stranded ho of (nI (a 4)) = some (nI (rockN a)) := by
  have h4 := hB.1
  have := e8_strandedL hB hS (a 4) 1000 0 0 (by omega) (by omega) (by omega)
  rw [Nat.zero_add] at this
  exact this
theorem e8_bits : ∀ h, h < 64 → f_J6_bitCount_0f7a4 (nI h) = some (nI (h % 2 + h / 2 % 2 + h / 4 % 2 + h / 8 % 2 + h / 16 % 2 + h / 32 % 2)) := by decide +kernel
theorem hb_pop (hB : BA a) : hb a % 2 + hb a / 2 % 2 + hb a / 4 % 2 + hb a / 8 % 2 + hb a / 16 % 2 + hb a / 32 % 2 = homeN a := by
  have h0 := hb_bit hB (k := 0) (by decide)
  have h1 := hb_bit hB (k := 1) (by decide)
  have h2 := hb_bit hB (k := 2) (by decide)
  have h3 := hb_bit hB (k := 3) (by decide)
  have h4 := hb_bit hB (k := 4) (by decide)
  have h5 := hb_bit hB (k := 5) (by decide)
  unfold homeN
  simp only [Nat.reducePow, Nat.reduceMul, Nat.reduceAdd, Nat.div_one] at *
  omega
theorem hb_congr {b : Nat → Nat} (h : ∀ x, 35 ≤ x → x % 5 = 4 → b x = a x) : hb b = hb a := by
  unfold hb
  rw [h 39 (by decide) (by decide), h 44 (by decide) (by decide), h 49 (by decide) (by decide), h 54 (by decide) (by decide), h 59 (by decide) (by decide), h 64 (by decide) (by decide)]
theorem homeN_congr {b : Nat → Nat} (h : ∀ x, 35 ≤ x → x % 5 = 4 → b x = a x) : homeN b = homeN a := by
  unfold homeN
  rw [h 39 (by decide) (by decide), h 44 (by decide) (by decide), h 49 (by decide) (by decide), h 54 (by decide) (by decide), h 59 (by decide) (by decide), h 64 (by decide) (by decide)]
theorem CE_congr {b : Nat → Nat} (hE : CE cnt kds tr ln li cu bu a) (h : ∀ x, x < 35 ∨ (x % 5 ≠ 1 ∧ x % 5 ≠ 4) → x ≠ 0 → b x = a x) : CE cnt kds tr ln li cu bu b := by
  obtain ⟨h0, h1, h2, h3⟩ := hE
  refine ⟨by rw [h 4 (by omega) (by decide)]; exact h0, fun k hk => ?_, fun w hw => by rw [h _ (by omega) (by omega)]; exact h2 w hw, fun c hc => ?_⟩
  · rw [h _ (by omega) (by omega), h _ (by omega) (by omega), h _ (by omega) (by omega)]; exact h1 k hk
  · rw [h _ (by omega) (by omega), h _ (by omega) (by omega)]; exact h3 c hc
theorem e8_passL (hB : BA a) (hE : CE cnt kds tr ln li cu bu a) (hw : wa = nI (a 0)) {v : Int32} : ∀ (d fuel j : Nat) (g : Nat → Int32), j + d = a 4 → d < fuel → (∀ i, i < 6 → g i = nI (mid a j (36 + 5 * i))) →
    ∃ g', f_X3_pass_L36 wa sc cnt cu kds ln li fuel v (nI j) (nI (hb a)) g fa = f_X3_pass_b86 wa sc cnt v (nI (hb a)) g' fa ∧ ∀ i, i < 6 → g' i = nI (offA a (36 + 5 * i)) := by
  have h4 := hB.1
  have hcnt := hE.1
  intro d
  induction d with
  | zero =>
    intro fuel j g hj hf hg
    obtain ⟨n, rfl⟩ : ∃ n, fuel = n + 1 := ⟨fuel - 1, by omega⟩
    refine ⟨g, ?_, fun i hi => ?_⟩
    · rw [f_X3_pass_L36, hcnt, if_pos (nI_le (by omega) (by omega))]
    · rw [hg i hi, show j = a 4 by omega]; rfl
  | succ d ih =>
    intro fuel j g hj hf hg
    obtain ⟨n, rfl⟩ : ∃ n, fuel = n + 1 := ⟨fuel - 1, by omega⟩
    have b1 := hB.2.2.2.1 j (by omega)
    have bm := BA_mid hB j
    have e1 : ∀ x, x % 5 ≠ 1 ∨ x < 35 → mid a j x = a x := fun x hx => mid_oth hx
    have hn : f_X3_nears (nI j) wa (nI (hb a)) cnt cu kds ln li = some (nI (near a j)) := by
      have := e8_nears (of := g) (wa := wa) (ho := nI (hb a)) bm (CE_congr hE (fun x hx _ => e1 x (by omega))) ⟨by rw [e1 0 (by omega)]; exact hw, by rw [hb_congr (fun x _ hx => e1 x (by omega))], hg⟩ (show j < 6 by omega)
      rw [near_congr hB e1 (by omega)] at this
      exact this
    have nl := near_le hB (show j < 6 by omega)
    have hj2 := mid_s a j
    rw [f_X3_pass_L36, hcnt, if_neg (nI_ge (by omega) (by omega)), e8_isHome hB (by omega), qb1, ← hcnt, qcI (by omega) (by omega), hn, qb1, q_cl (by omega), hg j (by omega), ql0, q_max0 (by rw [mid_off]; split <;> omega) (by omega), qt1, qcI (by omega) (by omega), ql1, q_add, qt1, qt1]
    by_cases c : a (39 + 5 * j) = 0
    · rw [c, if_pos rfl]
      refine ih n (j + 1) _ (by omega) (by omega) (fun i hi => ?_)
      rw [hj2, if_pos c]
      unfold upd updN
      by_cases ci : i = j
      · rw [if_pos ci, if_pos (by omega), mid_off, if_neg (fun z => by omega)]
      · rw [if_neg ci, if_neg (by omega)]; exact hg i hi
    · rw [if_neg (by rw [q_eq (by omega) (by omega)]; exact c)]
      refine ih n (j + 1) g (by omega) (by omega) (fun i hi => ?_)
      rw [hj2, if_neg c]
      unfold updN
      by_cases ci : i = j
      · rw [if_pos (by omega), hg i hi, ci, mid_off, if_neg (fun z => c z.2)]
      · rw [if_neg (by omega)]; exact hg i hi
theorem e8_pass32 (hB : BA a) (hE : CE cnt kds tr ln li cu bu a) (hS : CS wa ho of a) {w : Nat} (hw : w ≤ 100) :
    ∃ g', f_X3_pass_b32 wa sc cnt cu kds ln li (nI w) ho of fa = some (nI (w + (homeN a - rockN (offA a))), nI (a 0 + 1), sc + nI (w + (homeN a - rockN (offA a))), ho, g', fa) ∧ ∀ i, i < 6 → g' i = nI (offA a (36 + 5 * i)) := by
  obtain ⟨rfl, rfl, h4⟩ := hS
  have b4 := hB.1
  obtain ⟨g', e1, e2⟩ := e8_passL (fa := fa) (sc := sc) hB hE rfl (v := nI w) (a 4) 1000 0 of (by omega) (by omega) (fun i hi => by rw [mid_0]; exact h4 i hi)
  refine ⟨g', ?_, e2⟩
  unfold f_X3_pass_b32
  rw [← ql0] at e1
  rw [e1]
  unfold f_X3_pass_b86
  have bo : BA (offA a) := BA_mid hB _
  have e3 : ∀ x, x % 5 ≠ 1 ∨ x < 35 → offA a x = a x := fun x hx => mid_oth hx
  have hst := e8_stranded (of := g') (wa := nI (a 0)) (ho := nI (hb a)) bo ⟨by rw [e3 0 (by omega)], by rw [hb_congr (fun x _ hx => e3 x (by omega))], e2⟩
  rw [e3 4 (by omega)] at hst
  have hr : rockN (offA a) ≤ 6 := by
    have := rocks_le (offA a) (offA a 4) 0
    unfold rockN
    have := bo.1
    omega
  have hh := homeN_le hB
  rw [e8_bits _ (hb_lt hB), qb1, hE.1, hst, qb1, hb_pop hB, ql0, q_max0 (by omega) (by omega), q_add, qt1, ql1, q_add, qt1, qt1]
theorem e8_bring1 : ∀ h, h < 64 → ∀ k, k < 6 → f_X6_bring (nI k) 1 (nI h) = some (nI (h / 2 ^ k % 2), nI (h - h / 2 ^ k % 2 * 2 ^ k + 2 ^ k)) := by decide +kernel
theorem e8_bring0 : ∀ h, h < 64 → ∀ k, k < 6 → f_X6_bring (nI k) 0 (nI h) = some (nI (h / 2 ^ k % 2), nI (h - h / 2 ^ k % 2 * 2 ^ k)) := by decide +kernel
theorem hb_upd1 (hB : BA a) {k : Nat} (hk : k < 6) : hb (updN a (39 + 5 * k) 1) = hb a - hb a / 2 ^ k % 2 * 2 ^ k + 2 ^ k := by
  rw [hb_bit hB hk]
  have b1 := (hB.2.2.2.1 k hk).2.2.2.2
  unfold hb
  rcases (by omega : k = 0 ∨ k = 1 ∨ k = 2 ∨ k = 3 ∨ k = 4 ∨ k = 5) with rfl | rfl | rfl | rfl | rfl | rfl <;> simp only [updN, Nat.reducePow, Nat.reduceMul, Nat.reduceAdd, Nat.reduceEqDiff, if_true, if_false] at * <;> omega
theorem hb_upd0 (hB : BA a) {k : Nat} (hk : k < 6) : hb (updN a (39 + 5 * k) 0) = hb a - hb a / 2 ^ k % 2 * 2 ^ k := by
  rw [hb_bit hB hk]
  have b1 := (hB.2.2.2.1 k hk).2.2.2.2
  unfold hb
  rcases (by omega : k = 0 ∨ k = 1 ∨ k = 2 ∨ k = 3 ∨ k = 4 ∨ k = 5) with rfl | rfl | rfl | rfl | rfl | rfl <;> simp only [updN, Nat.reducePow, Nat.reduceMul, Nat.reduceAdd, Nat.reduceEqDiff, if_true, if_false] at * <;> omega
theorem CS_upd1 (hB : BA a) (hS : CS wa ho of a) {k : Nat} (hk : k < 6) : CS wa (nI (hb a - hb a / 2 ^ k % 2 * 2 ^ k + 2 ^ k)) of (updN a (39 + 5 * k) 1) := by
  refine ⟨by rw [updN_ne _ _ (by omega)]; exact hS.1, by rw [hb_upd1 hB hk], fun i hi => by rw [updN_ne _ _ (by omega)]; exact hS.2.2 i hi⟩
theorem CS_updo (hS : CS wa ho of a) {k x : Nat} (hk : k < 6) : CS wa ho (upd of k (nI x)) (updN a (36 + 5 * k) x) := by
  refine ⟨by rw [updN_ne _ _ (by omega)]; exact hS.1, by rw [hb_congr (fun y h1 h2 => updN_ne _ _ (by omega))]; exact hS.2.1, fun i hi => ?_⟩
  unfold upd updN
  by_cases c : i = k
  · rw [if_pos c, if_pos (by omega)]
  · rw [if_neg c, if_neg (by omega)]; exact hS.2.2 i hi
theorem q_min99 {x : Nat} (h : x < 2 ^ 30) : imin (nI 99) (nI x) = nI (min 99 x) := by
  unfold imin
  by_cases c : x < 99
  · rw [if_pos (nI_lt c (by omega)), Nat.min_eq_right (by omega)]
  · rw [if_neg (nI_nlt (by omega) (by omega)), Nat.min_eq_left (by omega)]
theorem e8_obey (hB : BA a) (hE : CE cnt kds tr ln li cu bu a) (hS : CS wa ho of a) (hC : CRs kd de be st le ri RL) {k : Nat} (hk : k < a 4) (hh : a (39 + 5 * k) = 0) :
    ∃ ho' of' fa', f_X3_obey (nI k) wa ho of bu kds ln li (nI RL.length) be de fa kd le ri st tr = some (nI (meetW a RL k), ho', of', fa') ∧ CS wa ho' of' (meetA a RL k) := by
  have h4 := hB.1
  have hk6 : k < 6 := by omega
  have b1 := hB.2.2.2.1 k hk6
  obtain ⟨fa1, hw⟩ := e8_will (fa := fa) hB hE hS hC.1 hC.2.1 hC.2.2 hk6
  have hr := e8_inReach hB hE hS hk6 b1.2.2.1
  have hwl := @will_le a RL k hC.2.1
  have bl : lightN a ≤ 15 := lightW_le hB (a 0)
  unfold f_X3_obey meetW meetA
  rw [hw, qb2, if_pos hh, if_pos hh]
  rcases (by omega : will a RL k = 0 ∨ will a RL k = 1 ∨ will a RL k = 2) with c | c | c
  · rw [c, if_pos (by decide), if_pos rfl, if_pos rfl, qcI (by omega) (by omega), q_cl (by omega), (hE.2.1 k hk6).2.1, hr, qb1]
    unfold pay
    by_cases d : inR a k (a (37 + 5 * k))
    · rw [if_pos d, if_neg (by decide), if_pos d, if_pos d, hS.2.1, e8_bring1 _ (hb_lt hB) _ hk6, qb2, qcI (by omega) (by omega), ql6, q_add]
      exact ⟨_, _, _, rfl, CS_upd1 hB hS hk6⟩
    · rw [if_neg d, if_pos rfl, if_neg d, if_neg d]
      exact ⟨_, _, _, rfl, hS⟩
  · rw [c, if_neg (show ¬ nI 1 = 0 by decide), if_neg (show ¬ nI 1 = 2 by decide), if_neg (show ¬ (1 : Nat) = 0 by decide), if_neg (show ¬ (1 : Nat) = 2 by decide), if_neg (show ¬ (1 : Nat) = 0 by decide), if_neg (show ¬ (1 : Nat) = 2 by decide)]
    exact ⟨_, _, _, rfl, hS⟩
  · rw [c, if_neg (show ¬ nI 2 = 0 by decide), if_pos (show nI 2 = 2 from rfl), if_neg (show ¬ (2 : Nat) = 0 by decide), if_pos (show (2 : Nat) = 2 from rfl), if_neg (show ¬ (2 : Nat) = 0 by decide), if_pos (show (2 : Nat) = 2 from rfl)]
    rw [qcI (by omega) (by omega), q_cl (by omega), hS.2.2 k hk6, ql12, q_add, ql99, q_min99 (by omega), qt1, qcI (by omega) (by omega), hS.1, e8_lightAt hE.2.2.1 (by have := hB.2.1; have := hB.2.2.1; omega), qb1, ql3]
    have e : nI (lightW a (a 0)) &&& nI 3 = nI (lightN a % 4) := q_and3 (by have : lightW a (a 0) = lightN a := rfl; omega)
    have h1 : CS wa ho (upd of k (nI (min 99 (a (36 + 5 * k) + 12)))) (updN a (36 + 5 * k) (min 99 (a (36 + 5 * k) + 12))) := CS_updo hS hk6
    rw [hS.1] at h1
    rw [e, ql1]
    simp (disch := omega) only [q_le]
    by_cases d : lightN a % 4 ≤ 1
    · rw [if_pos d, if_pos d]
      exact ⟨_, _, _, rfl, h1⟩
    · rw [if_neg d, if_neg d]
      exact ⟨_, _, _, rfl, h1⟩
theorem e8_has {k n : Nat} (hk : k < 2 ^ 31) (hn : n < 2 ^ 31) : f_X3_has (nI k) (nI n) = some (if k < n then 1 else 0) := by
  unfold f_X3_has
  rw [if_neg (nI_pos hk)]
  by_cases c : k < n
  · rw [if_pos c, if_neg (nI_ge c hn)]
  · rw [if_neg c, if_pos (nI_le (by omega) hk)]
theorem CE_goM (hE : CE cnt kds tr ln li cu bu a) {act : Nat} : CE cnt kds tr ln li cu bu (goM a RL act) := CE_congr hE (fun x hx _ => by rcases hx with h | h; exact goM_lt (by omega); exact goM_oth h.1 h.2)
/-- a watch in the class -/
theorem e8_pass (hB : BA a) (hE : CE cnt kds tr ln li cu bu a) (hS : CS wa ho of a) (hC : CRs kd de be st le ri RL) {act : Nat} (ha : act ≤ a 4) :
    ∃ wa' ho' of' fa', f_X3_pass (nI act) wa sc ho of cnt bu cu kds ln li (nI RL.length) be de fa kd le ri st tr = some (nI (goW a RL act), wa', sc + nI (goW a RL act), ho', of', fa') ∧ CS wa' ho' of' (goA a RL act) := by
  have h4 := hB.1
  have hM := BA_goM (RL := RL) hB act
  have hEM : CE cnt kds tr ln li cu bu (goM a RL act) := CE_goM hE
  have fin : ∀ (ho' : Int32) (of' fa' : Nat → Int32), CS wa ho' of' (goM a RL act) → ∃ wa2 ho2 of2 fa2, f_X3_pass_b32 wa sc cnt cu kds ln li (nI (goMW a RL act)) ho' of' fa' = some (nI (goW a RL act), wa2, sc + nI (goW a RL act), ho2, of2, fa2) ∧ CS wa2 ho2 of2 (goA a RL act) := by
    intro ho' of' fa' hS'
    have hmw : goMW a RL act ≤ 15 := by
      unfold goMW; split
      · exact meetW_le hB (by omega)
      · exact Nat.zero_le _
    obtain ⟨g', e1, e2⟩ := e8_pass32 (fa := fa') (sc := sc) hM hEM hS' (w := goMW a RL act) (by omega)
    refine ⟨_, _, _, _, e1, ?_, ?_, fun i hi => ?_⟩
    · unfold goA; rw [updN_at, goM_lt (by decide)]
    · rw [hS'.2.1]
      congr 1
      unfold goA offA
      exact (hb_congr (fun x h1 h2 => (updN_ne _ _ (by omega)).trans (mid_oth (by omega)))).symm
    · rw [e2 i hi]
      unfold goA
      rw [updN_ne _ _ (by omega)]
  unfold f_X3_pass
  by_cases c0 : act = 0
  · subst c0
    have e1 : f_X3_has (nI 0 - 1) cnt = some 0 := by
      unfold f_X3_has; exact if_pos (by decide)
    rw [e1, qb1, if_pos rfl]
    have f1 := fin ho of fa (by unfold goM; rw [if_neg (by omega)]; exact hS)
    rw [show goMW a RL 0 = 0 from if_neg (by omega)] at f1
    exact f1
  · have e0 : nI act - 1 = nI (act - 1) := by
      have := nI_pred (act - 1)
      rw [show act - 1 + 1 = act by omega] at this
      exact this
    have hm1 : goM a RL act = meetA a RL (act - 1) := if_pos ⟨by omega, ha⟩
    have hm2 : goMW a RL act = meetW a RL (act - 1) := if_pos ⟨by omega, ha⟩
    have b1 := hB.2.2.2.1 (act - 1) (by omega)
    rw [e0, hE.1, e8_has (by omega) (by omega), qb1, if_pos (show act - 1 < a 4 by omega), if_neg (show ¬ (1 : Int32) = 0 by decide), hS.2.1, e8_isHome hB (by omega), qb1, ql0, ← hS.2.1, ← hE.1]
    by_cases c : a (39 + 5 * (act - 1)) = 0
    · rw [c, if_pos rfl]
      obtain ⟨ho', of', fa', e2, e3⟩ := e8_obey (fa := fa) hB hE hS hC (k := act - 1) (by omega) c
      rw [e2, qb4]
      have f1 := fin ho' of' fa' (by rw [hm1]; exact e3)
      rw [hm2] at f1
      exact f1
    · rw [if_neg (by rw [q_eq (by omega) (by omega)]; exact c)]
      have m1 : meetA a RL (act - 1) = a := if_neg c
      have m2 : meetW a RL (act - 1) = 0 := if_neg c
      have f1 := fin ho of fa (by rw [hm1, m1]; exact hS)
      rw [hm2, m2] at f1
      exact f1
end EP
