/-! ===== E: the rest in the class ===== -/
section ER
variable {kd de be st le ri fa : Nat → Int32} {a : Nat → Nat} {cnt wa ho sc sc0 en : Int32} {kds tr ln li cu bu of : Nat → Int32} {RL : List RRul}
theorem CE_goA (hB : BA a) (hE : CE cnt kds tr ln li cu bu a) {act : Nat} : CE cnt kds tr ln li cu bu (goA a RL act) := CE_congr hE (fun x hx h0 => goA_oth h0 (by omega) hB.1)
theorem e8_leastL (hB : BA a) (hE : CE cnt kds tr ln li cu bu a) (hS : CS wa ho of a) (hC : CRs kd de be st le ri RL) : ∀ (d fuel j : Nat) (fa : Nat → Int32), j + d = a 4 → d < fuel →
    ∃ fa', f_X3_leastThatMayEnter_L2 wa ho of cnt bu kds ln li (nI RL.length) be de kd le ri st tr fuel (nI j) fa = some (if fmay a RL d j = 0 then -3 else nI (fmay a RL d j - 1), fa') := by
  have h4 := hB.1
  intro d
  induction d with
  | zero =>
    intro fuel j fa hj hf
    obtain ⟨n, rfl⟩ : ∃ n, fuel = n + 1 := ⟨fuel - 1, by omega⟩
    rw [f_X3_leastThatMayEnter_L2, hE.1, if_pos (nI_le (by omega) (by omega))]
    exact ⟨_, rfl⟩
  | succ d ih =>
    intro fuel j fa hj hf
    obtain ⟨n, rfl⟩ : ∃ n, fuel = n + 1 := ⟨fuel - 1, by omega⟩
    obtain ⟨fa1, hm⟩ := e8_mayEnter (fa := fa) hB hE hS hC.1 hC.2.1 hC.2.2 (k := j) (by omega)
    rw [f_X3_leastThatMayEnter_L2, hE.1, if_neg (nI_ge (by omega) (by omega)), hm, qb2, ← hE.1, ql1, q_add, qt1]
    unfold fmay
    by_cases c : may a RL j = true
    · rw [if_pos c, if_neg (by decide), if_pos c, if_neg (by omega)]
      exact ⟨_, rfl⟩
    · rw [if_neg c, if_pos rfl, if_neg c]
      exact ih n (j + 1) fa1 (by omega) (by omega)
theorem e8_least (hB : BA a) (hE : CE cnt kds tr ln li cu bu a) (hS : CS wa ho of a) (hC : CRs kd de be st le ri RL) :
    ∃ fa', f_X3_leastThatMayEnter wa ho of cnt bu kds ln li (nI RL.length) be de fa kd le ri st tr = some (if rAct a RL = 0 then -3 else nI (rAct a RL - 1), fa') := by
  have h4 := hB.1
  exact e8_leastL hB hE hS hC (a 4) 1000 0 fa (by omega) (by omega)
theorem e8_passRest (hB : BA a) (hE : CE cnt kds tr ln li cu bu a) (hS : CS wa ho of a) (hC : CRs kd de be st le ri RL) :
    ∃ wa' ho' of' fa', f_X3_passRest wa sc ho of cnt bu cu kds ln li (nI RL.length) be de fa kd le ri st tr = some (nI (goW a RL (rAct a RL)), wa', sc + nI (goW a RL (rAct a RL)), ho', of', fa') ∧ CS wa' ho' of' (goA a RL (rAct a RL)) := by
  have h4 := hB.1
  have hr := rAct_le (a := a) (RL := RL)
  obtain ⟨fa1, e1⟩ := e8_least (fa := fa) hB hE hS hC
  obtain ⟨wa2, ho2, of2, fa2, e2, e3⟩ := e8_pass (fa := fa1) (sc := sc) hB hE hS hC hr
  unfold f_X3_passRest
  rw [e1, qb2]
  by_cases c : rAct a RL = 0
  · rw [if_pos c, if_pos rfl]
    rw [show (0 : Int32) = nI (rAct a RL) by rw [c]; rfl, e2, qb6]
    exact ⟨_, _, _, _, rfl, e3⟩
  · rw [if_neg c, if_neg, ql1, q_add, show rAct a RL - 1 + 1 = rAct a RL by omega, e2, qb6]
    · exact ⟨_, _, _, _, rfl, e3⟩
    · intro hc
      have : (nI (rAct a RL - 1)).toInt = (-3 : Int32).toInt := by rw [hc]
      rw [nI_toInt (by omega)] at this
      have e : (-3 : Int32).toInt = -3 := rfl
      omega
theorem e8_isOver (hw : wa = nI (a 0)) (he : en = nI (a 1)) (hB : BA a) : f_X3_isOver wa en = some (if a 0 < a 1 then 0 else 1) := by
  have h1 := hB.2.1
  have h2 := hB.2.2.1
  unfold f_X3_isOver
  rw [hw, he]
  simp (disch := omega) only [q_lt]
  split <;> rfl
theorem e8_worthL (he : ∀ a' : Nat → Nat, a' 1 = a 1 → en = nI (a' 1)) {N : Nat} (hN : N < 1000) : ∀ (m fuel i : Nat) (b : Nat → Nat) (fa of : Nat → Int32) (wa sc ho : Int32), i + m = N → m < fuel → BA b → b 1 = a 1 → CE cnt kds tr ln li cu bu b → CS wa ho of b → CRs kd de be st le ri RL →
    ∃ fa' wa' sc' ho' of', f_X8_worthOfRest_L16 (nI N) cnt en bu cu kds ln li sc0 (nI RL.length) be de kd le ri st tr fuel (nI i) fa wa sc ho of = some (sc' - sc0, fa', wa', sc', ho', of') ∧ sc' = sc + nI (rsW RL m b) ∧ CS wa' ho' of' (rsA RL m b) := by
  intro m
  induction m with
  | zero =>
    intro fuel i b fa of wa sc ho hi hf hB hb1 hE hS hC
    obtain ⟨n, rfl⟩ : ∃ n, fuel = n + 1 := ⟨fuel - 1, by omega⟩
    rw [f_X8_worthOfRest_L16, if_pos (nI_le (by omega) (by omega))]
    exact ⟨_, _, _, _, _, rfl, by unfold rsW; exact (Int32.add_zero _).symm, hS⟩
  | succ m ih =>
    intro fuel i b fa of wa sc ho hi hf hB hb1 hE hS hC
    obtain ⟨n, rfl⟩ : ∃ n, fuel = n + 1 := ⟨fuel - 1, by omega⟩
    rw [f_X8_worthOfRest_L16, if_neg (nI_ge (by omega) (by omega)), e8_isOver hS.1 (he b hb1) hB, qb1, rsA_s, rsW_s]
    by_cases c : b 0 < b 1
    · obtain ⟨wa1, ho1, of1, fa1, e1, e2⟩ := e8_passRest (fa := fa) (sc := sc) hB hE hS hC
      rw [if_pos c, if_pos rfl, e1, qb6, ql1, q_add, qt1, if_pos c, if_pos c]
      obtain ⟨fa2, wa2, sc2, ho2, of2, e3, e4, e5⟩ := ih n (i + 1) (goA b RL (rAct b RL)) fa1 of1 wa1 (sc + nI (goW b RL (rAct b RL))) ho1 (by omega) (by omega) (BA_goA hB c) (by rw [goA_1 hB]; exact hb1) (CE_goA hB hE) e2 hC
      exact ⟨_, _, _, _, _, e3, by rw [e4, Int32.add_assoc, q_add], e5⟩
    · rw [if_neg c, if_neg (by decide), if_neg c, if_neg c]
      exact ⟨_, _, _, _, _, rfl, (Int32.add_zero _).symm, hS⟩
theorem e8_become {of0 : Nat → Int32} : f_X6_become wa sc ho of of0 = some (wa, sc, ho, va_cpy of of0 0 0 6) := by
  unfold f_X6_become chkC
  rw [if_neg (by decide)]
  rfl
theorem CS_cpy {of0 : Nat → Int32} (hS : CS wa ho of a) : CS wa ho (va_cpy of of0 0 0 6) a := by
  refine ⟨hS.1, hS.2.1, fun k hk => ?_⟩
  rw [pk_cpy_in (Nat.zero_le _) (by omega)]
  have : 0 + (k - 0) = k := by omega
  rw [this]
  exact hS.2.2 k hk
theorem e8_worth {of0 : Nat → Int32} (hB : BA a) (hE : CE cnt kds tr ln li cu bu a) (hS : CS wa ho of a) (hC : CRs kd de be st le ri RL) (he : en = nI (a 1)) {N : Nat} (hN : N ≤ 16) :
    ∃ fa' wa' sc' ho' of', f_X8_worthOfRest (nI N) cnt en bu cu kds ln li wa sc ho of (nI RL.length) be de fa kd le ri st tr of0 = some (nI (rsW RL N a), fa', wa', sc', ho', of') ∧ CS wa' ho' of' (rsA RL N a) := by
  unfold f_X8_worthOfRest
  rw [e8_become, qb4]
  obtain ⟨fa2, wa2, sc2, ho2, of2, e3, e4, e5⟩ := e8_worthL (a := a) (sc0 := sc) (en := en) (fun a' h => by rw [he, h]) (N := N) (by omega) N 1000 0 a fa (va_cpy of of0 0 0 6) wa sc ho (by omega) (by omega) hB rfl hE (CS_cpy hS) hC
  subst e4
  rw [show sc + nI (rsW RL N a) - sc = nI (rsW RL N a) by grind] at e3
  exact ⟨_, _, _, _, _, e3, e5⟩
end ER
