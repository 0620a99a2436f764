/-! ===== E: plans, the class's pieces ===== -/
def fI (f : Nat) : Int32 := if f = 5 then -3 else nI f
def StC (L : Nat) (S : Su) (best ways fewest ever : Int32) (first : Nat → Int32) : Prop := best = nI S.1 - 1 ∧ ways = nI S.2.1 ∧ fewest = fI S.2.2.1 ∧ ever = nI S.2.2.2.1 ∧ S.1 < 2 ^ 29 ∧ S.2.2.1 ≤ 5 ∧ S.2.2.2.1 < 64 ∧ (0 < S.1 → plR L S.2.2.2.2 first)
def sFromS (P : Nat → Bool) (s : Nat → Su) : Nat → Nat → Su → Su
  | 0, _, X => X
  | d + 1, k, X => sFromS P s d (k + 1) (if P k = true then sJ X (s (k + 1)) else X)
theorem sFromS_all (P : Nat → Bool) (s : Nat → Su) (t S : Su) : ∀ (d k : Nat), sFromS P s d k (sJ S (sSt P t s k)) = sJ S (sSt P t s (k + d)) := by
  intro d
  induction d with
  | zero => intro k; rfl
  | succ d ih =>
    intro k
    rw [sFromS]
    have e : (if P k = true then sJ (sJ S (sSt P t s k)) (s (k + 1)) else sJ S (sSt P t s k)) = sJ S (sSt P t s (k + 1)) := by
      rw [sSt]
      by_cases c : P k = true
      · rw [if_pos c, if_pos c, sJ_assoc]
      · rw [if_neg c, if_neg c]
    rw [e, ih, show k + 1 + d = k + (d + 1) by omega]
section EM
variable {kd de be st le ri fa : Nat → Int32} {b : Nat → Nat} {cnt wa ho sc0 : Int32} {kds tr ln li cu bu of : Nat → Int32} {RL : List RRul}
theorem e8_stirring (hB : BA b) (hE : CE cnt kds tr ln li cu bu b) (hS : CS wa ho of b) (hC : CRs kd de be st le ri RL) : ∃ fa', f_X3_stirring wa ho of cnt bu kds ln li (nI RL.length) be de fa kd le ri st tr = some (nI (wm (stir b RL) (b 4)), fa') := by
  have h4 := hB.1
  have loop : ∀ (d fuel k : Nat) (fa : Nat → Int32), k + d = b 4 → d < fuel → ∃ fa', f_X3_stirring_L4 wa ho of cnt bu kds ln li (nI RL.length) be de kd le ri st tr fuel (nI (wm (stir b RL) k)) (nI k) fa = some (nI (wm (stir b RL) (b 4)), fa') := by
    intro d
    induction d with
    | zero =>
      intro fuel k fa hk hf
      obtain ⟨n, rfl⟩ : ∃ n, fuel = n + 1 := ⟨fuel - 1, by omega⟩
      rw [f_X3_stirring_L4, hE.1, if_pos (nI_le (by omega) (by omega)), show k = b 4 by omega]
      exact ⟨_, rfl⟩
    | succ d ih =>
      intro fuel k fa hk hf
      obtain ⟨n, rfl⟩ : ∃ n, fuel = n + 1 := ⟨fuel - 1, by omega⟩
      have b1 := hB.2.2.2.1 k (by omega)
      obtain ⟨fa1, e1⟩ := e8_mayEnter (fa := fa) hB hE hS hC.1 hC.2.1 hC.2.2 (show k < 6 by omega)
      rw [f_X3_stirring_L4, hE.1, if_neg (nI_ge (by omega) (by omega)), ← hE.1, e1, qb2]
      have yes : stir b RL k = true → ∀ fa, ∃ fa', f_X3_stirring_b39 (f_X3_stirring_L4 wa ho of cnt bu kds ln li (nI RL.length) be de kd le ri st tr n) (nI (wm (stir b RL) k)) (nI k) fa = some (nI (wm (stir b RL) (b 4)), fa') := by
        intro hst fa
        obtain ⟨fa', e⟩ := ih n (k + 1) fa (by omega) (by omega)
        rw [wm, if_pos hst] at e
        unfold f_X3_stirring_b39
        rw [q_or k (by omega) _ (wm_lt _ k), qt1, qt1, show nI k + 1 = nI (k + 1) from q_add k 1]
        exact ⟨fa', e⟩
      have no : ¬ stir b RL k = true → ∀ fa, ∃ fa', f_X3_stirring_L4 wa ho of cnt bu kds ln li (nI RL.length) be de kd le ri st tr n (nI (wm (stir b RL) k)) (nI (k + 1)) fa = some (nI (wm (stir b RL) (b 4)), fa') := by
        intro hst fa
        obtain ⟨fa', e⟩ := ih n (k + 1) fa (by omega) (by omega)
        rw [wm, if_neg hst, Nat.add_zero] at e
        exact ⟨fa', e⟩
      by_cases c1 : may b RL k = true
      · rw [if_pos c1, if_neg n10]
        exact yes (decide_eq_true (Or.inl c1)) fa1
      · rw [if_neg c1, if_pos rfl, hS.2.1, e8_isHome hB (show k < 6 by omega), qb1, ← hS.2.1, qt1, show nI k + 1 = nI (k + 1) from q_add k 1]
        by_cases c2 : b (39 + 5 * k) = 0
        · obtain ⟨fa2, e2⟩ := e8_will (fa := fa1) hB hE hS hC.1 hC.2.1 hC.2.2 (show k < 6 by omega)
          have hwl : will b RL k < 2 ^ 31 := by
            have : ∀ (RL : List RRul) (f : Nat → Nat) (x : Nat), (∀ r, r ∈ RL → r.2.1 ≤ 2) → willL f x RL ≤ 2 := by
              intro RL
              induction RL with
              | nil => intro f x _; exact Nat.zero_le _
              | cons r t ih =>
                intro f x h
                rw [willL_c]
                split
                · exact h r (List.mem_cons_self ..)
                · exact ih f x (fun r hr => h r (List.mem_cons_of_mem _ hr))
            have := this RL (fact b k) (b (35 + 5 * k)) (fun r hr => (hC.2.1 r hr).2.1)
            unfold will
            omega
          rw [if_pos (show nI (b (39 + 5 * k)) = 0 by rw [c2]; rfl), e2, qb2, qt1]
          by_cases c3 : will b RL k = 2
          · rw [if_pos (by rw [c3]; rfl)]
            exact yes (decide_eq_true (Or.inr ⟨c2, c3⟩)) fa2
          · rw [if_neg (by rw [ql2, q_eq hwl (by decide)]; exact c3)]
            exact no (fun g => (of_decide_eq_true g).elim c1 (fun h => c3 h.2)) fa2
        · rw [if_neg (nI_ne0 (by omega) (by omega))]
          exact no (fun g => (of_decide_eq_true g).elim c1 (fun h => c2 h.1)) fa1
  unfold f_X3_stirring
  exact loop (b 4) 1000 0 fa (by omega) (by omega)
theorem e8_weigh (hB : BA b) {S : Su} {L W c m w : Nat} {pre : List Nat} {best ways fewest ever : Int32} {first acts : Nat → Int32} (hS : StC L S best ways fewest ever first) (hL : L ≤ 4) (hW : W < 2 ^ 28) (hc : c ≤ 4) (hpl : plR L pre acts) : ∃ best' ways' fewest' ever' first', f_X1_weigh (nI c) (nI m) (nI W) (nI (hb b)) (nI w) best ways fewest ever acts first = some (best', ways', fewest', ever', first') ∧ StC L (sJ S (leafS w b W c pre m)) best' ways' fewest' ever' first' := by
  obtain ⟨rfl, rfl, rfl, rfl, h1, h2, h3, h4⟩ := hS
  have hH := hb_lt hB
  obtain ⟨o1, o2, -⟩ := or_tab _ h3 _ hH
  obtain ⟨q1, q2⟩ := q_mm (W := W) (m := S.1) (by omega) (by omega)
  have fin : ∀ (M n : Nat) (bp : Nat → Int32), M < 2 ^ 29 → W + 1 ≤ M → ∃ most' many' few' ever', f_X1_weigh_b32 (nI c) (nI m) (nI W) (nI (hb b)) (nI w) (fI S.2.2.1) (nI S.2.2.2.1) (nI M - 1) (nI n) bp = some (most', many', few', ever', bp) ∧ most' = nI M - 1 ∧ many' = nI (n + if W + 1 = M then m else 0) ∧ few' = fI (min S.2.2.1 (if wantB w (hb b) = true then c else 5)) ∧ ever' = nI (S.2.2.2.1 ||| hb b) := by
    intro M n bp hM2 hWM
    obtain ⟨r1, r2⟩ := q_mm (W := W) (m := M) (by omega) (by omega)
    have key : ∀ k : Nat, ∃ few' ever', f_X1_weigh_b50 (nI c) (nI (hb b)) (nI w) (fI S.2.2.1) (nI S.2.2.2.1) (nI M - 1) (nI k) bp = some (nI M - 1, nI k, few', ever', bp) ∧ few' = fI (min S.2.2.1 (if wantB w (hb b) = true then c else 5)) ∧ ever' = nI (S.2.2.2.1 ||| hb b) := by
      intro k
      unfold f_X1_weigh_b50 f_X1_weigh_b81
      rw [o1, qt1, qt1]
      have fc : fI c = nI c := if_neg (by omega)
      by_cases c1 : wantB w (hb b) = true
      · rw [if_pos (of_decide_eq_true c1), if_pos c1]
        by_cases c2 : S.2.2.1 = 5
        · rw [c2, if_pos (show fI 5 = -3 from rfl), Nat.min_eq_right (by omega), fc]; exact ⟨_, _, rfl, rfl, rfl⟩
        · have ff : fI S.2.2.1 = nI S.2.2.1 := if_neg c2
          have nf : ¬ nI S.2.2.1 = -3 := fun g => by
            have := nI_pos' (show S.2.2.1 < 2 ^ 31 by omega)
            rw [g] at this
            exact absurd this (by decide)
          rw [ff, if_neg nf]
          by_cases c3 : S.2.2.1 ≤ c
          · rw [if_pos (nI_le c3 (by omega)), Nat.min_eq_left c3, ff]; exact ⟨_, _, rfl, rfl, rfl⟩
          · rw [if_neg (nI_ge (by omega) (by omega)), Nat.min_eq_right (by omega), fc]; exact ⟨_, _, rfl, rfl, rfl⟩
      · rw [if_neg (fun g => c1 (decide_eq_true g)), if_neg c1, Nat.min_eq_left h2]; exact ⟨_, _, rfl, rfl, rfl⟩
    unfold f_X1_weigh_b32
    by_cases c3 : W + 1 = M
    · rw [if_pos (r2.mpr c3), if_pos c3, q_add, qt1]
      obtain ⟨f, e, k1, k2, k3⟩ := key (n + m)
      exact ⟨_, _, _, _, k1, rfl, rfl, k2, k3⟩
    · rw [if_neg (fun g => c3 (r2.mp g)), if_neg c3, Nat.add_zero]
      obtain ⟨f, e, k1, k2, k3⟩ := key n
      exact ⟨_, _, _, _, k1, rfl, rfl, k2, k3⟩
  have hmin : min S.2.2.1 (if wantB w (hb b) = true then c else 5) ≤ 5 := by omega
  unfold f_X1_weigh
  by_cases c0 : W + 1 ≤ S.1
  · rw [if_pos (q1.mpr c0)]
    obtain ⟨most', many', few', ever', e, g1, g2, g3, g4⟩ := fin S.1 S.2.1 first h1 c0
    refine ⟨_, _, _, _, _, e, ?_⟩
    unfold sJ leafS
    refine ⟨?_, ?_, g3, g4, ?_, hmin, o2, ?_⟩
    · dsimp only; rw [g1, Nat.max_eq_left c0]
    · dsimp only
      rw [g2]
      by_cases c3 : W + 1 = S.1
      · rw [if_pos c3, if_pos c3.symm]
      · rw [if_neg c3, if_neg (fun g => c3 g.symm), if_neg (by omega)]; rfl
    · dsimp only; omega
    · dsimp only
      intro _
      rw [if_neg (by omega)]
      exact h4 (by omega)
  · rw [if_neg (fun g => c0 (q1.mp g)), q_chkC (by decide) (by decide)]
    have eW : nI W = nI (W + 1) - 1 := (q_sub (a := W + 1) (b := 1) (by omega)).symm
    obtain ⟨most', many', few', ever', e, g1, g2, g3, g4⟩ := fin (W + 1) 0 (va_cpy acts first (0 : Int32).toNatClampNeg (0 : Int32).toNatClampNeg (4 : Int32).toNatClampNeg) (by omega) (Nat.le_refl _)
    rw [← eW] at e g1
    refine ⟨_, _, _, _, _, e, ?_⟩
    unfold sJ leafS
    refine ⟨?_, ?_, g3, g4, ?_, hmin, o2, ?_⟩
    · dsimp only; rw [g1, Nat.max_eq_right (by omega)]; exact eW
    · dsimp only
      rw [g2, if_pos rfl, if_neg (by omega), if_pos (by omega), Nat.zero_add]
    · dsimp only; omega
    · dsimp only
      intro _
      rw [if_pos (by omega)]
      intro i hi
      rw [q_cpy i (by rw [show (4 : Int32).toNatClampNeg = 4 from rfl]; omega)]; exact hpl i hi
end EM
