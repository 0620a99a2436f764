/-! ===== E: plans, what they come to ===== -/
/-- most worth and 1, how many have it, fewest acts, homes, the first plan -/
abbrev Su := Nat × Nat × Nat × Nat × List Nat
def sJ (S T : Su) : Su := (max S.1 T.1, (if S.1 = T.1 then S.2.1 + T.2.1 else if S.1 < T.1 then T.2.1 else S.2.1), min S.2.2.1 T.2.2.1, S.2.2.2.1 ||| T.2.2.2.1, if S.1 < T.1 then T.2.2.2.2 else S.2.2.2.2)
theorem sJ_assoc (S T U : Su) : sJ (sJ S T) U = sJ S (sJ T U) := by
  obtain ⟨a1, a2, a3, a4, a5⟩ := S
  obtain ⟨b1, b2, b3, b4, b5⟩ := T
  obtain ⟨c1, c2, c3, c4, c5⟩ := U
  unfold sJ
  dsimp only
  have h1 : max (max a1 b1) c1 = max a1 (max b1 c1) := by omega
  have h3 : min (min a3 b3) c3 = min a3 (min b3 c3) := by omega
  have h2 : (if max a1 b1 = c1 then (if a1 = b1 then a2 + b2 else if a1 < b1 then b2 else a2) + c2 else if max a1 b1 < c1 then c2 else if a1 = b1 then a2 + b2 else if a1 < b1 then b2 else a2) = (if a1 = max b1 c1 then a2 + (if b1 = c1 then b2 + c2 else if b1 < c1 then c2 else b2) else if a1 < max b1 c1 then (if b1 = c1 then b2 + c2 else if b1 < c1 then c2 else b2) else a2) := by
    repeat' split
    all_goals omega
  have h5 : (if max a1 b1 < c1 then c5 else if a1 < b1 then b5 else a5) = (if a1 < max b1 c1 then (if b1 < c1 then c5 else b5) else a5) := by
    by_cases x1 : a1 < b1 <;> by_cases x2 : b1 < c1 <;> by_cases x3 : a1 < c1 <;> simp only [x1, x2, if_true, if_false, Nat.max_def] <;> (repeat' split) <;> first | rfl | (exfalso; omega)
  rw [h1, h2, h3, h5, Nat.or_assoc]
def sc (m : Nat) (S : Su) : Su := (S.1, m * S.2.1, S.2.2)
theorem sc_J (m : Nat) (S T : Su) : sc m (sJ S T) = sJ (sc m S) (sc m T) := by
  unfold sc sJ
  dsimp only
  congr 2
  repeat' split
  all_goals first | rfl | rw [Nat.mul_add]
def wantB (w H : Nat) : Bool := decide (nI H &&& nI w = nI w)
theorem want_tab : ∀ w, w < 64 → ∀ H, H < 64 → (wantB w H = true ↔ nI w &&& (nI H ^^^ -1) = 0) := by decide +kernel
def leafS (w : Nat) (b : Nat → Nat) (W c : Nat) (pre : List Nat) (m : Nat) : Su := (W + 1, m, if wantB w (hb b) = true then c else 5, hb b, pre)
def sAll (s : Nat → Su) : Nat → Su
  | 0 => s 0
  | k + 1 => sJ (sAll s k) (s (k + 1))
def sSt (P : Nat → Bool) (t : Su) (s : Nat → Su) : Nat → Su
  | 0 => t
  | k + 1 => if P k = true then sJ (sSt P t s k) (s (k + 1)) else sSt P t s k
def stir (b : Nat → Nat) (RL : List RRul) (k : Nat) : Bool := decide (may b RL k = true ∨ (b (39 + 5 * k) = 0 ∧ will b RL k = 2))
def cntP (P : Nat → Bool) : Nat → Nat
  | 0 => 0
  | n + 1 => cntP P n + if P n = true then 1 else 0
theorem cntP_le (P : Nat → Bool) : ∀ n, cntP P n ≤ n := by
  intro n
  induction n with
  | zero => exact Nat.le_refl _
  | succ n ih => rw [cntP]; split <;> omega
theorem pc_tab : ∀ n, n < 6 → ∀ W, W < 2 ^ n → pc (W + 2 ^ n) = pc W + 1 := by decide +kernel
theorem pc_wm (P : Nat → Bool) : ∀ n, n ≤ 6 → pc (wm P n) = cntP P n := by
  intro n
  induction n with
  | zero => intro _; rw [wm, cntP]; decide
  | succ n ih =>
    intro hn
    rw [wm, cntP]
    by_cases c : P n = true
    · rw [if_pos c, if_pos c, pc_tab n (by omega) _ (wm_lt P n), ih (by omega)]
    · rw [if_neg c, if_neg c, Nat.add_zero, Nat.add_zero, ih (by omega)]
/-- all plans, as the reference goes -/
def sumM (RL : List RRul) (w : Nat) : Nat → (Nat → Nat) → Nat → Nat → List Nat → Su
  | 0, b, W, c, pre => leafS w b W c pre 1
  | d + 1, b, W, c, pre => sAll (fun k => sumM RL w d (goA b RL k) (W + goW b RL k) (c + if k = 0 then 0 else 1) (pre ++ [k])) (b 4)
/-- only acts that stir, and none told for all the others -/
def sumC (RL : List RRul) (w : Nat) : Nat → (Nat → Nat) → Nat → Nat → List Nat → Nat → Su
  | 0, b, W, c, pre, m => leafS w b W c pre m
  | d + 1, b, W, c, pre, m => sSt (stir b RL) (sumC RL w d (goA b RL 0) (W + goW b RL 0) c (pre ++ [0]) (m * (1 + b 4 - cntP (stir b RL) (b 4)))) (fun k => sumC RL w d (goA b RL k) (W + goW b RL k) (c + 1) (pre ++ [k]) m) (b 4)
def suR (S T : Su) : Prop := S.1 = T.1 ∧ S.2.1 = T.2.1 ∧ S.2.2.1 ≤ T.2.2.1 ∧ S.2.2.2.1 = T.2.2.2.1
theorem suR_J {S T S' T' : Su} (h1 : suR S S') (h2 : suR T T') : suR (sJ S T) (sJ S' T') := by
  obtain ⟨a1, a2, a3, a4⟩ := h1
  obtain ⟨b1, b2, b3, b4⟩ := h2
  unfold sJ suR
  dsimp only
  rw [a1, a2, a4, b1, b2, b4]
  exact ⟨rfl, rfl, by omega, rfl⟩
theorem suR_all {s t : Nat → Su} (h : ∀ k, suR (s k) (t k)) : ∀ n, suR (sAll s n) (sAll t n) := by
  intro n
  induction n with
  | zero => exact h 0
  | succ n ih => exact suR_J ih (h (n + 1))
theorem sumM_R (RL : List RRul) (w : Nat) : ∀ (d : Nat) (b : Nat → Nat) (W c c' : Nat) (pre pre' : List Nat), c ≤ c' → suR (sumM RL w d b W c pre) (sumM RL w d b W c' pre') := by
  intro d
  induction d with
  | zero =>
    intro b W c c' pre pre' h
    refine ⟨rfl, rfl, ?_, rfl⟩
    show (if _ then c else 5) ≤ (if _ then c' else 5)
    split <;> omega
  | succ d ih =>
    intro b W c c' pre pre' h
    exact suR_all (fun k => ih _ _ _ _ _ _ (by omega)) _
theorem stir_no {b : Nat → Nat} {RL : List RRul} {k : Nat} (hk : k < b 4) (h : ¬ stir b RL k = true) : goA b RL (k + 1) = goA b RL 0 ∧ goW b RL (k + 1) = goW b RL 0 := by
  have h' : ¬ (may b RL k = true ∨ (b (39 + 5 * k) = 0 ∧ will b RL k = 2)) := fun g => h (decide_eq_true g)
  have h1 : ¬ (inR b k (b (37 + 5 * k)) ∧ will b RL k = 0) := fun g => h' (Or.inl (decide_eq_true g))
  have h2 : ¬ (b (39 + 5 * k) = 0 ∧ will b RL k = 2) := fun g => h' (Or.inr g)
  have e1 : goM b RL (k + 1) = goM b RL 0 := by
    unfold goM
    rw [if_pos ⟨by omega, by omega⟩, if_neg (fun g => absurd g.1 (by decide)), Nat.add_sub_cancel]
    unfold meetA
    by_cases c : b (39 + 5 * k) = 0
    · rw [if_pos c]
      by_cases c2 : will b RL k = 0
      · rw [if_pos c2, if_neg (fun g => h1 ⟨g, c2⟩)]
      · rw [if_neg c2, if_neg (fun g => h2 ⟨c, g⟩)]
    · rw [if_neg c]
  have e2 : goMW b RL (k + 1) = goMW b RL 0 := by
    unfold goMW
    rw [if_pos ⟨by omega, by omega⟩, if_neg (fun g => absurd g.1 (by decide)), Nat.add_sub_cancel]
    unfold meetW pay
    by_cases c : b (39 + 5 * k) = 0
    · rw [if_pos c]
      by_cases c2 : will b RL k = 0
      · rw [if_pos c2, if_neg (fun g => h1 ⟨g, c2⟩)]
      · rw [if_neg c2, if_neg (fun g => h2 ⟨c, g⟩)]
    · rw [if_neg c]
  unfold goA goW
  rw [e1, e2]
  exact ⟨rfl, rfl⟩
def bump (e m0 : Nat) (X : Su) : Su := (X.1, (if X.1 = m0 then X.2.1 + e else X.2.1), X.2.2)
theorem bump_J {e m0 : Nat} {X T : Su} (h : m0 ≤ X.1) : sJ (bump e m0 X) T = bump e m0 (sJ X T) := by
  obtain ⟨a1, a2, a3⟩ := X
  obtain ⟨b1, b2, b3⟩ := T
  unfold bump sJ
  dsimp only at h ⊢
  congr 2
  repeat' split
  all_goals omega
theorem sSt_le {P : Nat → Bool} {t : Su} {s : Nat → Su} : ∀ k, t.1 ≤ (sSt P t s k).1 := by
  intro k
  induction k with
  | zero => exact Nat.le_refl _
  | succ k ih =>
    rw [sSt]
    split
    · exact Nat.le_trans ih (Nat.le_max_left _ _)
    · exact ih
theorem sSt_bump {P : Nat → Bool} {t : Su} {s : Nat → Su} {e : Nat} : ∀ k, sSt P (bump e t.1 t) s k = bump e t.1 (sSt P t s k) := by
  intro k
  induction k with
  | zero => rfl
  | succ k ih =>
    rw [sSt, sSt]
    split
    · rw [ih, bump_J (sSt_le k)]
    · exact ih
theorem sAll_in {s : Nat → Su} : ∀ k, (s 0).1 ≤ (sAll s k).1 ∧ (sAll s k).2.2.1 ≤ (s 0).2.2.1 ∧ (sAll s k).2.2.2.1 ||| (s 0).2.2.2.1 = (sAll s k).2.2.2.1 := by
  intro k
  induction k with
  | zero => exact ⟨Nat.le_refl _, Nat.le_refl _, Nat.or_self _⟩
  | succ k ih =>
    obtain ⟨i1, i2, i3⟩ := ih
    refine ⟨Nat.le_trans i1 (Nat.le_max_left _ _), Nat.le_trans (Nat.min_le_left _ _) i2, ?_⟩
    show ((sAll s k).2.2.2.1 ||| (s (k + 1)).2.2.2.1) ||| (s 0).2.2.2.1 = (sAll s k).2.2.2.1 ||| (s (k + 1)).2.2.2.1
    rw [Nat.or_assoc, Nat.or_comm (s (k + 1)).2.2.2.1, ← Nat.or_assoc, i3]
theorem J_bump {X S T : Su} (h1 : S.1 ≤ X.1) (h2 : X.2.2.1 ≤ S.2.2.1) (h3 : X.2.2.2.1 ||| S.2.2.2.1 = X.2.2.2.1) (h : suR S T) : sJ X T = bump S.2.1 S.1 X := by
  obtain ⟨g1, g2, g3, g4⟩ := h
  obtain ⟨a1, a2, a3, a4, a5⟩ := X
  unfold sJ bump
  dsimp only at h1 h2 h3 ⊢
  rw [← g1, ← g2, ← g4, h3, Nat.max_eq_left h1, Nat.min_eq_left (Nat.le_trans h2 g3), if_neg (Nat.not_lt.mpr h1)]
  rw [if_neg (Nat.not_lt.mpr h1)]
/-- both come to the same -/
theorem sumC_M (RL : List RRul) (w : Nat) : ∀ (d : Nat) (b : Nat → Nat) (W c : Nat) (pre : List Nat) (m : Nat), sumC RL w d b W c pre m = sc m (sumM RL w d b W c pre) := by
  intro d
  induction d with
  | zero =>
    intro b W c pre m
    show leafS w b W c pre m = sc m (leafS w b W c pre 1)
    unfold leafS sc
    rw [Nat.mul_one]
  | succ d ih =>
    intro b W c pre m
    rw [sumC, sumM]
    obtain ⟨s, hs⟩ : ∃ s : Nat → Su, s = fun k => sumM RL w d (goA b RL k) (W + goW b RL k) (c + if k = 0 then 0 else 1) (pre ++ [k]) := ⟨_, rfl⟩
    have e0 : sumC RL w d (goA b RL 0) (W + goW b RL 0) c (pre ++ [0]) (m * (1 + b 4 - cntP (stir b RL) (b 4))) = sc (m * (1 + b 4 - cntP (stir b RL) (b 4))) (s 0) := by
      rw [ih, hs]; rfl
    rw [e0, ← hs]
    have step : ∀ k, k ≤ b 4 → sSt (stir b RL) (sc (m * (1 + k - cntP (stir b RL) k)) (s 0)) (fun k => sumC RL w d (goA b RL k) (W + goW b RL k) (c + 1) (pre ++ [k]) m) k = sc m (sAll s k) := by
      intro k
      induction k with
      | zero =>
        intro _
        show sc (m * 1) (s 0) = _
        rw [Nat.mul_one]; rfl
      | succ k ihk =>
        intro hk
        have i := ihk (by omega)
        have hc := cntP_le (stir b RL) k
        rw [sAll]
        by_cases c1 : stir b RL k = true
        · rw [sSt, if_pos c1, show 1 + (k + 1) - cntP (stir b RL) (k + 1) = 1 + k - cntP (stir b RL) k by rw [cntP, if_pos c1]; omega, i, sc_J]
          congr 1
          rw [ih, hs]
          show sc m _ = sc m (sumM RL w d (goA b RL (k + 1)) (W + goW b RL (k + 1)) (c + if k + 1 = 0 then 0 else 1) (pre ++ [k + 1]))
          rw [if_neg (by omega)]
        · rw [sSt, if_neg c1, show 1 + (k + 1) - cntP (stir b RL) (k + 1) = 1 + k - cntP (stir b RL) k + 1 by rw [cntP, if_neg c1]; omega]
          have e1 : sc (m * (1 + k - cntP (stir b RL) k + 1)) (s 0) = bump (m * (s 0).2.1) (sc (m * (1 + k - cntP (stir b RL) k)) (s 0)).1 (sc (m * (1 + k - cntP (stir b RL) k)) (s 0)) := by
            unfold sc bump
            dsimp only
            rw [if_pos rfl, Nat.mul_add, Nat.mul_one, Nat.add_mul]
          rw [e1, sSt_bump, i]
          obtain ⟨g1, g2⟩ := stir_no (show k < b 4 by omega) c1
          obtain ⟨n1, n2, n3⟩ := sAll_in (s := s) k
          have r : suR (s 0) (s (k + 1)) := by
            rw [hs]
            show suR (sumM RL w d (goA b RL 0) (W + goW b RL 0) (c + if 0 = 0 then 0 else 1) (pre ++ [0])) (sumM RL w d (goA b RL (k + 1)) (W + goW b RL (k + 1)) (c + if k + 1 = 0 then 0 else 1) (pre ++ [k + 1]))
            rw [g1, g2, if_pos rfl, if_neg (by omega)]
            exact sumM_R RL w d _ _ _ _ _ _ (by omega)
          rw [J_bump n1 n2 n3 r]
          unfold bump sc
          dsimp only
          congr 2
          split
          · rw [Nat.mul_add]
          · rfl
    exact step (b 4) (Nat.le_refl _)
