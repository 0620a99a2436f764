/-! ===== E: plans, the reference ===== -/
theorem q_mm {W m : Nat} (hW : W < 2 ^ 30) (hm : m < 2 ^ 30) : (nI W ≤ nI m - 1 ↔ W + 1 ≤ m) ∧ (nI W = nI m - 1 ↔ W + 1 = m) := by
  by_cases c : m = 0
  · subst c
    have e : nI 0 - 1 = (-1 : Int32) := rfl
    rw [e]
    refine ⟨⟨fun h => absurd (Int32.le_trans (nI_pos' (by omega)) h) (by decide), fun h => absurd h (by omega)⟩, ⟨fun h => ?_, fun h => absurd h (by omega)⟩⟩
    have := nI_pos' (show W < 2 ^ 31 by omega)
    rw [h] at this
    exact absurd this (by decide)
  · have e : nI m - 1 = nI (m - 1) := q_sub (a := m) (b := 1) (by omega)
    rw [e, q_le (by omega) (by omega), q_eq (by omega) (by omega)]
    omega
def plR (L : Nat) (p : List Nat) (f : Nat → Int32) : Prop := ∀ i, i < L → f i = nI (p.getD i 0)
def StM (L : Nat) (S : Su) (most many few ever : Int32) (bp : Nat → Int32) : Prop := most = nI S.1 - 1 ∧ many = nI S.2.1 ∧ few = nI S.2.2.1 ∧ ever = nI S.2.2.2.1 ∧ S.1 < 2 ^ 29 ∧ S.2.2.1 ≤ 5 ∧ S.2.2.2.1 < 64 ∧ (0 < S.1 → plR L S.2.2.2.2 bp)
def sFrom (s : Nat → Su) : Nat → Nat → Su → Su
  | 0, _, X => X
  | d + 1, k, X => sFrom s d (k + 1) (sJ X (s k))
theorem sFrom_all (s : Nat → Su) : ∀ (d k : Nat) (X : Su), sFrom s (d + 1) k X = sJ X (sAll (fun i => s (k + i)) d) := by
  intro d
  induction d with
  | zero => intro k X; rfl
  | succ d ih =>
    intro k X
    rw [sFrom, ih, sJ_assoc]
    congr 1
    have : ∀ n, sJ (s k) (sAll (fun i => s (k + 1 + i)) n) = sAll (fun i => s (k + i)) (n + 1) := by
      intro n
      induction n with
      | zero => rfl
      | succ n ihn =>
        rw [sAll, ← sJ_assoc, ihn, sAll]
        congr 2
        omega
    exact this d
section EK
variable {RL : List RRul} {b : Nat → Nat} {s T : Nat → Int32} {sc0 z0 : Int32} {w : Nat}
theorem e9_endsPlan (hB : BA b) (hM : MS s b sc0 z0 T) {S : Su} {L W c : Nat} {pre : List Nat} {most many few ever : Int32} {bp pl : Nat → Int32} (hS : StM L S most many few ever bp) (hL : L ≤ 4) (hW : W < 2 ^ 28) (hc : c ≤ 4) (hw : w < 64) (hpl : plR L pre pl) : ∃ most' many' few' ever' bp', f_X9_endsPlan (nI L) (nI W) (nI c) (nI w) most many few ever bp pl s = some (most', many', few', ever', bp') ∧ StM L (sJ S (leafS w b W c pre 1)) most' many' few' ever' bp' := by
  obtain ⟨rfl, rfl, rfl, rfl, h1, h2, h3, h4⟩ := hS
  have hH := hb_lt hB
  obtain ⟨o1, o2, -⟩ := or_tab _ h3 _ hH
  obtain ⟨q1, q2⟩ := q_mm (W := W) (m := S.1) (by omega) (by omega)
  -- the counting part, with the first best one there
  have fin : ∀ (M n : Nat) (bp : Nat → Int32), M < 2 ^ 29 → W + 1 ≤ M → ∃ most' many' few' ever', f_X9_endsPlan_b47 (nI W) (nI c) (nI w) (nI S.2.2.1) (nI S.2.2.2.1) s (nI M - 1) (nI n) bp = some (most', many', few', ever', bp) ∧ most' = nI M - 1 ∧ many' = nI (n + if W + 1 = M then 1 else 0) ∧ few' = nI (min S.2.2.1 (if wantB w (hb b) = true then c else 5)) ∧ ever' = nI (S.2.2.2.1 ||| hb b) := by
    intro M n bp hM2 hWM
    obtain ⟨r1, r2⟩ := q_mm (W := W) (m := M) (by omega) (by omega)
    have key : ∀ k : Nat, ∃ few' ever', f_X9_endsPlan_b65 (nI c) (nI w) (nI S.2.2.1) (nI S.2.2.2.1) s (nI n) (nI k) (nI M - 1) (nI n) bp = some (nI M - 1, nI (n + k), few', ever', bp) ∧ few' = nI (min S.2.2.1 (if wantB w (hb b) = true then c else 5)) ∧ ever' = nI (S.2.2.2.1 ||| hb b) := by
      intro k
      unfold f_X9_endsPlan_b65 f_X9_endsPlan_b99
      rw [q_add, qt1, e9_those hB hM.1, qb1, o1, qt1, qt1]
      by_cases c1 : wantB w (hb b) = true
      · rw [if_pos ((want_tab w hw _ hH).mp c1), if_pos c1]
        by_cases c2 : S.2.2.1 ≤ c
        · rw [if_pos (nI_le c2 (by omega)), Nat.min_eq_left c2]; exact ⟨_, _, rfl, rfl, rfl⟩
        · rw [if_neg (nI_ge (by omega) (by omega)), Nat.min_eq_right (by omega)]; exact ⟨_, _, rfl, rfl, rfl⟩
      · rw [if_neg (fun g => c1 ((want_tab w hw _ hH).mpr g)), if_neg c1, Nat.min_eq_left h2]; exact ⟨_, _, rfl, rfl, rfl⟩
    unfold f_X9_endsPlan_b47
    by_cases c3 : W + 1 = M
    · rw [if_pos (r2.mpr c3), if_pos c3]
      obtain ⟨f, e, k1, k2, k3⟩ := key 1
      exact ⟨_, _, _, _, k1, rfl, rfl, k2, k3⟩
    · rw [if_neg (fun g => c3 (r2.mp g)), if_neg c3]
      obtain ⟨f, e, k1, k2, k3⟩ := key 0
      exact ⟨_, _, _, _, k1, rfl, rfl, k2, k3⟩
  have hmin : min S.2.2.1 (if wantB w (hb b) = true then c else 5) ≤ 5 := by omega
  unfold f_X9_endsPlan
  by_cases c0 : W + 1 ≤ S.1
  · rw [if_pos (q1.mpr c0)]
    obtain ⟨most', many', few', ever', e, g1, g2, g3, g4⟩ := fin S.1 S.2.1 bp h1 c0
    refine ⟨_, _, _, _, _, e, ?_⟩
    unfold sJ leafS
    refine ⟨?_, ?_, g3, g4, ?_, hmin, o2, ?_⟩
    · dsimp only; rw [g1, Nat.max_eq_left c0]
    · dsimp only
      rw [g2]
      by_cases c3 : W + 1 = S.1
      · rw [if_pos c3, if_pos c3.symm]
      · rw [if_neg c3, if_neg (fun g => c3 g.symm), if_neg (by omega)]; rfl
    · dsimp only; omega
    · dsimp only
      intro _
      rw [if_neg (by omega)]
      exact h4 (by omega)
  · rw [if_neg (fun g => c0 (q1.mp g))]
    have loop : ∀ (d fuel i : Nat) (g : Nat → Int32), i + d = L → d < fuel → (∀ j, j < i → g j = pl j) → ∃ g', f_X9_endsPlan_L21 (nI L) (nI W) (nI c) (nI w) (nI S.2.2.1) (nI S.2.2.2.1) pl s fuel (nI i) (nI W) 0 g = f_X9_endsPlan_b47 (nI W) (nI c) (nI w) (nI S.2.2.1) (nI S.2.2.2.1) s (nI W) 0 g' ∧ ∀ j, j < L → g' j = pl j := by
      intro d
      induction d with
      | zero =>
        intro fuel i g hi hf hg
        obtain ⟨n, rfl⟩ : ∃ n, fuel = n + 1 := ⟨fuel - 1, by omega⟩
        rw [f_X9_endsPlan_L21, if_pos (nI_le (by omega) (by omega))]
        exact ⟨g, rfl, fun j hj => hg j (by omega)⟩
      | succ d ih =>
        intro fuel i g hi hf hg
        obtain ⟨n, rfl⟩ : ∃ n, fuel = n + 1 := ⟨fuel - 1, by omega⟩
        rw [f_X9_endsPlan_L21, if_neg (nI_ge (by omega) (by omega)), qcI (show i < 4 by omega) (by decide), qt1, qcI (show i < 4 by omega) (by decide), qt1, q_cl (by omega), show nI i + 1 = nI (i + 1) from q_add i 1]
        refine ih n (i + 1) _ (by omega) (by omega) (fun j hj => ?_)
        unfold upd
        by_cases c : j = i
        · rw [if_pos c, c]
        · rw [if_neg c]; exact hg j (by omega)
    obtain ⟨g', e1, hg⟩ := loop L 1000 0 bp (by omega) (by omega) (fun j hj => absurd hj (Nat.not_lt_zero _))
    have e1' : f_X9_endsPlan_L21 (nI L) (nI W) (nI c) (nI w) (nI S.2.2.1) (nI S.2.2.2.1) pl s 1000 0 (nI W) 0 bp = f_X9_endsPlan_b47 (nI W) (nI c) (nI w) (nI S.2.2.1) (nI S.2.2.2.1) s (nI W) 0 g' := e1
    have eW : nI W = nI (W + 1) - 1 := (q_sub (a := W + 1) (b := 1) (by omega)).symm
    obtain ⟨most', many', few', ever', e, g1, g2, g3, g4⟩ := fin (W + 1) 0 g' (by omega) (Nat.le_refl _)
    rw [← eW] at e g1
    rw [e1']
    refine ⟨_, _, _, _, _, e, ?_⟩
    unfold sJ leafS
    refine ⟨?_, ?_, g3, g4, ?_, hmin, o2, ?_⟩
    · dsimp only; rw [g1, Nat.max_eq_right (by omega)]; exact eW
    · dsimp only
      rw [g2, if_pos rfl, if_neg (by omega), if_pos (by omega)]
    · dsimp only; omega
    · dsimp only
      intro _
      rw [if_pos (by omega)]
      intro i hi
      rw [hg i hi]; exact hpl i hi
theorem e9_saves {t : Nat} (ht : t ≤ 4) (sv : Nat → Int32) : ∃ sv', f_X9_saves (nI t) s sv = some sv' ∧ (∀ i, i < 65 → sv' (65 * t + i) = s i) ∧ ∀ j, j < 65 * t → sv' j = sv j := by
  have loop : ∀ (d fuel i : Nat) (g : Nat → Int32), i + d = 65 → d < fuel → (∀ j, j < i → g (65 * t + j) = s j) → (∀ j, j < 65 * t → g j = sv j) → ∃ g', f_X9_saves_L2 (nI t) s fuel (nI i) g = some g' ∧ (∀ i, i < 65 → g' (65 * t + i) = s i) ∧ ∀ j, j < 65 * t → g' j = sv j := by
    intro d
    induction d with
    | zero =>
      intro fuel i g hi hf h1 h2
      obtain ⟨n, rfl⟩ : ∃ n, fuel = n + 1 := ⟨fuel - 1, by omega⟩
      rw [f_X9_saves_L2, ql65, if_pos (nI_le (by omega) (by omega))]
      exact ⟨g, rfl, fun j hj => h1 j (by omega), h2⟩
    | succ d ih =>
      intro fuel i g hi hf h1 h2
      obtain ⟨n, rfl⟩ : ∃ n, fuel = n + 1 := ⟨fuel - 1, by omega⟩
      rw [f_X9_saves_L2, ql65, if_neg (nI_ge (by omega) (by omega)), qcI (show i < 313 by omega) (by decide), qt1, q_mul, q_add, qcI (show 65 * t + i < 325 by omega) (by decide), qt1, q_cl (by omega), q_cl (by omega), show nI i + 1 = nI (i + 1) from q_add i 1]
      refine ih n (i + 1) _ (by omega) (by omega) (fun j hj => ?_) (fun j hj => ?_)
      · unfold upd
        by_cases c : j = i
        · rw [if_pos (by omega), c]
        · rw [if_neg (by omega)]; exact h1 j (by omega)
      · unfold upd
        rw [if_neg (by omega)]; exact h2 j hj
  exact loop 65 1000 0 sv (by omega) (by omega) (fun j hj => absurd hj (Nat.not_lt_zero _)) (fun j hj => rfl)
theorem e9_restores {t : Nat} (ht : t ≤ 4) (sv : Nat → Int32) : ∃ s', f_X9_restores (nI t) s sv = some s' ∧ (∀ i, i < 65 → s' i = sv (65 * t + i)) ∧ ∀ i, 65 ≤ i → s' i = s i := by
  have loop : ∀ (d fuel i : Nat) (g : Nat → Int32), i + d = 65 → d < fuel → (∀ j, j < i → g j = sv (65 * t + j)) → (∀ j, 65 ≤ j → g j = s j) → ∃ s', f_X9_restores_L2 (nI t) sv fuel (nI i) g = some s' ∧ (∀ i, i < 65 → s' i = sv (65 * t + i)) ∧ ∀ i, 65 ≤ i → s' i = s i := by
    intro d
    induction d with
    | zero =>
      intro fuel i g hi hf h1 h2
      obtain ⟨n, rfl⟩ : ∃ n, fuel = n + 1 := ⟨fuel - 1, by omega⟩
      rw [f_X9_restores_L2, ql65, if_pos (nI_le (by omega) (by omega))]
      exact ⟨g, rfl, fun j hj => h1 j (by omega), h2⟩
    | succ d ih =>
      intro fuel i g hi hf h1 h2
      obtain ⟨n, rfl⟩ : ∃ n, fuel = n + 1 := ⟨fuel - 1, by omega⟩
      rw [f_X9_restores_L2, ql65, if_neg (nI_ge (by omega) (by omega)), q_mul, q_add, qcI (show 65 * t + i < 325 by omega) (by decide), qt1, qcI (show i < 313 by omega) (by decide), qt1, q_cl (by omega), q_cl (by omega), show nI i + 1 = nI (i + 1) from q_add i 1]
      refine ih n (i + 1) _ (by omega) (by omega) (fun j hj => ?_) (fun j hj => ?_)
      · unfold upd
        by_cases c : j = i
        · rw [if_pos c, c]
        · rw [if_neg c]; exact h1 j (by omega)
      · unfold upd
        rw [if_neg (by omega)]; exact h2 j hj
  exact loop 65 1000 0 s (by omega) (by omega) (fun j hj => absurd hj (Nat.not_lt_zero _)) (fun j hj => rfl)
theorem MS_back {s1 s' : Nat → Int32} {b1 : Nat → Nat} {sc1 z1 : Int32} (h0 : MS s b sc0 z0 T) (h1 : MS s1 b1 sc1 z1 T) (e1 : ∀ i, i < 65 → s' i = s i) (e2 : ∀ i, 65 ≤ i → s' i = s1 i) : MS s' b sc0 z0 T := by
  refine ⟨fun j g1 g2 g3 => ?_, by rw [e1 2 (by decide)]; exact h0.2.1, by rw [e1 3 (by decide)]; exact h0.2.2.1, fun j hj => by rw [e2 j hj]; exact h1.2.2.2 j hj⟩
  by_cases c : j < 65
  · rw [e1 j c]; exact h0.1 j g1 g2 g3
  · rw [e2 j (by omega), h1.2.2.2 j (by omega), ← h0.2.2.2 j (by omega)]; exact h0.1 j g1 g2 g3
end EK
