/-! ===== E: the game, what it comes to, and the reference ===== -/
abbrev bett (t x y : Nat) : Prop := (t % 2 = 0 ∧ y < x) ∨ (t % 2 ≠ 0 ∧ x < y)
def pick (t : Nat) (f : Nat → Nat) : Nat → Nat × Nat
  | 0 => (f 0, 0)
  | k + 1 => if bett t (f (k + 1)) (pick t f k).1 then (f (k + 1), k + 1) else pick t f k
def gv (RL : List RRul) : Nat → Nat → (Nat → Nat) → Nat × Nat
  | 0, _, _ => (0, 0)
  | d + 1, t, b => pick t (fun k => goW b RL k + (gv RL d (t + 1) (goA b RL k)).1) (b 4)
theorem pick_le {t M : Nat} {f : Nat → Nat} : ∀ n, (∀ k, k ≤ n → f k ≤ M) → (pick t f n).1 ≤ M ∧ (pick t f n).2 ≤ n := by
  intro n
  induction n with
  | zero => intro h; exact ⟨h 0 (Nat.le_refl _), Nat.le_refl _⟩
  | succ n ih =>
    intro h
    obtain ⟨i1, i2⟩ := ih (fun k hk => h k (by omega))
    rw [pick]
    split
    · exact ⟨h (n + 1) (Nat.le_refl _), Nat.le_refl _⟩
    · exact ⟨i1, by omega⟩
theorem gv_le {RL : List RRul} : ∀ (d t : Nat) (b : Nat → Nat), BA b → b 0 + d ≤ b 1 → (gv RL d t b).1 ≤ 21 * d ∧ (gv RL d t b).2 ≤ b 4 := by
  intro d
  induction d with
  | zero => intro t b _ _; exact ⟨Nat.zero_le _, Nat.zero_le _⟩
  | succ d ih =>
    intro t b hB hO
    rw [gv]
    exact pick_le (b 4) (fun k _ => by
      have h1 := goW_le (RL := RL) hB k
      have h2 := (ih (t + 1) (goA b RL k) (BA_goA hB (by omega)) (by rw [goA_0, goA_1 hB]; omega)).1
      omega)
def pickS (P : Nat → Bool) (t : Nat) (f : Nat → Nat) : Nat → Nat × Nat
  | 0 => (f 0, 0)
  | k + 1 => if P k = true then (if bett t (f (k + 1)) (pickS P t f k).1 then (f (k + 1), k + 1) else pickS P t f k) else pickS P t f k
theorem pick_0 {t : Nat} {f : Nat → Nat} : ∀ n, ¬ bett t (f 0) (pick t f n).1 := by
  intro n
  induction n with
  | zero => show ¬ bett t (f 0) (f 0); intro h; rcases h with h | h <;> omega
  | succ n ih =>
    rw [pick]
    split
    · rename_i h
      intro g
      apply ih
      rcases g with g | g <;> rcases h with h | h
      · exact Or.inl ⟨g.1, by omega⟩
      · exact absurd g.1 h.1
      · exact absurd h.1 g.1
      · exact Or.inr ⟨g.1, by omega⟩
    · exact ih
theorem pickS_eq {P : Nat → Bool} {t : Nat} {f : Nat → Nat} : ∀ n, (∀ k, k < n → ¬ P k = true → f (k + 1) = f 0) → pickS P t f n = pick t f n := by
  intro n
  induction n with
  | zero => intro _; rfl
  | succ n ih =>
    intro h
    have i := ih (fun k hk => h k (by omega))
    rw [pickS, pick]
    by_cases c : P n = true
    · rw [if_pos c, i]
    · rw [if_neg c, i, h n (by omega) c, if_neg (pick_0 n)]
section ES
variable {RL : List RRul} {T : Nat → Int32} {z0 : Int32}
theorem e9_played {L : Nat} (hL : L ≤ 4) : ∀ (d t fuel : Nat) (b : Nat → Nat) (sc0 : Int32) (pi pl s sv : Nat → Int32), t + d = L → d < fuel → BA b → MS s b sc0 z0 T → MRs T b RL → b 0 + d ≤ b 1 →
    ∃ pi' pl' s' sv', F_X9_playedFrom fuel (nI t) (nI L) pi pl s sv = some (nI (gv RL d t b).1, pi', pl', s', sv') ∧ MS s' b sc0 z0 T ∧ (∀ i, i < t → pl' i = pl i) ∧ (0 < d → pl' t = nI (gv RL d t b).2) ∧ ∀ j, j < 65 * t → sv' j = sv j := by
  intro d
  induction d with
  | zero =>
    intro t fuel b sc0 pi pl s sv ht hf hB hM hMR hO
    obtain ⟨n, rfl⟩ : ∃ n, fuel = n + 1 := ⟨fuel - 1, by omega⟩
    have : t = L := by omega
    subst this
    refine ⟨pi, pl, s, sv, ?_, hM, fun _ _ => rfl, fun h => absurd h (by omega), fun _ _ => rfl⟩
    rw [F_X9_playedFrom]
    unfold f_X9_playedFrom
    rw [if_pos rfl]
    rfl
  | succ d ih =>
    intro t fuel b sc0 pi pl s sv ht hf hB hM hMR hO
    obtain ⟨n, rfl⟩ : ∃ n, fuel = n + 1 := ⟨fuel - 1, by omega⟩
    have h4 := hB.1
    obtain ⟨sv1, v1, v2, v3⟩ := e9_saves (s := s) (show t ≤ 4 by omega) sv
    obtain ⟨f, hf2⟩ : ∃ f : Nat → Nat, f = fun k => goW b RL k + (gv RL d (t + 1) (goA b RL k)).1 := ⟨_, rfl⟩
    have egv : gv RL (d + 1) t b = pick t f (b 4) := by rw [gv, hf2]
    have fle : ∀ k, f k ≤ 21 * (d + 1) := by
      intro k
      rw [hf2]
      have h1 := goW_le (RL := RL) hB k
      have h2 := (gv_le (RL := RL) d (t + 1) (goA b RL k) (BA_goA hB (by omega)) (by rw [goA_0, goA_1 hB]; omega)).1
      show goW b RL k + (gv RL d (t + 1) (goA b RL k)).1 ≤ _
      omega
    rw [F_X9_playedFrom, egv]
    unfold f_X9_playedFrom
    rw [if_neg (by rw [q_eq (by omega) (by omega)]; omega), v1, qb1]
    have loop : ∀ (e k fu : Nat) (v3 v4 : Int32) (pi pl s1 sv : Nat → Int32), k + e = b 4 + 1 → e < fu → MS s1 b sc0 z0 T → (∀ i, i < 65 → sv (65 * t + i) = s i) → ((k = 0 ∧ v4 = -1) ∨ ∃ q, k = q + 1 ∧ v3 = nI (pick t f q).1 ∧ v4 = nI (pick t f q).2) →
        ∃ pi' pl' s' sv', f_X9_playedFrom_L20 (F_X9_playedFrom n) (nI t) (nI L) fu v3 v4 (nI k) pi pl s1 sv = some (nI (pick t f (b 4)).1, pi', pl', s', sv') ∧ MS s' b sc0 z0 T ∧ (∀ i, i < t → pl' i = pl i) ∧ pl' t = nI (pick t f (b 4)).2 ∧ ∀ j, j < 65 * t → sv' j = sv j := by
      intro e
      induction e with
      | zero =>
        intro k fu v3 v4 pi pl s1 sv hk hfu hM1 hsv hv
        obtain ⟨m, rfl⟩ : ∃ m, fu = m + 1 := ⟨fu - 1, by omega⟩
        rcases hv with ⟨h, -⟩ | ⟨q, hq, rfl, rfl⟩
        · omega
        · have : q = b 4 := by omega
          subst this
          rw [f_X9_playedFrom_L20, hM1.1 4 (by decide) (by decide) (by decide), if_pos ((q_lt (by omega) (by omega)).mpr (by omega)), qcI (show t < 4 by omega) (by decide), q_cl (by omega)]
          refine ⟨_, _, _, _, rfl, hM1, fun i hi => ?_, ?_, fun _ _ => rfl⟩
          · unfold upd; rw [if_neg (by omega)]
          · unfold upd; rw [if_pos rfl]
      | succ e ihe =>
        intro k fu v3 v4 pi pl s1 sv hk hfu hM1 hsv hv
        obtain ⟨m, rfl⟩ : ∃ m, fu = m + 1 := ⟨fu - 1, by omega⟩
        obtain ⟨pi2, s2, g1, g2⟩ := e9_goesBy (pi := pi) hB hM1 hMR (act := k) (by omega)
        have hBg := BA_goA (RL := RL) hB (act := k) (by omega)
        obtain ⟨pi3, pl3, s3, sv3, r1, r2, r3, -, r5⟩ := ih (t + 1) n (goA b RL k) _ pi2 pl s2 sv (by omega) (by omega) hBg g2 (MRs_go hB hMR) (by rw [goA_0, goA_1 hB]; omega)
        obtain ⟨s4, t1, t2, t3⟩ := e9_restores (s := s3) (show t ≤ 4 by omega) sv3
        have hM4 : MS s4 b sc0 z0 T := MS_back hM r2 (fun i hi => by rw [t2 i hi, r5 _ (by omega), hsv i hi]) t3
        have hsv3 : ∀ i, i < 65 → sv3 (65 * t + i) = s i := fun i hi => by rw [r5 _ (by omega)]; exact hsv i hi
        have ef : f k = goW b RL k + (gv RL d (t + 1) (goA b RL k)).1 := by rw [hf2]
        have fk := fle k
        have go : ∀ (v3 v4 : Int32), (∃ q, k + 1 = q + 1 ∧ v3 = nI (pick t f q).1 ∧ v4 = nI (pick t f q).2) → ∃ pi' pl' s' sv', f_X9_playedFrom_L20 (F_X9_playedFrom n) (nI t) (nI L) m v3 v4 (nI (k + 1)) pi3 pl3 s4 sv3 = some (nI (pick t f (b 4)).1, pi', pl', s', sv') ∧ MS s' b sc0 z0 T ∧ (∀ i, i < t → pl' i = pl i) ∧ pl' t = nI (pick t f (b 4)).2 ∧ ∀ j, j < 65 * t → sv' j = sv j := by
          intro v3 v4 hq
          obtain ⟨pi', pl', s', sv', w1, w2, w3, w4, w5⟩ := ihe (k + 1) m v3 v4 pi3 pl3 s4 sv3 (by omega) (by omega) hM4 hsv3 (Or.inr hq)
          exact ⟨pi', pl', s', sv', w1, w2, fun i hi => by rw [w3 i hi, r3 i (by omega)], w4, fun j hj => by rw [w5 j hj, r5 j (by omega)]⟩
        rw [f_X9_playedFrom_L20, hM1.1 4 (by decide) (by decide) (by decide), if_neg (fun h => by have := (q_lt (by omega) (by omega)).mp h; omega), g1, qb3, show nI t + 1 = nI (t + 1) from q_add t 1, r1, qb5, q_add, ← ef, qt1, t1, qb1]
        unfold f_X9_playedFrom_b83 f_X9_playedFrom_b87 f_X9_playedFrom_b88 f_X9_playedFrom_b102
        rw [show nI k + 1 = nI (k + 1) from q_add k 1, qt1, qt1, qt1, qt1]
        rcases hv with ⟨rfl, rfl⟩ | ⟨q, rfl, rfl, rfl⟩
        · rw [if_pos (by decide), if_neg n10, if_neg n10]
          exact go _ _ ⟨0, rfl, rfl, rfl⟩
        · obtain ⟨pl1, pl2⟩ := pick_le (t := t) (f := f) (M := 21 * (d + 1)) q (fun k _ => fle k)
          have yes : bett t (f (q + 1)) (pick t f q).1 → ∃ x, q + 1 + 1 = x + 1 ∧ nI (f (q + 1)) = nI (pick t f x).1 ∧ nI (q + 1) = nI (pick t f x).2 := fun h => ⟨q + 1, rfl, by rw [pick, if_pos h], by rw [pick, if_pos h]⟩
          have no : ¬ bett t (f (q + 1)) (pick t f q).1 → ∃ x, q + 1 + 1 = x + 1 ∧ nI (pick t f q).1 = nI (pick t f x).1 ∧ nI (pick t f q).2 = nI (pick t f x).2 := fun h => ⟨q + 1, rfl, by rw [pick, if_neg h], by rw [pick, if_neg h]⟩
          rw [if_neg (nI_pos (show (pick t f q).2 < 2 ^ 31 by omega)), ql2, q_rem (by omega) (by decide) (by decide)]
          by_cases ct : t % 2 = 0
          · rw [if_pos (by rw [ct]; rfl)]
            by_cases c2 : f (q + 1) ≤ (pick t f q).1
            · rw [if_pos (nI_le c2 (by omega)), if_pos rfl, if_pos rfl]
              exact go _ _ (no (fun h => by rcases h with h | h <;> omega))
            · rw [if_neg (nI_ge (by omega) (by omega)), if_neg n10, if_neg n10]
              exact go _ _ (yes (Or.inl ⟨ct, by omega⟩))
          · rw [if_neg (nI_ne0 (by omega) (by omega))]
            by_cases c2 : (pick t f q).1 ≤ f (q + 1)
            · rw [if_pos (nI_le c2 (by omega)), if_pos rfl, if_pos rfl]
              exact go _ _ (no (fun h => by rcases h with h | h <;> omega))
            · rw [if_neg (nI_ge (by omega) (by omega)), if_neg n10, if_neg n10]
              exact go _ _ (yes (Or.inr ⟨ct, by omega⟩))
    obtain ⟨pi', pl', s', sv', r1, r2, r3, r4, r5⟩ := loop (b 4 + 1) 0 1000 0 (-1) pi pl s sv1 (by omega) (by omega) hM v2 (Or.inl ⟨rfl, rfl⟩)
    exact ⟨pi', pl', s', sv', r1, r2, r3, fun _ => r4, fun j hj => by rw [r5 j hj, v3 j hj]⟩
end ES
