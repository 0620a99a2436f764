/-! ===== E: the rest in the reference ===== -/
section EQ
variable {a : Nat → Nat} {s pi T la : Nat → Int32} {sc z : Int32} {RL : List RRul}
theorem MRs_go (hB : BA a) (hC : MRs T a RL) {act : Nat} : MRs T (goA a RL act) RL := ⟨hC.1, hC.2.1, hC.2.2.1, by rw [goA_oth (by decide) (by decide) hB.1]; exact hC.2.2.2⟩
theorem e9_restL (hB : BA a) (hM : MS s a sc z T) (hC : MRs T a RL) : ∀ (d fuel j : Nat) (pi : Nat → Int32), j + d = a 4 → d < fuel →
    ∃ pi', f_X9_restOne_L2 s fuel (nI j) pi = some (if fmay a RL d j = 0 then -1 else nI (fmay a RL d j - 1), pi') := by
  have h4 := hB.1
  have hML := MRl_congr (fun j hj => hM.2.2.2 j (by omega)) RL 0 0 hC.1
  intro d
  induction d with
  | zero =>
    intro fuel j pi hj hf
    obtain ⟨n, rfl⟩ : ∃ n, fuel = n + 1 := ⟨fuel - 1, by omega⟩
    rw [f_X9_restOne_L2, hM.1 4 (by decide) (by decide) (by decide), if_pos (nI_le (by omega) (by omega))]
    exact ⟨_, rfl⟩
  | succ d ih =>
    intro fuel j pi hj hf
    obtain ⟨n, rfl⟩ : ∃ n, fuel = n + 1 := ⟨fuel - 1, by omega⟩
    obtain ⟨pi1, hm⟩ := e9_mayEnter (pi := pi) hB hM.1 hML hC.2.1 hC.2.2.1 hC.2.2.2 (k := j) (by omega)
    rw [f_X9_restOne_L2, hM.1 4 (by decide) (by decide) (by decide), if_neg (nI_ge (by omega) (by omega)), hm, qb2, ql1, q_add, qt1]
    unfold fmay
    by_cases c : may a RL j = true
    · rw [if_pos c, if_neg (by decide), if_pos c, if_neg (by omega)]
      exact ⟨_, rfl⟩
    · rw [if_neg c, if_pos (by decide), if_neg c]
      exact ih n (j + 1) pi1 (by omega) (by omega)
/-- a watch of the rest in the reference -/
theorem e9_goesRest (hB : BA a) (hM : MS s a sc z T) (hC : MRs T a RL) :
    ∃ pi' s', f_X9_goesBy (-1) pi s = some (nI (goW a RL (rAct a RL)), pi', s') ∧ MS s' (goA a RL (rAct a RL)) (sc + nI (goW a RL (rAct a RL))) z T := by
  have h4 := hB.1
  have hr := rAct_le (a := a) (RL := RL)
  obtain ⟨pi1, e1⟩ := e9_restL hB hM hC (a 4) 1000 0 pi (by omega) (by omega)
  obtain ⟨pi2, s2, e2, e3⟩ := e9_goesBy (pi := pi1) hB hM hC hr
  refine ⟨pi2, s2, ?_, e3⟩
  unfold f_X9_goesBy f_X9_restOne
  rw [if_neg (by decide), ql0, e1, qb2]
  unfold f_X9_goesBy at e2
  rw [if_pos (nI_pos' (by omega))] at e2
  by_cases c : rAct a RL = 0
  · have c' : fmay a RL (a 4) 0 = 0 := c
    rw [if_pos c']
    rw [c] at e2
    rw [c]
    exact e2
  · have c' : ¬ fmay a RL (a 4) 0 = 0 := c
    rw [if_neg c']
    have e0 : nI (rAct a RL) - 1 = nI (rAct a RL - 1) := by
      have := nI_pred (rAct a RL - 1)
      rw [show rAct a RL - 1 + 1 = rAct a RL by omega] at this
      exact this
    rw [e0] at e2
    exact e2
theorem e9_isOver (hB : BA a) (hM : MS s a sc z T) : f_X9_isOver s = some (if a 0 < a 1 then 0 else 1) := by
  have h1 := hB.2.1
  have h2 := hB.2.2.1
  unfold f_X9_isOver
  rw [hM.1 0 (by decide) (by decide) (by decide), hM.1 1 (by decide) (by decide) (by decide)]
  simp (disch := omega) only [q_lt]
  split <;> rfl
theorem e9_restOfL {N : Nat} (hN : N < 1000) : ∀ (m fuel i v : Nat) (b : Nat → Nat) (s pi : Nat → Int32) (sc : Int32), i + m = N → m < fuel → BA b → MS s b sc z T → MRs T b RL →
    ∃ pi' s', f_X9_restOf_L4 (nI N) fuel (nI v) (nI i) pi s = some (nI (v + rsW RL m b), pi', s') ∧ MS s' (rsA RL m b) (sc + nI (rsW RL m b)) z T := by
  intro m
  induction m with
  | zero =>
    intro fuel i v b s pi sc hi hf hB hM hC
    obtain ⟨n, rfl⟩ : ∃ n, fuel = n + 1 := ⟨fuel - 1, by omega⟩
    rw [f_X9_restOf_L4, if_pos (nI_le (by omega) (by omega))]
    exact ⟨_, _, rfl, by unfold rsW; rw [show sc + nI 0 = sc from Int32.add_zero _]; exact hM⟩
  | succ m ih =>
    intro fuel i v b s pi sc hi hf hB hM hC
    obtain ⟨n, rfl⟩ : ∃ n, fuel = n + 1 := ⟨fuel - 1, by omega⟩
    rw [f_X9_restOf_L4, if_neg (nI_ge (by omega) (by omega)), e9_isOver hB hM, qb1, rsA_s, rsW_s]
    by_cases c : b 0 < b 1
    · obtain ⟨pi1, s1, e1, e2⟩ := e9_goesRest (pi := pi) hB hM hC
      rw [if_pos c, if_pos rfl, e1, qb3, ql1, q_add, q_add, qt1, qt1, if_pos c, if_pos c]
      obtain ⟨pi2, s2, e3, e4⟩ := ih n (i + 1) (v + goW b RL (rAct b RL)) (goA b RL (rAct b RL)) s1 pi1 (sc + nI (goW b RL (rAct b RL))) (by omega) (by omega) (BA_goA hB c) e2 (MRs_go hB hC)
      refine ⟨_, _, by rw [e3, Nat.add_assoc], ?_⟩
      rw [Int32.add_assoc, q_add] at e4
      exact e4
    · rw [if_neg c, if_neg (by decide), if_neg c, if_neg c]
      exact ⟨_, _, rfl, by rw [show sc + nI 0 = sc from Int32.add_zero _]; exact hM⟩
theorem e9_restOf (hB : BA a) (hM : MS s a sc z T) (hC : MRs T a RL) {N : Nat} (hN : N ≤ 16) :
    ∃ pi' s', f_X9_restOf (nI N) pi s = some (nI (rsW RL N a), pi', s') ∧ MS s' (rsA RL N a) (sc + nI (rsW RL N a)) z T := by
  obtain ⟨pi2, s2, e3, e4⟩ := e9_restOfL (N := N) (by omega) N 1000 0 0 a s pi sc (by omega) (by omega) hB hM hC
  rw [Nat.zero_add] at e3
  exact ⟨pi2, s2, e3, e4⟩
/-- laid down, laid back -/
theorem e9_layDownL : ∀ (d fuel j : Nat) (la : Nat → Int32), j + d = 65 → d < fuel → (∀ i, i < j → la i = s i) → ∃ la', f_X9_layDown_L2 s fuel (nI j) la = some la' ∧ ∀ i, i < 65 → la' i = s i := by
  intro d
  induction d with
  | zero =>
    intro fuel j la hj hf hl
    obtain ⟨n, rfl⟩ : ∃ n, fuel = n + 1 := ⟨fuel - 1, by omega⟩
    rw [f_X9_layDown_L2, ql65, if_pos (nI_le (by omega) (by omega))]
    exact ⟨_, rfl, fun i hi => hl i (by omega)⟩
  | succ d ih =>
    intro fuel j la hj hf hl
    obtain ⟨n, rfl⟩ : ∃ n, fuel = n + 1 := ⟨fuel - 1, by omega⟩
    rw [f_X9_layDown_L2, ql65, if_neg (nI_ge (by omega) (by omega)), qcI (by omega) (by omega), qt1, qcI (by omega) (by omega), ql1, q_add, qt1, q_cl (by omega)]
    refine ih n (j + 1) _ (by omega) (by omega) (fun i hi => ?_)
    unfold upd
    by_cases c : i = j
    · rw [if_pos c, c]
    · rw [if_neg c]; exact hl i (by omega)
theorem e9_layDown : ∃ la', f_X9_layDown la s = some la' ∧ ∀ i, i < 65 → la' i = s i := e9_layDownL 65 1000 0 la (by omega) (by omega) (fun i hi => absurd hi (by omega))
theorem e9_layBackL : ∀ (d fuel j : Nat) (s : Nat → Int32), j + d = 65 → d < fuel → (∀ i, i < j → s i = la i) → ∃ s', f_X9_layBack_L2 la fuel (nI j) s = some s' ∧ (∀ i, i < 65 → s' i = la i) ∧ ∀ i, 65 ≤ i → s' i = s i := by
  intro d
  induction d with
  | zero =>
    intro fuel j s hj hf hl
    obtain ⟨n, rfl⟩ : ∃ n, fuel = n + 1 := ⟨fuel - 1, by omega⟩
    rw [f_X9_layBack_L2, ql65, if_pos (nI_le (by omega) (by omega))]
    exact ⟨_, rfl, fun i hi => hl i (by omega), fun i _ => rfl⟩
  | succ d ih =>
    intro fuel j s hj hf hl
    obtain ⟨n, rfl⟩ : ∃ n, fuel = n + 1 := ⟨fuel - 1, by omega⟩
    rw [f_X9_layBack_L2, ql65, if_neg (nI_ge (by omega) (by omega)), qcI (by omega) (by omega), qt1, qcI (by omega) (by omega), ql1, q_add, qt1, q_cl (by omega)]
    obtain ⟨s', e1, e2, e3⟩ := ih n (j + 1) (upd s j (la j)) (by omega) (by omega) (fun i hi => by
      unfold upd
      by_cases c : i = j
      · rw [if_pos c, c]
      · rw [if_neg c]; exact hl i (by omega))
    exact ⟨s', e1, e2, fun i hi => by rw [e3 i hi, upd_ne _ _ (by omega)]⟩
theorem e9_layBack : ∃ s', f_X9_layBack la s = some s' ∧ (∀ i, i < 65 → s' i = la i) ∧ ∀ i, 65 ≤ i → s' i = s i := e9_layBackL 65 1000 0 s (by omega) (by omega) (fun i hi => absurd hi (by omega))
/-- what was laid down comes back -/
theorem e9_back {s1 : Nat → Int32} {b : Nat → Nat} {sc1 z1 : Int32} (hM : MS s a sc z T) (hla : ∀ i, i < 65 → la i = s i) (h1 : MS s1 b sc1 z1 T) : ∃ s', f_X9_layBack la s1 = some s' ∧ MS s' a sc z T := by
  obtain ⟨s', e1, e2, e3⟩ := e9_layBack (la := la) (s := s1)
  refine ⟨s', e1, fun j h1' h2 h3 => ?_, by rw [e2 2 (by decide), hla 2 (by decide)]; exact hM.2.1, by rw [e2 3 (by decide), hla 3 (by decide)]; exact hM.2.2.1, fun j hj => by rw [e3 j hj]; exact h1.2.2.2 j hj⟩
  by_cases c : j < 65
  · rw [e2 j c, hla j c]; exact hM.1 j h1' h2 h3
  · rw [e3 j (by omega), h1.2.2.2 j (by omega), ← hM.2.2.2 j (by omega)]; exact hM.1 j h1' h2 h3
end EQ
