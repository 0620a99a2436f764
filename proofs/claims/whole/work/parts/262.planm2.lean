/-! ===== E: plans, the reference's tree ===== -/
theorem gD_lt {pre : List Nat} {k i t : Nat} (h : pre.length = t) (hi : i < t) : (pre ++ [k]).getD i 0 = pre.getD i 0 := by
  rw [List.getD_eq_getElem?_getD, List.getD_eq_getElem?_getD, List.getElem?_append_left (by omega)]
theorem gD_at {pre : List Nat} {k t : Nat} (h : pre.length = t) : (pre ++ [k]).getD t 0 = k := by
  rw [List.getD_eq_getElem?_getD, List.getElem?_append_right (by omega), h, Nat.sub_self]
  rfl
section EL
variable {RL : List RRul} {T : Nat → Int32} {z0 : Int32} {w : Nat}
theorem e9_plans (hw : w < 64) {L : Nat} (hL : L ≤ 4) : ∀ (d t fuel : Nat) (b : Nat → Nat) (W c : Nat) (pre : List Nat) (S : Su) (most many few ever sc0 : Int32) (bp pi pl s sv : Nat → Int32), t + d = L → d < fuel → BA b → MS s b sc0 z0 T → MRs T b RL → b 0 + d ≤ b 1 → W + 21 * d < 1000 → c ≤ t → pre.length = t → (∀ i, i < t → pl i = nI (pre.getD i 0)) → StM L S most many few ever bp →
    ∃ most' many' few' ever' bp' pi' pl' s' sv', F_X9_goesPlans fuel (nI t) (nI L) (nI W) (nI c) (nI w) most many few ever bp pi pl s sv = some (most', many', few', ever', bp', pi', pl', s', sv') ∧ StM L (sJ S (sumM RL w d b W c pre)) most' many' few' ever' bp' ∧ MS s' b sc0 z0 T ∧ (∀ i, i < t → pl' i = pl i) ∧ ∀ j, j < 65 * t → sv' j = sv j := by
  intro d
  induction d with
  | zero =>
    intro t fuel b W c pre S most many few ever sc0 bp pi pl s sv ht hf hB hM hMR hO hW hc hpre hpl hS
    obtain ⟨n, rfl⟩ : ∃ n, fuel = n + 1 := ⟨fuel - 1, by omega⟩
    have : t = L := by omega
    subst this
    obtain ⟨most', many', few', ever', bp', e, h⟩ := e9_endsPlan (pre := pre) hB hM hS hL (show W < 2 ^ 28 by omega) (show c ≤ 4 by omega) hw (pl := pl) hpl
    refine ⟨most', many', few', ever', bp', pi, pl, s, sv, ?_, h, hM, fun _ _ => rfl, fun _ _ => rfl⟩
    rw [F_X9_goesPlans]
    unfold f_X9_goesPlans
    rw [if_pos rfl, e, qb5]
  | succ d ih =>
    intro t fuel b W c pre S most many few ever sc0 bp pi pl s sv ht hf hB hM hMR hO hW hc hpre hpl hS
    obtain ⟨n, rfl⟩ : ∃ n, fuel = n + 1 := ⟨fuel - 1, by omega⟩
    have h4 := hB.1
    obtain ⟨sv1, v1, v2, v3⟩ := e9_saves (s := s) (show t ≤ 4 by omega) sv
    rw [F_X9_goesPlans]
    unfold f_X9_goesPlans
    rw [if_neg (by rw [q_eq (by omega) (by omega)]; omega), v1, qb1]
    have loop : ∀ (e k fu : Nat) (X : Su) (most many few ever : Int32) (bp pi pl s1 sv : Nat → Int32), k + e = b 4 + 1 → e < fu → MS s1 b sc0 z0 T → (∀ i, i < 65 → sv (65 * t + i) = s i) → (∀ i, i < t → pl i = nI (pre.getD i 0)) → StM L X most many few ever bp →
        ∃ most' many' few' ever' bp' pi' pl' s' sv', f_X9_goesPlans_L24 (F_X9_goesPlans n) (nI t) (nI L) (nI W) (nI c) (nI w) fu (nI k) most many few ever bp pi pl s1 sv = some (most', many', few', ever', bp', pi', pl', s', sv') ∧ StM L (sFrom (fun k => sumM RL w d (goA b RL k) (W + goW b RL k) (c + if k = 0 then 0 else 1) (pre ++ [k])) e k X) most' many' few' ever' bp' ∧ MS s' b sc0 z0 T ∧ (∀ i, i < t → pl' i = pl i) ∧ ∀ j, j < 65 * t → sv' j = sv j := by
      intro e
      induction e with
      | zero =>
        intro k fu X most many few ever bp pi pl s1 sv hk hfu hM1 hsv hpl hX
        obtain ⟨m, rfl⟩ : ∃ m, fu = m + 1 := ⟨fu - 1, by omega⟩
        rw [f_X9_goesPlans_L24, hM1.1 4 (by decide) (by decide) (by decide), if_pos ((q_lt (by omega) (by omega)).mpr (by omega))]
        exact ⟨_, _, _, _, _, _, _, _, _, rfl, hX, hM1, fun _ _ => rfl, fun _ _ => rfl⟩
      | succ e ihe =>
        intro k fu X most many few ever bp pi pl s1 sv hk hfu hM1 hsv hpl hX
        obtain ⟨m, rfl⟩ : ∃ m, fu = m + 1 := ⟨fu - 1, by omega⟩
        have hg := goW_le (RL := RL) hB k
        obtain ⟨pi2, s2, g1, g2⟩ := e9_goesBy (pi := pi) hB hM1 hMR (act := k) (by omega)
        have hpl2 : ∀ i, i < t + 1 → upd pl t (nI k) i = nI ((pre ++ [k]).getD i 0) := by
          intro i hi
          unfold upd
          by_cases c1 : i = t
          · rw [if_pos c1, c1, gD_at hpre]
          · rw [if_neg c1, gD_lt hpre (by omega)]; exact hpl i (by omega)
        have hBg := BA_goA (RL := RL) hB (act := k) (by omega)
        obtain ⟨mo', ma', fe', ev', bp', pi', pl', s', sv', r1, r2, r3, r4, r5⟩ := ih (t + 1) n (goA b RL k) (W + goW b RL k) (c + if k = 0 then 0 else 1) (pre ++ [k]) X most many few ever _ bp pi2 (upd pl t (nI k)) s2 sv (by omega) (by omega) hBg g2 (MRs_go hB hMR) (by rw [goA_0, goA_1 hB]; omega) (by omega) (by split <;> omega) (by rw [List.length_append, hpre]; rfl) hpl2 hX
        obtain ⟨s3, t1, t2, t3⟩ := e9_restores (s := s') (show t ≤ 4 by omega) sv'
        have hM3 : MS s3 b sc0 z0 T := MS_back hM r3 (fun i hi => by rw [t2 i hi, r5 _ (by omega), hsv i hi]) t3
        obtain ⟨mo2, ma2, fe2, ev2, bp2, pi3, pl3, s4, sv4, w1, w2, w3, w4, w5⟩ := ihe (k + 1) m _ mo' ma' fe' ev' bp' pi' pl' s3 sv' (by omega) (by omega) hM3 (fun i hi => by rw [r5 _ (by omega)]; exact hsv i hi) (fun i hi => by rw [r4 i (by omega)]; unfold upd; rw [if_neg (by omega)]; exact hpl i hi) r2
        refine ⟨mo2, ma2, fe2, ev2, bp2, pi3, pl3, s4, sv4, ?_, w2, w3, fun i hi => ?_, fun j hj => by rw [w5 j hj, r5 j (by omega)]⟩
        · rw [f_X9_goesPlans_L24, hM1.1 4 (by decide) (by decide) (by decide), if_neg (fun h => by have := (q_lt (by omega) (by omega)).mp h; omega), qcI (show t < 4 by omega) (by decide), g1, qb3, q_cl (by omega), show nI k + 1 = nI (k + 1) from q_add k 1, show nI t + 1 = nI (t + 1) from q_add t 1, show nI c + 1 = nI (c + 1) from q_add c 1, q_add]
          by_cases c1 : k = 0
          · rw [if_pos (show nI k ≤ 0 by rw [c1]; decide)]
            rw [if_pos c1, Nat.add_zero c] at r1
            rw [r1, qb9, t1, qb1, qt1]
            exact w1
          · rw [if_neg (show ¬ nI k ≤ (0 : Int32) by rw [ql0]; exact nI_ge (by omega) (by omega))]
            rw [if_neg c1] at r1
            rw [r1, qb9, t1, qb1, qt1]
            exact w1
        · rw [w4 i hi, r4 i (by omega)]
          unfold upd
          rw [if_neg (by omega)]
    obtain ⟨mo', ma', fe', ev', bp', pi', pl', s', sv', r1, r2, r3, r4, r5⟩ := loop (b 4 + 1) 0 1000 S most many few ever bp pi pl s sv1 (by omega) (by omega) hM v2 hpl hS
    refine ⟨mo', ma', fe', ev', bp', pi', pl', s', sv', r1, ?_, r3, r4, fun j hj => by rw [r5 j hj, v3 j hj]⟩
    rw [sFrom_all] at r2
    rw [sumM]
    have : (fun i => (fun k => sumM RL w d (goA b RL k) (W + goW b RL k) (c + if k = 0 then 0 else 1) (pre ++ [k])) (0 + i)) = fun k => sumM RL w d (goA b RL k) (W + goW b RL k) (c + if k = 0 then 0 else 1) (pre ++ [k]) := by
      funext i
      rw [Nat.zero_add]
    rw [this] at r2
    exact r2
end EL
