/-! ===== E: plans, the class goes (printed by wip/whole/explore.py) ===== -/
section EN
variable {kd de be st le ri cu kds tr ln li bu : Nat → Int32} {cnt : Int32} {RL : List RRul} {w : Nat}
theorem e8_ex4 (hw : w < 64) (hC : CRs kd de be st le ri RL) {L : Nat} (hL : L ≤ 4) : ∀ (d : Nat) (b : Nat → Nat) (W c m : Nat) (pre : List Nat) (S : Su) (best ways fewest ever sc0 wa4 sc4 ho4  : Int32) (acts first fa of4  : Nat → Int32), 4 + d = L → BA b → CE cnt kds tr ln li cu bu b → CS wa4 ho4 of4 b → b 0 + d ≤ b 1 → W + 21 * d < 1000 → c ≤ 4 → pre.length = 4 → (∀ i, i < 4 → acts i = nI (pre.getD i 0)) → sc4 = sc0 + nI W → StC L S best ways fewest ever first →
    ∃ fa' best' ways' fewest' ever' acts' first', f_X1_explore_4 (nI c) (nI m) cnt bu kds ln li (nI RL.length) be de fa kd le ri st tr (nI L) (nI w) best ways fewest ever acts sc0 wa4 sc4 ho4 of4 first = some (fa', best', ways', fewest', ever', acts', first') ∧ StC L (sJ S (sumC RL w d b W c pre m)) best' ways' fewest' ever' first' ∧ ∀ i, i < 4 → acts' i = acts i := by
  intro d
  cases d with
  | zero =>
    intro b W c m pre S best ways fewest ever sc0 wa4 sc4 ho4 acts first fa of4 ht hB hE hS hO hW hc hpre hpl hsc hSt
    have es : sc4 - sc0 = nI W := by rw [hsc, Int32.add_comm, Int32.add_sub_cancel]
    have eL : L = 4 := by omega
    subst eL
    obtain ⟨best', ways', fewest', ever', first', e, h⟩ := e8_weigh (c := c) (m := m) (w := w) (pre := pre) (acts := acts) hB hSt hL (show W < 2 ^ 28 by omega) (show c ≤ 4 by omega) hpl
    have hr : f_X1_explore_4 (nI c) (nI m) cnt bu kds ln li (nI RL.length) be de fa kd le ri st tr (nI 4) (nI w) best ways fewest ever acts sc0 wa4 sc4 ho4 of4 first = some (fa, best', ways', fewest', ever', acts, first') := by
      unfold f_X1_explore_4
      rw [if_neg (show ¬ (4 : Int32) < nI 4 by decide), es, hS.2.1, e, qb5]
    exact ⟨_, _, _, _, _, _, _, hr, h, fun _ _ => rfl⟩
  | succ d =>
    intro b W c m pre S best ways fewest ever sc0 wa4 sc4 ho4 acts first fa of4 ht hB hE hS hO hW hc hpre hpl hsc hSt
    exact absurd ht (by omega)
theorem e8_ex3 (hw : w < 64) (hC : CRs kd de be st le ri RL) {L : Nat} (hL : L ≤ 4) : ∀ (d : Nat) (b : Nat → Nat) (W c m : Nat) (pre : List Nat) (S : Su) (best ways fewest ever sc0 wa3 sc3 ho3 wa4 sc4 ho4 : Int32) (acts first fa of3 of4 : Nat → Int32), 3 + d = L → BA b → CE cnt kds tr ln li cu bu b → CS wa3 ho3 of3 b → b 0 + d ≤ b 1 → W + 21 * d < 1000 → c ≤ 3 → pre.length = 3 → (∀ i, i < 3 → acts i = nI (pre.getD i 0)) → sc3 = sc0 + nI W → StC L S best ways fewest ever first →
    ∃ fa' best' ways' fewest' ever' acts' wa4' sc4' ho4' of4' first', f_X1_explore_3 (nI c) (nI m) cnt bu cu kds ln li (nI RL.length) be de fa kd le ri st tr (nI L) (nI w) best ways fewest ever acts sc0 wa3 sc3 ho3 of3 wa4 sc4 ho4 of4 first = some (fa', best', ways', fewest', ever', acts', wa4', sc4', ho4', of4', first') ∧ StC L (sJ S (sumC RL w d b W c pre m)) best' ways' fewest' ever' first' ∧ ∀ i, i < 3 → acts' i = acts i := by
  intro d
  cases d with
  | zero =>
    intro b W c m pre S best ways fewest ever sc0 wa3 sc3 ho3 wa4 sc4 ho4 acts first fa of3 of4 ht hB hE hS hO hW hc hpre hpl hsc hSt
    have es : sc3 - sc0 = nI W := by rw [hsc, Int32.add_comm, Int32.add_sub_cancel]
    have eL : L = 3 := by omega
    subst eL
    obtain ⟨best', ways', fewest', ever', first', e, h⟩ := e8_weigh (c := c) (m := m) (w := w) (pre := pre) (acts := acts) hB hSt hL (show W < 2 ^ 28 by omega) (show c ≤ 4 by omega) hpl
    have hr : f_X1_explore_3 (nI c) (nI m) cnt bu cu kds ln li (nI RL.length) be de fa kd le ri st tr (nI 3) (nI w) best ways fewest ever acts sc0 wa3 sc3 ho3 of3 wa4 sc4 ho4 of4 first = some (fa, best', ways', fewest', ever', acts, wa4, sc4, ho4, of4, first') := by
      unfold f_X1_explore_3
      rw [if_neg (show ¬ (3 : Int32) < nI 3 by decide), es, hS.2.1, e, qb5]
    exact ⟨_, _, _, _, _, _, _, _, _, _, _, hr, h, fun _ _ => rfl⟩
  | succ d =>
    intro b W c m pre S best ways fewest ever sc0 wa3 sc3 ho3 wa4 sc4 ho4 acts first fa of3 of4 ht hB hE hS hO hW hc hpre hpl hsc hSt
    have h4 := hB.1
    have act : ∀ (k j v5' : Nat) (v5 : Int32) (rec73 : Int32 → Int32 → Int32 → (Nat → Int32) → Int32 → Int32 → Int32 → Int32 → (Nat → Int32) → Int32 → Int32 → Int32 → (Nat → Int32) → (Nat → Int32) → Option ((Nat → Int32) × Int32 × Int32 × Int32 × Int32 × (Nat → Int32) × Int32 × Int32 × Int32 × (Nat → Int32) × (Nat → Int32))) (X : Su) (best ways fewest ever wa4 sc4 ho4 : Int32) (acts first fa of4 : Nat → Int32), k ≤ b 4 → (∀ i, i < 3 → acts i = nI (pre.getD i 0)) → StC L X best ways fewest ever first → ∃ fa' best' ways' fewest' ever' acts' wa4' sc4' ho4' of4' first', f_X1_explore_3_b100 rec73 (nI c) (nI m) cnt bu cu kds ln li (nI RL.length) be de kd le ri st tr (nI L) (nI w) sc0 wa3 sc3 ho3 of3 v5 (nI j) (nI k) fa best ways fewest ever acts wa4 sc4 ho4 of4 first = rec73 v5 (nI j) (nI (k + 1)) fa' best' ways' fewest' ever' acts' wa4' sc4' ho4' of4' first' ∧ StC L (sJ X (sumC RL w d (goA b RL k) (W + goW b RL k) (if k = 0 then c else c + 1) (pre ++ [k]) (if k = 0 then m * j else m))) best' ways' fewest' ever' first' ∧ ∀ i, i < 3 → acts' i = acts i := by
      intro k j v5' v5 rec73 X best ways fewest ever wa4 sc4 ho4 acts first fa of4 hk hpl hX
      have hg := goW_le (RL := RL) hB k
      have hSc := CS_cpy (of0 := of4) hS
      obtain ⟨wx, hox, ofx, fax, p1, p2⟩ := e8_pass (fa := fa) (sc := sc3) hB hE hSc hC (act := k) hk
      have hpl2 : ∀ i, i < 4 → upd acts 3 (nI k) i = nI ((pre ++ [k]).getD i 0) := by
        intro i hi
        unfold upd
        by_cases c1 : i = 3
        · rw [if_pos c1, c1, gD_at hpre]
        · rw [if_neg c1, gD_lt hpre (by omega)]; exact hpl i (by omega)
      have hBg := BA_goA (RL := RL) hB (act := k) (by omega)
      have esc : sc3 + nI (goW b RL k) = sc0 + nI (W + goW b RL k) := by
        rw [hsc, Int32.add_assoc, q_add]
      obtain ⟨fa', best', ways', fewest', ever', acts', first', r1, r2, r3⟩ := e8_ex4 (w := w) hw hC hL d (goA b RL k) (W + goW b RL k) (if k = 0 then c else c + 1) (if k = 0 then m * j else m) (pre ++ [k]) X best ways fewest ever sc0 wx (sc3 + nI (goW b RL k)) hox  (upd acts 3 (nI k)) first fax ofx  (by omega) hBg (CE_goA hB hE) p2 (by rw [goA_0, goA_1 hB]; omega) (by omega) (by split <;> omega) (by rw [List.length_append, hpre]; rfl) hpl2 esc hX
      refine ⟨fa', best', ways', fewest', ever', acts', wx, (sc3 + nI (goW b RL k)), hox, ofx, first', ?_, r2, fun i hi => by rw [r3 i (by omega)]; unfold upd; rw [if_neg (by omega)]⟩
      unfold f_X1_explore_3_b100 f_X1_explore_3_b157
      rw [e8_become, qb4, p1, qb6, show nI c + 1 = nI (c + 1) from q_add c 1, show nI k + 1 = nI (k + 1) from q_add k 1, q_mul]
      by_cases c1 : k = 0
      · rw [if_pos (show nI k = 0 by rw [c1]; rfl), if_pos (show nI k = 0 by rw [c1]; rfl)]
        rw [if_pos c1, if_pos c1] at r1
        rw [r1]; rfl
      · rw [if_neg (nI_ne0 (by omega) (by omega)), if_neg (nI_ne0 (by omega) (by omega))]
        rw [if_neg c1, if_neg c1] at r1
        rw [r1]; rfl
    obtain ⟨fas, s1⟩ := e8_stirring (fa := fa) hB hE hS hC
    have V6 := wm_64 (stir b RL) h4
    have loop : ∀ (e k fu j : Nat) (X : Su) (best ways fewest ever wa4 sc4 ho4 : Int32) (acts first fa of4 : Nat → Int32), k + e = b 4 → e < fu → (∀ i, i < 3 → acts i = nI (pre.getD i 0)) → StC L X best ways fewest ever first → ∃ fa' best' ways' fewest' ever' acts' wa4' sc4' ho4' of4' first', f_X1_explore_3_L73 (nI c) (nI m) cnt bu cu kds ln li (nI RL.length) be de kd le ri st tr (nI L) (nI w) sc0 wa3 sc3 ho3 of3 fu (nI (wm (stir b RL) (b 4))) (nI j) (nI (k + 1)) fa best ways fewest ever acts wa4 sc4 ho4 of4 first = some (fa', best', ways', fewest', ever', acts', wa4', sc4', ho4', of4', first') ∧ StC L (sFromS (stir b RL) (fun k => sumC RL w d (goA b RL k) (W + goW b RL k) (c + 1) (pre ++ [k]) m) e k X) best' ways' fewest' ever' first' ∧ ∀ i, i < 3 → acts' i = acts i := by
      intro e
      induction e with
      | zero =>
        intro k fu j X best ways fewest ever wa4 sc4 ho4 acts first fa of4 hk hfu hpl hX
        obtain ⟨n, rfl⟩ : ∃ n, fu = n + 1 := ⟨fu - 1, by omega⟩
        rw [f_X1_explore_3_L73, hE.1, if_pos ((q_lt (by omega) (by omega)).mpr (by omega))]
        exact ⟨_, _, _, _, _, _, _, _, _, _, _, rfl, hX, fun _ _ => rfl⟩
      | succ e ih =>
        intro k fu j X best ways fewest ever wa4 sc4 ho4 acts first fa of4 hk hfu hpl hX
        obtain ⟨n, rfl⟩ : ∃ n, fu = n + 1 := ⟨fu - 1, by omega⟩
        rw [f_X1_explore_3_L73, hE.1, if_neg (fun h => by have := (q_lt (by omega) (by omega)).mp h; omega), ← hE.1, if_neg (nI_ne0 (by omega) (by omega)), show nI (k + 1) - 1 = nI k from q_sub (a := k + 1) (b := 1) (by omega)]
        have hbit := wm_bit (stir b RL) (b 4) h4 k (by omega)
        rw [sFromS]
        by_cases c1 : stir b RL k = true
        · rw [if_pos ⟨by omega, c1⟩] at hbit
          rw [if_pos ((q_bit (by omega) (by omega)).mpr hbit), if_pos c1]
          obtain ⟨fa1, best1, ways1, fewest1, ever1, acts1, wa41, sc41, ho41, of41, first1, r1, r2, r3⟩ := act (k + 1) j 0 (nI (wm (stir b RL) (b 4))) (f_X1_explore_3_L73 (nI c) (nI m) cnt bu cu kds ln li (nI RL.length) be de kd le ri st tr (nI L) (nI w) sc0 wa3 sc3 ho3 of3 n) X best ways fewest ever wa4 sc4 ho4 acts first fa of4 (by omega) hpl hX
          rw [if_neg (by omega), if_neg (by omega)] at r2
          obtain ⟨fa', best', ways', fewest', ever', acts', wa4', sc4', ho4', of4', first', t1, t2, t3⟩ := ih (k + 1) n j _ best1 ways1 fewest1 ever1 wa41 sc41 ho41 acts1 first1 fa1 of41 (by omega) (by omega) (fun i hi => by rw [r3 i hi]; exact hpl i hi) r2
          exact ⟨_, _, _, _, _, _, _, _, _, _, _, r1.trans t1, t2, fun i hi => by rw [t3 i hi, r3 i hi]⟩
        · rw [if_neg (fun g => c1 g.2)] at hbit
          rw [if_neg (fun g => by have := (q_bit (by omega) (by omega)).mp g; omega), if_neg c1, qt1, show nI (k + 1) + 1 = nI (k + 1 + 1) from q_add (k + 1) 1]
          exact ih (k + 1) n j X best ways fewest ever wa4 sc4 ho4 acts first fa of4 (by omega) (by omega) hpl hX
    have hj := cntP_le (stir b RL) (b 4)
    obtain ⟨fa1, best1, ways1, fewest1, ever1, acts1, wa41, sc41, ho41, of41, first1, r1, r2, r3⟩ := act 0 (1 + b 4 - cntP (stir b RL) (b 4)) 0 (nI (wm (stir b RL) (b 4))) (f_X1_explore_3_L73 (nI c) (nI m) cnt bu cu kds ln li (nI RL.length) be de kd le ri st tr (nI L) (nI w) sc0 wa3 sc3 ho3 of3 999) S best ways fewest ever wa4 sc4 ho4 acts first fas of4 (by omega) hpl hSt
    rw [if_pos rfl, if_pos rfl] at r2
    obtain ⟨fa', best', ways', fewest', ever', acts', wa4', sc4', ho4', of4', first', t1, t2, t3⟩ := loop (b 4) 0 999 (1 + b 4 - cntP (stir b RL) (b 4)) _ best1 ways1 fewest1 ever1 wa41 sc41 ho41 acts1 first1 fa1 of41 (by omega) (by omega) (fun i hi => by rw [r3 i hi]; exact hpl i hi) r2
    have ej : (1 : Int32) + nI (b 4) - nI (pc (wm (stir b RL) (b 4))) = nI (1 + b 4 - cntP (stir b RL) (b 4)) := by
      rw [pc_wm _ _ h4, show (1 : Int32) = nI 1 from rfl, q_add, q_sub (by omega)]
    have hr : f_X1_explore_3 (nI c) (nI m) cnt bu cu kds ln li (nI RL.length) be de fa kd le ri st tr (nI L) (nI w) best ways fewest ever acts sc0 wa3 sc3 ho3 of3 wa4 sc4 ho4 of4 first = some (fa', best', ways', fewest', ever', acts', wa4', sc4', ho4', of4', first') := by
      unfold f_X1_explore_3
      rw [if_pos (show (3 : Int32) < nI L by rw [show (3 : Int32) = nI 3 from rfl, q_lt (by decide) (by omega)]; omega), s1, qb2, (q_pc _ V6).1, qb1, hE.1, ej, qt1, ← hE.1, f_X1_explore_3_L73, hE.1, if_neg (show ¬ nI (b 4) < 0 from fun g => absurd ((q_lt (b := 0) (by omega) (by decide)).mp g) (by omega)), ← hE.1, if_pos rfl]
      exact r1.trans t1
    refine ⟨_, _, _, _, _, _, _, _, _, _, _, hr, ?_, fun i hi => by rw [t3 i hi, r3 i hi]⟩
    rw [sumC]
    have := sFromS_all (stir b RL) (fun k => sumC RL w d (goA b RL k) (W + goW b RL k) (c + 1) (pre ++ [k]) m) (sumC RL w d (goA b RL 0) (W + goW b RL 0) c (pre ++ [0]) (m * (1 + b 4 - cntP (stir b RL) (b 4)))) S (b 4) 0
    rw [Nat.zero_add] at this
    rw [← this]
    exact t2
theorem e8_ex2 (hw : w < 64) (hC : CRs kd de be st le ri RL) {L : Nat} (hL : L ≤ 4) : ∀ (d : Nat) (b : Nat → Nat) (W c m : Nat) (pre : List Nat) (S : Su) (best ways fewest ever sc0 wa2 sc2 ho2 wa3 sc3 ho3 wa4 sc4 ho4 : Int32) (acts first fa of2 of3 of4 : Nat → Int32), 2 + d = L → BA b → CE cnt kds tr ln li cu bu b → CS wa2 ho2 of2 b → b 0 + d ≤ b 1 → W + 21 * d < 1000 → c ≤ 2 → pre.length = 2 → (∀ i, i < 2 → acts i = nI (pre.getD i 0)) → sc2 = sc0 + nI W → StC L S best ways fewest ever first →
    ∃ fa' best' ways' fewest' ever' acts' wa3' sc3' ho3' of3' wa4' sc4' ho4' of4' first', f_X1_explore_2 (nI c) (nI m) cnt bu cu kds ln li (nI RL.length) be de fa kd le ri st tr (nI L) (nI w) best ways fewest ever acts sc0 wa2 sc2 ho2 of2 wa3 sc3 ho3 of3 wa4 sc4 ho4 of4 first = some (fa', best', ways', fewest', ever', acts', wa3', sc3', ho3', of3', wa4', sc4', ho4', of4', first') ∧ StC L (sJ S (sumC RL w d b W c pre m)) best' ways' fewest' ever' first' ∧ ∀ i, i < 2 → acts' i = acts i := by
  intro d
  cases d with
  | zero =>
    intro b W c m pre S best ways fewest ever sc0 wa2 sc2 ho2 wa3 sc3 ho3 wa4 sc4 ho4 acts first fa of2 of3 of4 ht hB hE hS hO hW hc hpre hpl hsc hSt
    have es : sc2 - sc0 = nI W := by rw [hsc, Int32.add_comm, Int32.add_sub_cancel]
    have eL : L = 2 := by omega
    subst eL
    obtain ⟨best', ways', fewest', ever', first', e, h⟩ := e8_weigh (c := c) (m := m) (w := w) (pre := pre) (acts := acts) hB hSt hL (show W < 2 ^ 28 by omega) (show c ≤ 4 by omega) hpl
    have hr : f_X1_explore_2 (nI c) (nI m) cnt bu cu kds ln li (nI RL.length) be de fa kd le ri st tr (nI 2) (nI w) best ways fewest ever acts sc0 wa2 sc2 ho2 of2 wa3 sc3 ho3 of3 wa4 sc4 ho4 of4 first = some (fa, best', ways', fewest', ever', acts, wa3, sc3, ho3, of3, wa4, sc4, ho4, of4, first') := by
      unfold f_X1_explore_2
      rw [if_neg (show ¬ (2 : Int32) < nI 2 by decide), es, hS.2.1, e, qb5]
    exact ⟨_, _, _, _, _, _, _, _, _, _, _, _, _, _, _, hr, h, fun _ _ => rfl⟩
  | succ d =>
    intro b W c m pre S best ways fewest ever sc0 wa2 sc2 ho2 wa3 sc3 ho3 wa4 sc4 ho4 acts first fa of2 of3 of4 ht hB hE hS hO hW hc hpre hpl hsc hSt
    have h4 := hB.1
    have act : ∀ (k j v5' : Nat) (v5 : Int32) (rec73 : Int32 → Int32 → Int32 → (Nat → Int32) → Int32 → Int32 → Int32 → Int32 → (Nat → Int32) → Int32 → Int32 → Int32 → (Nat → Int32) → Int32 → Int32 → Int32 → (Nat → Int32) → (Nat → Int32) → Option ((Nat → Int32) × Int32 × Int32 × Int32 × Int32 × (Nat → Int32) × Int32 × Int32 × Int32 × (Nat → Int32) × Int32 × Int32 × Int32 × (Nat → Int32) × (Nat → Int32))) (X : Su) (best ways fewest ever wa3 sc3 ho3 wa4 sc4 ho4 : Int32) (acts first fa of3 of4 : Nat → Int32), k ≤ b 4 → (∀ i, i < 2 → acts i = nI (pre.getD i 0)) → StC L X best ways fewest ever first → ∃ fa' best' ways' fewest' ever' acts' wa3' sc3' ho3' of3' wa4' sc4' ho4' of4' first', f_X1_explore_2_b100 rec73 (nI c) (nI m) cnt bu cu kds ln li (nI RL.length) be de kd le ri st tr (nI L) (nI w) sc0 wa2 sc2 ho2 of2 v5 (nI j) (nI k) fa best ways fewest ever acts wa3 sc3 ho3 of3 wa4 sc4 ho4 of4 first = rec73 v5 (nI j) (nI (k + 1)) fa' best' ways' fewest' ever' acts' wa3' sc3' ho3' of3' wa4' sc4' ho4' of4' first' ∧ StC L (sJ X (sumC RL w d (goA b RL k) (W + goW b RL k) (if k = 0 then c else c + 1) (pre ++ [k]) (if k = 0 then m * j else m))) best' ways' fewest' ever' first' ∧ ∀ i, i < 2 → acts' i = acts i := by
      intro k j v5' v5 rec73 X best ways fewest ever wa3 sc3 ho3 wa4 sc4 ho4 acts first fa of3 of4 hk hpl hX
      have hg := goW_le (RL := RL) hB k
      have hSc := CS_cpy (of0 := of3) hS
      obtain ⟨wx, hox, ofx, fax, p1, p2⟩ := e8_pass (fa := fa) (sc := sc2) hB hE hSc hC (act := k) hk
      have hpl2 : ∀ i, i < 3 → upd acts 2 (nI k) i = nI ((pre ++ [k]).getD i 0) := by
        intro i hi
        unfold upd
        by_cases c1 : i = 2
        · rw [if_pos c1, c1, gD_at hpre]
        · rw [if_neg c1, gD_lt hpre (by omega)]; exact hpl i (by omega)
      have hBg := BA_goA (RL := RL) hB (act := k) (by omega)
      have esc : sc2 + nI (goW b RL k) = sc0 + nI (W + goW b RL k) := by
        rw [hsc, Int32.add_assoc, q_add]
      obtain ⟨fa', best', ways', fewest', ever', acts', wa4', sc4', ho4', of4', first', r1, r2, r3⟩ := e8_ex3 (w := w) hw hC hL d (goA b RL k) (W + goW b RL k) (if k = 0 then c else c + 1) (if k = 0 then m * j else m) (pre ++ [k]) X best ways fewest ever sc0 wx (sc2 + nI (goW b RL k)) hox wa4 sc4 ho4 (upd acts 2 (nI k)) first fax ofx of4 (by omega) hBg (CE_goA hB hE) p2 (by rw [goA_0, goA_1 hB]; omega) (by omega) (by split <;> omega) (by rw [List.length_append, hpre]; rfl) hpl2 esc hX
      refine ⟨fa', best', ways', fewest', ever', acts', wx, (sc2 + nI (goW b RL k)), hox, ofx, wa4', sc4', ho4', of4', first', ?_, r2, fun i hi => by rw [r3 i (by omega)]; unfold upd; rw [if_neg (by omega)]⟩
      unfold f_X1_explore_2_b100 f_X1_explore_2_b157
      rw [e8_become, qb4, p1, qb6, show nI c + 1 = nI (c + 1) from q_add c 1, show nI k + 1 = nI (k + 1) from q_add k 1, q_mul]
      by_cases c1 : k = 0
      · rw [if_pos (show nI k = 0 by rw [c1]; rfl), if_pos (show nI k = 0 by rw [c1]; rfl)]
        rw [if_pos c1, if_pos c1] at r1
        rw [r1]; rfl
      · rw [if_neg (nI_ne0 (by omega) (by omega)), if_neg (nI_ne0 (by omega) (by omega))]
        rw [if_neg c1, if_neg c1] at r1
        rw [r1]; rfl
    obtain ⟨fas, s1⟩ := e8_stirring (fa := fa) hB hE hS hC
    have V6 := wm_64 (stir b RL) h4
    have loop : ∀ (e k fu j : Nat) (X : Su) (best ways fewest ever wa3 sc3 ho3 wa4 sc4 ho4 : Int32) (acts first fa of3 of4 : Nat → Int32), k + e = b 4 → e < fu → (∀ i, i < 2 → acts i = nI (pre.getD i 0)) → StC L X best ways fewest ever first → ∃ fa' best' ways' fewest' ever' acts' wa3' sc3' ho3' of3' wa4' sc4' ho4' of4' first', f_X1_explore_2_L73 (nI c) (nI m) cnt bu cu kds ln li (nI RL.length) be de kd le ri st tr (nI L) (nI w) sc0 wa2 sc2 ho2 of2 fu (nI (wm (stir b RL) (b 4))) (nI j) (nI (k + 1)) fa best ways fewest ever acts wa3 sc3 ho3 of3 wa4 sc4 ho4 of4 first = some (fa', best', ways', fewest', ever', acts', wa3', sc3', ho3', of3', wa4', sc4', ho4', of4', first') ∧ StC L (sFromS (stir b RL) (fun k => sumC RL w d (goA b RL k) (W + goW b RL k) (c + 1) (pre ++ [k]) m) e k X) best' ways' fewest' ever' first' ∧ ∀ i, i < 2 → acts' i = acts i := by
      intro e
      induction e with
      | zero =>
        intro k fu j X best ways fewest ever wa3 sc3 ho3 wa4 sc4 ho4 acts first fa of3 of4 hk hfu hpl hX
        obtain ⟨n, rfl⟩ : ∃ n, fu = n + 1 := ⟨fu - 1, by omega⟩
        rw [f_X1_explore_2_L73, hE.1, if_pos ((q_lt (by omega) (by omega)).mpr (by omega))]
        exact ⟨_, _, _, _, _, _, _, _, _, _, _, _, _, _, _, rfl, hX, fun _ _ => rfl⟩
      | succ e ih =>
        intro k fu j X best ways fewest ever wa3 sc3 ho3 wa4 sc4 ho4 acts first fa of3 of4 hk hfu hpl hX
        obtain ⟨n, rfl⟩ : ∃ n, fu = n + 1 := ⟨fu - 1, by omega⟩
        rw [f_X1_explore_2_L73, hE.1, if_neg (fun h => by have := (q_lt (by omega) (by omega)).mp h; omega), ← hE.1, if_neg (nI_ne0 (by omega) (by omega)), show nI (k + 1) - 1 = nI k from q_sub (a := k + 1) (b := 1) (by omega)]
        have hbit := wm_bit (stir b RL) (b 4) h4 k (by omega)
        rw [sFromS]
        by_cases c1 : stir b RL k = true
        · rw [if_pos ⟨by omega, c1⟩] at hbit
          rw [if_pos ((q_bit (by omega) (by omega)).mpr hbit), if_pos c1]
          obtain ⟨fa1, best1, ways1, fewest1, ever1, acts1, wa31, sc31, ho31, of31, wa41, sc41, ho41, of41, first1, r1, r2, r3⟩ := act (k + 1) j 0 (nI (wm (stir b RL) (b 4))) (f_X1_explore_2_L73 (nI c) (nI m) cnt bu cu kds ln li (nI RL.length) be de kd le ri st tr (nI L) (nI w) sc0 wa2 sc2 ho2 of2 n) X best ways fewest ever wa3 sc3 ho3 wa4 sc4 ho4 acts first fa of3 of4 (by omega) hpl hX
          rw [if_neg (by omega), if_neg (by omega)] at r2
          obtain ⟨fa', best', ways', fewest', ever', acts', wa3', sc3', ho3', of3', wa4', sc4', ho4', of4', first', t1, t2, t3⟩ := ih (k + 1) n j _ best1 ways1 fewest1 ever1 wa31 sc31 ho31 wa41 sc41 ho41 acts1 first1 fa1 of31 of41 (by omega) (by omega) (fun i hi => by rw [r3 i hi]; exact hpl i hi) r2
          exact ⟨_, _, _, _, _, _, _, _, _, _, _, _, _, _, _, r1.trans t1, t2, fun i hi => by rw [t3 i hi, r3 i hi]⟩
        · rw [if_neg (fun g => c1 g.2)] at hbit
          rw [if_neg (fun g => by have := (q_bit (by omega) (by omega)).mp g; omega), if_neg c1, qt1, show nI (k + 1) + 1 = nI (k + 1 + 1) from q_add (k + 1) 1]
          exact ih (k + 1) n j X best ways fewest ever wa3 sc3 ho3 wa4 sc4 ho4 acts first fa of3 of4 (by omega) (by omega) hpl hX
    have hj := cntP_le (stir b RL) (b 4)
    obtain ⟨fa1, best1, ways1, fewest1, ever1, acts1, wa31, sc31, ho31, of31, wa41, sc41, ho41, of41, first1, r1, r2, r3⟩ := act 0 (1 + b 4 - cntP (stir b RL) (b 4)) 0 (nI (wm (stir b RL) (b 4))) (f_X1_explore_2_L73 (nI c) (nI m) cnt bu cu kds ln li (nI RL.length) be de kd le ri st tr (nI L) (nI w) sc0 wa2 sc2 ho2 of2 999) S best ways fewest ever wa3 sc3 ho3 wa4 sc4 ho4 acts first fas of3 of4 (by omega) hpl hSt
    rw [if_pos rfl, if_pos rfl] at r2
    obtain ⟨fa', best', ways', fewest', ever', acts', wa3', sc3', ho3', of3', wa4', sc4', ho4', of4', first', t1, t2, t3⟩ := loop (b 4) 0 999 (1 + b 4 - cntP (stir b RL) (b 4)) _ best1 ways1 fewest1 ever1 wa31 sc31 ho31 wa41 sc41 ho41 acts1 first1 fa1 of31 of41 (by omega) (by omega) (fun i hi => by rw [r3 i hi]; exact hpl i hi) r2
    have ej : (1 : Int32) + nI (b 4) - nI (pc (wm (stir b RL) (b 4))) = nI (1 + b 4 - cntP (stir b RL) (b 4)) := by
      rw [pc_wm _ _ h4, show (1 : Int32) = nI 1 from rfl, q_add, q_sub (by omega)]
    have hr : f_X1_explore_2 (nI c) (nI m) cnt bu cu kds ln li (nI RL.length) be de fa kd le ri st tr (nI L) (nI w) best ways fewest ever acts sc0 wa2 sc2 ho2 of2 wa3 sc3 ho3 of3 wa4 sc4 ho4 of4 first = some (fa', best', ways', fewest', ever', acts', wa3', sc3', ho3', of3', wa4', sc4', ho4', of4', first') := by
      unfold f_X1_explore_2
      rw [if_pos (show (2 : Int32) < nI L by rw [show (2 : Int32) = nI 2 from rfl, q_lt (by decide) (by omega)]; omega), s1, qb2, (q_pc _ V6).1, qb1, hE.1, ej, qt1, ← hE.1, f_X1_explore_2_L73, hE.1, if_neg (show ¬ nI (b 4) < 0 from fun g => absurd ((q_lt (b := 0) (by omega) (by decide)).mp g) (by omega)), ← hE.1, if_pos rfl]
      exact r1.trans t1
    refine ⟨_, _, _, _, _, _, _, _, _, _, _, _, _, _, _, hr, ?_, fun i hi => by rw [t3 i hi, r3 i hi]⟩
    rw [sumC]
    have := sFromS_all (stir b RL) (fun k => sumC RL w d (goA b RL k) (W + goW b RL k) (c + 1) (pre ++ [k]) m) (sumC RL w d (goA b RL 0) (W + goW b RL 0) c (pre ++ [0]) (m * (1 + b 4 - cntP (stir b RL) (b 4)))) S (b 4) 0
    rw [Nat.zero_add] at this
    rw [← this]
    exact t2
theorem e8_ex1 (hw : w < 64) (hC : CRs kd de be st le ri RL) {L : Nat} (hL : L ≤ 4) : ∀ (d : Nat) (b : Nat → Nat) (W c m : Nat) (pre : List Nat) (S : Su) (best ways fewest ever sc0 wa1 sc1 ho1 wa2 sc2 ho2 wa3 sc3 ho3 wa4 sc4 ho4 : Int32) (acts first fa of1 of2 of3 of4 : Nat → Int32), 1 + d = L → BA b → CE cnt kds tr ln li cu bu b → CS wa1 ho1 of1 b → b 0 + d ≤ b 1 → W + 21 * d < 1000 → c ≤ 1 → pre.length = 1 → (∀ i, i < 1 → acts i = nI (pre.getD i 0)) → sc1 = sc0 + nI W → StC L S best ways fewest ever first →
    ∃ fa' best' ways' fewest' ever' acts' wa2' sc2' ho2' of2' wa3' sc3' ho3' of3' wa4' sc4' ho4' of4' first', f_X1_explore_1 (nI c) (nI m) cnt bu cu kds ln li (nI RL.length) be de fa kd le ri st tr (nI L) (nI w) best ways fewest ever acts sc0 wa1 sc1 ho1 of1 wa2 sc2 ho2 of2 wa3 sc3 ho3 of3 wa4 sc4 ho4 of4 first = some (fa', best', ways', fewest', ever', acts', wa2', sc2', ho2', of2', wa3', sc3', ho3', of3', wa4', sc4', ho4', of4', first') ∧ StC L (sJ S (sumC RL w d b W c pre m)) best' ways' fewest' ever' first' ∧ ∀ i, i < 1 → acts' i = acts i := by
  intro d
  cases d with
  | zero =>
    intro b W c m pre S best ways fewest ever sc0 wa1 sc1 ho1 wa2 sc2 ho2 wa3 sc3 ho3 wa4 sc4 ho4 acts first fa of1 of2 of3 of4 ht hB hE hS hO hW hc hpre hpl hsc hSt
    have es : sc1 - sc0 = nI W := by rw [hsc, Int32.add_comm, Int32.add_sub_cancel]
    have eL : L = 1 := by omega
    subst eL
    obtain ⟨best', ways', fewest', ever', first', e, h⟩ := e8_weigh (c := c) (m := m) (w := w) (pre := pre) (acts := acts) hB hSt hL (show W < 2 ^ 28 by omega) (show c ≤ 4 by omega) hpl
    have hr : f_X1_explore_1 (nI c) (nI m) cnt bu cu kds ln li (nI RL.length) be de fa kd le ri st tr (nI 1) (nI w) best ways fewest ever acts sc0 wa1 sc1 ho1 of1 wa2 sc2 ho2 of2 wa3 sc3 ho3 of3 wa4 sc4 ho4 of4 first = some (fa, best', ways', fewest', ever', acts, wa2, sc2, ho2, of2, wa3, sc3, ho3, of3, wa4, sc4, ho4, of4, first') := by
      unfold f_X1_explore_1
      rw [if_neg (show ¬ (1 : Int32) < nI 1 by decide), es, hS.2.1, e, qb5]
    exact ⟨_, _, _, _, _, _, _, _, _, _, _, _, _, _, _, _, _, _, _, hr, h, fun _ _ => rfl⟩
  | succ d =>
    intro b W c m pre S best ways fewest ever sc0 wa1 sc1 ho1 wa2 sc2 ho2 wa3 sc3 ho3 wa4 sc4 ho4 acts first fa of1 of2 of3 of4 ht hB hE hS hO hW hc hpre hpl hsc hSt
    have h4 := hB.1
    have act : ∀ (k j v5' : Nat) (v5 : Int32) (rec73 : Int32 → Int32 → Int32 → (Nat → Int32) → Int32 → Int32 → Int32 → Int32 → (Nat → Int32) → Int32 → Int32 → Int32 → (Nat → Int32) → Int32 → Int32 → Int32 → (Nat → Int32) → Int32 → Int32 → Int32 → (Nat → Int32) → (Nat → Int32) → Option ((Nat → Int32) × Int32 × Int32 × Int32 × Int32 × (Nat → Int32) × Int32 × Int32 × Int32 × (Nat → Int32) × Int32 × Int32 × Int32 × (Nat → Int32) × Int32 × Int32 × Int32 × (Nat → Int32) × (Nat → Int32))) (X : Su) (best ways fewest ever wa2 sc2 ho2 wa3 sc3 ho3 wa4 sc4 ho4 : Int32) (acts first fa of2 of3 of4 : Nat → Int32), k ≤ b 4 → (∀ i, i < 1 → acts i = nI (pre.getD i 0)) → StC L X best ways fewest ever first → ∃ fa' best' ways' fewest' ever' acts' wa2' sc2' ho2' of2' wa3' sc3' ho3' of3' wa4' sc4' ho4' of4' first', f_X1_explore_1_b100 rec73 (nI c) (nI m) cnt bu cu kds ln li (nI RL.length) be de kd le ri st tr (nI L) (nI w) sc0 wa1 sc1 ho1 of1 v5 (nI j) (nI k) fa best ways fewest ever acts wa2 sc2 ho2 of2 wa3 sc3 ho3 of3 wa4 sc4 ho4 of4 first = rec73 v5 (nI j) (nI (k + 1)) fa' best' ways' fewest' ever' acts' wa2' sc2' ho2' of2' wa3' sc3' ho3' of3' wa4' sc4' ho4' of4' first' ∧ StC L (sJ X (sumC RL w d (goA b RL k) (W + goW b RL k) (if k = 0 then c else c + 1) (pre ++ [k]) (if k = 0 then m * j else m))) best' ways' fewest' ever' first' ∧ ∀ i, i < 1 → acts' i = acts i := by
      intro k j v5' v5 rec73 X best ways fewest ever wa2 sc2 ho2 wa3 sc3 ho3 wa4 sc4 ho4 acts first fa of2 of3 of4 hk hpl hX
      have hg := goW_le (RL := RL) hB k
      have hSc := CS_cpy (of0 := of2) hS
      obtain ⟨wx, hox, ofx, fax, p1, p2⟩ := e8_pass (fa := fa) (sc := sc1) hB hE hSc hC (act := k) hk
      have hpl2 : ∀ i, i < 2 → upd acts 1 (nI k) i = nI ((pre ++ [k]).getD i 0) := by
        intro i hi
        unfold upd
        by_cases c1 : i = 1
        · rw [if_pos c1, c1, gD_at hpre]
        · rw [if_neg c1, gD_lt hpre (by omega)]; exact hpl i (by omega)
      have hBg := BA_goA (RL := RL) hB (act := k) (by omega)
      have esc : sc1 + nI (goW b RL k) = sc0 + nI (W + goW b RL k) := by
        rw [hsc, Int32.add_assoc, q_add]
      obtain ⟨fa', best', ways', fewest', ever', acts', wa3', sc3', ho3', of3', wa4', sc4', ho4', of4', first', r1, r2, r3⟩ := e8_ex2 (w := w) hw hC hL d (goA b RL k) (W + goW b RL k) (if k = 0 then c else c + 1) (if k = 0 then m * j else m) (pre ++ [k]) X best ways fewest ever sc0 wx (sc1 + nI (goW b RL k)) hox wa3 sc3 ho3 wa4 sc4 ho4 (upd acts 1 (nI k)) first fax ofx of3 of4 (by omega) hBg (CE_goA hB hE) p2 (by rw [goA_0, goA_1 hB]; omega) (by omega) (by split <;> omega) (by rw [List.length_append, hpre]; rfl) hpl2 esc hX
      refine ⟨fa', best', ways', fewest', ever', acts', wx, (sc1 + nI (goW b RL k)), hox, ofx, wa3', sc3', ho3', of3', wa4', sc4', ho4', of4', first', ?_, r2, fun i hi => by rw [r3 i (by omega)]; unfold upd; rw [if_neg (by omega)]⟩
      unfold f_X1_explore_1_b100 f_X1_explore_1_b157
      rw [e8_become, qb4, p1, qb6, show nI c + 1 = nI (c + 1) from q_add c 1, show nI k + 1 = nI (k + 1) from q_add k 1, q_mul]
      by_cases c1 : k = 0
      · rw [if_pos (show nI k = 0 by rw [c1]; rfl), if_pos (show nI k = 0 by rw [c1]; rfl)]
        rw [if_pos c1, if_pos c1] at r1
        rw [r1]; rfl
      · rw [if_neg (nI_ne0 (by omega) (by omega)), if_neg (nI_ne0 (by omega) (by omega))]
        rw [if_neg c1, if_neg c1] at r1
        rw [r1]; rfl
    obtain ⟨fas, s1⟩ := e8_stirring (fa := fa) hB hE hS hC
    have V6 := wm_64 (stir b RL) h4
    have loop : ∀ (e k fu j : Nat) (X : Su) (best ways fewest ever wa2 sc2 ho2 wa3 sc3 ho3 wa4 sc4 ho4 : Int32) (acts first fa of2 of3 of4 : Nat → Int32), k + e = b 4 → e < fu → (∀ i, i < 1 → acts i = nI (pre.getD i 0)) → StC L X best ways fewest ever first → ∃ fa' best' ways' fewest' ever' acts' wa2' sc2' ho2' of2' wa3' sc3' ho3' of3' wa4' sc4' ho4' of4' first', f_X1_explore_1_L73 (nI c) (nI m) cnt bu cu kds ln li (nI RL.length) be de kd le ri st tr (nI L) (nI w) sc0 wa1 sc1 ho1 of1 fu (nI (wm (stir b RL) (b 4))) (nI j) (nI (k + 1)) fa best ways fewest ever acts wa2 sc2 ho2 of2 wa3 sc3 ho3 of3 wa4 sc4 ho4 of4 first = some (fa', best', ways', fewest', ever', acts', wa2', sc2', ho2', of2', wa3', sc3', ho3', of3', wa4', sc4', ho4', of4', first') ∧ StC L (sFromS (stir b RL) (fun k => sumC RL w d (goA b RL k) (W + goW b RL k) (c + 1) (pre ++ [k]) m) e k X) best' ways' fewest' ever' first' ∧ ∀ i, i < 1 → acts' i = acts i := by
      intro e
      induction e with
      | zero =>
        intro k fu j X best ways fewest ever wa2 sc2 ho2 wa3 sc3 ho3 wa4 sc4 ho4 acts first fa of2 of3 of4 hk hfu hpl hX
        obtain ⟨n, rfl⟩ : ∃ n, fu = n + 1 := ⟨fu - 1, by omega⟩
        rw [f_X1_explore_1_L73, hE.1, if_pos ((q_lt (by omega) (by omega)).mpr (by omega))]
        exact ⟨_, _, _, _, _, _, _, _, _, _, _, _, _, _, _, _, _, _, _, rfl, hX, fun _ _ => rfl⟩
      | succ e ih =>
        intro k fu j X best ways fewest ever wa2 sc2 ho2 wa3 sc3 ho3 wa4 sc4 ho4 acts first fa of2 of3 of4 hk hfu hpl hX
        obtain ⟨n, rfl⟩ : ∃ n, fu = n + 1 := ⟨fu - 1, by omega⟩
        rw [f_X1_explore_1_L73, hE.1, if_neg (fun h => by have := (q_lt (by omega) (by omega)).mp h; omega), ← hE.1, if_neg (nI_ne0 (by omega) (by omega)), show nI (k + 1) - 1 = nI k from q_sub (a := k + 1) (b := 1) (by omega)]
        have hbit := wm_bit (stir b RL) (b 4) h4 k (by omega)
        rw [sFromS]
        by_cases c1 : stir b RL k = true
        · rw [if_pos ⟨by omega, c1⟩] at hbit
          rw [if_pos ((q_bit (by omega) (by omega)).mpr hbit), if_pos c1]
          obtain ⟨fa1, best1, ways1, fewest1, ever1, acts1, wa21, sc21, ho21, of21, wa31, sc31, ho31, of31, wa41, sc41, ho41, of41, first1, r1, r2, r3⟩ := act (k + 1) j 0 (nI (wm (stir b RL) (b 4))) (f_X1_explore_1_L73 (nI c) (nI m) cnt bu cu kds ln li (nI RL.length) be de kd le ri st tr (nI L) (nI w) sc0 wa1 sc1 ho1 of1 n) X best ways fewest ever wa2 sc2 ho2 wa3 sc3 ho3 wa4 sc4 ho4 acts first fa of2 of3 of4 (by omega) hpl hX
          rw [if_neg (by omega), if_neg (by omega)] at r2
          obtain ⟨fa', best', ways', fewest', ever', acts', wa2', sc2', ho2', of2', wa3', sc3', ho3', of3', wa4', sc4', ho4', of4', first', t1, t2, t3⟩ := ih (k + 1) n j _ best1 ways1 fewest1 ever1 wa21 sc21 ho21 wa31 sc31 ho31 wa41 sc41 ho41 acts1 first1 fa1 of21 of31 of41 (by omega) (by omega) (fun i hi => by rw [r3 i hi]; exact hpl i hi) r2
          exact ⟨_, _, _, _, _, _, _, _, _, _, _, _, _, _, _, _, _, _, _, r1.trans t1, t2, fun i hi => by rw [t3 i hi, r3 i hi]⟩
        · rw [if_neg (fun g => c1 g.2)] at hbit
          rw [if_neg (fun g => by have := (q_bit (by omega) (by omega)).mp g; omega), if_neg c1, qt1, show nI (k + 1) + 1 = nI (k + 1 + 1) from q_add (k + 1) 1]
          exact ih (k + 1) n j X best ways fewest ever wa2 sc2 ho2 wa3 sc3 ho3 wa4 sc4 ho4 acts first fa of2 of3 of4 (by omega) (by omega) hpl hX
    have hj := cntP_le (stir b RL) (b 4)
    obtain ⟨fa1, best1, ways1, fewest1, ever1, acts1, wa21, sc21, ho21, of21, wa31, sc31, ho31, of31, wa41, sc41, ho41, of41, first1, r1, r2, r3⟩ := act 0 (1 + b 4 - cntP (stir b RL) (b 4)) 0 (nI (wm (stir b RL) (b 4))) (f_X1_explore_1_L73 (nI c) (nI m) cnt bu cu kds ln li (nI RL.length) be de kd le ri st tr (nI L) (nI w) sc0 wa1 sc1 ho1 of1 999) S best ways fewest ever wa2 sc2 ho2 wa3 sc3 ho3 wa4 sc4 ho4 acts first fas of2 of3 of4 (by omega) hpl hSt
    rw [if_pos rfl, if_pos rfl] at r2
    obtain ⟨fa', best', ways', fewest', ever', acts', wa2', sc2', ho2', of2', wa3', sc3', ho3', of3', wa4', sc4', ho4', of4', first', t1, t2, t3⟩ := loop (b 4) 0 999 (1 + b 4 - cntP (stir b RL) (b 4)) _ best1 ways1 fewest1 ever1 wa21 sc21 ho21 wa31 sc31 ho31 wa41 sc41 ho41 acts1 first1 fa1 of21 of31 of41 (by omega) (by omega) (fun i hi => by rw [r3 i hi]; exact hpl i hi) r2
    have ej : (1 : Int32) + nI (b 4) - nI (pc (wm (stir b RL) (b 4))) = nI (1 + b 4 - cntP (stir b RL) (b 4)) := by
      rw [pc_wm _ _ h4, show (1 : Int32) = nI 1 from rfl, q_add, q_sub (by omega)]
    have hr : f_X1_explore_1 (nI c) (nI m) cnt bu cu kds ln li (nI RL.length) be de fa kd le ri st tr (nI L) (nI w) best ways fewest ever acts sc0 wa1 sc1 ho1 of1 wa2 sc2 ho2 of2 wa3 sc3 ho3 of3 wa4 sc4 ho4 of4 first = some (fa', best', ways', fewest', ever', acts', wa2', sc2', ho2', of2', wa3', sc3', ho3', of3', wa4', sc4', ho4', of4', first') := by
      unfold f_X1_explore_1
      rw [if_pos (show (1 : Int32) < nI L by rw [show (1 : Int32) = nI 1 from rfl, q_lt (by decide) (by omega)]; omega), s1, qb2, (q_pc _ V6).1, qb1, hE.1, ej, qt1, ← hE.1, f_X1_explore_1_L73, hE.1, if_neg (show ¬ nI (b 4) < 0 from fun g => absurd ((q_lt (b := 0) (by omega) (by decide)).mp g) (by omega)), ← hE.1, if_pos rfl]
      exact r1.trans t1
    refine ⟨_, _, _, _, _, _, _, _, _, _, _, _, _, _, _, _, _, _, _, hr, ?_, fun i hi => by rw [t3 i hi, r3 i hi]⟩
    rw [sumC]
    have := sFromS_all (stir b RL) (fun k => sumC RL w d (goA b RL k) (W + goW b RL k) (c + 1) (pre ++ [k]) m) (sumC RL w d (goA b RL 0) (W + goW b RL 0) c (pre ++ [0]) (m * (1 + b 4 - cntP (stir b RL) (b 4)))) S (b 4) 0
    rw [Nat.zero_add] at this
    rw [← this]
    exact t2
theorem e8_ex0 (hw : w < 64) (hC : CRs kd de be st le ri RL) {L : Nat} (hL : L ≤ 4) : ∀ (d : Nat) (b : Nat → Nat) (W c m : Nat) (pre : List Nat) (S : Su) (best ways fewest ever wa0 sc0 ho0 wa1 sc1 ho1 wa2 sc2 ho2 wa3 sc3 ho3 wa4 sc4 ho4 : Int32) (acts first fa of0 of1 of2 of3 of4 : Nat → Int32), 0 + d = L → BA b → CE cnt kds tr ln li cu bu b → CS wa0 ho0 of0 b → b 0 + d ≤ b 1 → W + 21 * d < 1000 → c ≤ 0 → pre.length = 0 → (∀ i, i < 0 → acts i = nI (pre.getD i 0)) → W = 0 → StC L S best ways fewest ever first →
    ∃ fa' best' ways' fewest' ever' acts' wa1' sc1' ho1' of1' wa2' sc2' ho2' of2' wa3' sc3' ho3' of3' wa4' sc4' ho4' of4' first', f_X1_explore_0 (nI c) (nI m) cnt bu cu kds ln li (nI RL.length) be de fa kd le ri st tr (nI L) (nI w) best ways fewest ever acts wa0 sc0 ho0 of0 wa1 sc1 ho1 of1 wa2 sc2 ho2 of2 wa3 sc3 ho3 of3 wa4 sc4 ho4 of4 first = some (fa', best', ways', fewest', ever', acts', wa1', sc1', ho1', of1', wa2', sc2', ho2', of2', wa3', sc3', ho3', of3', wa4', sc4', ho4', of4', first') ∧ StC L (sJ S (sumC RL w d b W c pre m)) best' ways' fewest' ever' first' ∧ ∀ i, i < 0 → acts' i = acts i := by
  intro d
  cases d with
  | zero =>
    intro b W c m pre S best ways fewest ever wa0 sc0 ho0 wa1 sc1 ho1 wa2 sc2 ho2 wa3 sc3 ho3 wa4 sc4 ho4 acts first fa of0 of1 of2 of3 of4 ht hB hE hS hO hW hc hpre hpl hsc hSt
    have es : sc0 - sc0 = nI W := by rw [hsc, Int32.sub_self]; rfl
    have eL : L = 0 := by omega
    subst eL
    obtain ⟨best', ways', fewest', ever', first', e, h⟩ := e8_weigh (c := c) (m := m) (w := w) (pre := pre) (acts := acts) hB hSt hL (show W < 2 ^ 28 by omega) (show c ≤ 4 by omega) hpl
    have hr : f_X1_explore_0 (nI c) (nI m) cnt bu cu kds ln li (nI RL.length) be de fa kd le ri st tr (nI 0) (nI w) best ways fewest ever acts wa0 sc0 ho0 of0 wa1 sc1 ho1 of1 wa2 sc2 ho2 of2 wa3 sc3 ho3 of3 wa4 sc4 ho4 of4 first = some (fa, best', ways', fewest', ever', acts, wa1, sc1, ho1, of1, wa2, sc2, ho2, of2, wa3, sc3, ho3, of3, wa4, sc4, ho4, of4, first') := by
      unfold f_X1_explore_0
      rw [if_neg (show ¬ (0 : Int32) < nI 0 by decide), es, hS.2.1, e, qb5]
    exact ⟨_, _, _, _, _, _, _, _, _, _, _, _, _, _, _, _, _, _, _, _, _, _, _, hr, h, fun _ _ => rfl⟩
  | succ d =>
    intro b W c m pre S best ways fewest ever wa0 sc0 ho0 wa1 sc1 ho1 wa2 sc2 ho2 wa3 sc3 ho3 wa4 sc4 ho4 acts first fa of0 of1 of2 of3 of4 ht hB hE hS hO hW hc hpre hpl hsc hSt
    have h4 := hB.1
    have act : ∀ (k j v5' : Nat) (v5 : Int32) (rec73 : Int32 → Int32 → Int32 → (Nat → Int32) → Int32 → Int32 → Int32 → Int32 → (Nat → Int32) → Int32 → Int32 → Int32 → (Nat → Int32) → Int32 → Int32 → Int32 → (Nat → Int32) → Int32 → Int32 → Int32 → (Nat → Int32) → Int32 → Int32 → Int32 → (Nat → Int32) → (Nat → Int32) → Option ((Nat → Int32) × Int32 × Int32 × Int32 × Int32 × (Nat → Int32) × Int32 × Int32 × Int32 × (Nat → Int32) × Int32 × Int32 × Int32 × (Nat → Int32) × Int32 × Int32 × Int32 × (Nat → Int32) × Int32 × Int32 × Int32 × (Nat → Int32) × (Nat → Int32))) (X : Su) (best ways fewest ever wa1 sc1 ho1 wa2 sc2 ho2 wa3 sc3 ho3 wa4 sc4 ho4 : Int32) (acts first fa of1 of2 of3 of4 : Nat → Int32), k ≤ b 4 → (∀ i, i < 0 → acts i = nI (pre.getD i 0)) → StC L X best ways fewest ever first → ∃ fa' best' ways' fewest' ever' acts' wa1' sc1' ho1' of1' wa2' sc2' ho2' of2' wa3' sc3' ho3' of3' wa4' sc4' ho4' of4' first', f_X1_explore_0_b100 rec73 (nI c) (nI m) cnt bu cu kds ln li (nI RL.length) be de kd le ri st tr (nI L) (nI w) wa0 sc0 ho0 of0 v5 (nI j) (nI k) fa best ways fewest ever acts wa1 sc1 ho1 of1 wa2 sc2 ho2 of2 wa3 sc3 ho3 of3 wa4 sc4 ho4 of4 first = rec73 v5 (nI j) (nI (k + 1)) fa' best' ways' fewest' ever' acts' wa1' sc1' ho1' of1' wa2' sc2' ho2' of2' wa3' sc3' ho3' of3' wa4' sc4' ho4' of4' first' ∧ StC L (sJ X (sumC RL w d (goA b RL k) (W + goW b RL k) (if k = 0 then c else c + 1) (pre ++ [k]) (if k = 0 then m * j else m))) best' ways' fewest' ever' first' ∧ ∀ i, i < 0 → acts' i = acts i := by
      intro k j v5' v5 rec73 X best ways fewest ever wa1 sc1 ho1 wa2 sc2 ho2 wa3 sc3 ho3 wa4 sc4 ho4 acts first fa of1 of2 of3 of4 hk hpl hX
      have hg := goW_le (RL := RL) hB k
      have hSc := CS_cpy (of0 := of1) hS
      obtain ⟨wx, hox, ofx, fax, p1, p2⟩ := e8_pass (fa := fa) (sc := sc0) hB hE hSc hC (act := k) hk
      have hpl2 : ∀ i, i < 1 → upd acts 0 (nI k) i = nI ((pre ++ [k]).getD i 0) := by
        intro i hi
        unfold upd
        by_cases c1 : i = 0
        · rw [if_pos c1, c1, gD_at hpre]
        · rw [if_neg c1, gD_lt hpre (by omega)]; exact hpl i (by omega)
      have hBg := BA_goA (RL := RL) hB (act := k) (by omega)
      have esc : sc0 + nI (goW b RL k) = sc0 + nI (W + goW b RL k) := by
        rw [hsc, Nat.zero_add]
      obtain ⟨fa', best', ways', fewest', ever', acts', wa2', sc2', ho2', of2', wa3', sc3', ho3', of3', wa4', sc4', ho4', of4', first', r1, r2, r3⟩ := e8_ex1 (w := w) hw hC hL d (goA b RL k) (W + goW b RL k) (if k = 0 then c else c + 1) (if k = 0 then m * j else m) (pre ++ [k]) X best ways fewest ever sc0 wx (sc0 + nI (goW b RL k)) hox wa2 sc2 ho2 wa3 sc3 ho3 wa4 sc4 ho4 (upd acts 0 (nI k)) first fax ofx of2 of3 of4 (by omega) hBg (CE_goA hB hE) p2 (by rw [goA_0, goA_1 hB]; omega) (by omega) (by split <;> omega) (by rw [List.length_append, hpre]; rfl) hpl2 esc hX
      refine ⟨fa', best', ways', fewest', ever', acts', wx, (sc0 + nI (goW b RL k)), hox, ofx, wa2', sc2', ho2', of2', wa3', sc3', ho3', of3', wa4', sc4', ho4', of4', first', ?_, r2, fun i hi => by rw [r3 i (by omega)]; unfold upd; rw [if_neg (by omega)]⟩
      unfold f_X1_explore_0_b100 f_X1_explore_0_b157
      rw [e8_become, qb4, p1, qb6, show nI c + 1 = nI (c + 1) from q_add c 1, show nI k + 1 = nI (k + 1) from q_add k 1, q_mul]
      by_cases c1 : k = 0
      · rw [if_pos (show nI k = 0 by rw [c1]; rfl), if_pos (show nI k = 0 by rw [c1]; rfl)]
        rw [if_pos c1, if_pos c1] at r1
        rw [r1]; rfl
      · rw [if_neg (nI_ne0 (by omega) (by omega)), if_neg (nI_ne0 (by omega) (by omega))]
        rw [if_neg c1, if_neg c1] at r1
        rw [r1]; rfl
    obtain ⟨fas, s1⟩ := e8_stirring (fa := fa) hB hE hS hC
    have V6 := wm_64 (stir b RL) h4
    have loop : ∀ (e k fu j : Nat) (X : Su) (best ways fewest ever wa1 sc1 ho1 wa2 sc2 ho2 wa3 sc3 ho3 wa4 sc4 ho4 : Int32) (acts first fa of1 of2 of3 of4 : Nat → Int32), k + e = b 4 → e < fu → (∀ i, i < 0 → acts i = nI (pre.getD i 0)) → StC L X best ways fewest ever first → ∃ fa' best' ways' fewest' ever' acts' wa1' sc1' ho1' of1' wa2' sc2' ho2' of2' wa3' sc3' ho3' of3' wa4' sc4' ho4' of4' first', f_X1_explore_0_L73 (nI c) (nI m) cnt bu cu kds ln li (nI RL.length) be de kd le ri st tr (nI L) (nI w) wa0 sc0 ho0 of0 fu (nI (wm (stir b RL) (b 4))) (nI j) (nI (k + 1)) fa best ways fewest ever acts wa1 sc1 ho1 of1 wa2 sc2 ho2 of2 wa3 sc3 ho3 of3 wa4 sc4 ho4 of4 first = some (fa', best', ways', fewest', ever', acts', wa1', sc1', ho1', of1', wa2', sc2', ho2', of2', wa3', sc3', ho3', of3', wa4', sc4', ho4', of4', first') ∧ StC L (sFromS (stir b RL) (fun k => sumC RL w d (goA b RL k) (W + goW b RL k) (c + 1) (pre ++ [k]) m) e k X) best' ways' fewest' ever' first' ∧ ∀ i, i < 0 → acts' i = acts i := by
      intro e
      induction e with
      | zero =>
        intro k fu j X best ways fewest ever wa1 sc1 ho1 wa2 sc2 ho2 wa3 sc3 ho3 wa4 sc4 ho4 acts first fa of1 of2 of3 of4 hk hfu hpl hX
        obtain ⟨n, rfl⟩ : ∃ n, fu = n + 1 := ⟨fu - 1, by omega⟩
        rw [f_X1_explore_0_L73, hE.1, if_pos ((q_lt (by omega) (by omega)).mpr (by omega))]
        exact ⟨_, _, _, _, _, _, _, _, _, _, _, _, _, _, _, _, _, _, _, _, _, _, _, rfl, hX, fun _ _ => rfl⟩
      | succ e ih =>
        intro k fu j X best ways fewest ever wa1 sc1 ho1 wa2 sc2 ho2 wa3 sc3 ho3 wa4 sc4 ho4 acts first fa of1 of2 of3 of4 hk hfu hpl hX
        obtain ⟨n, rfl⟩ : ∃ n, fu = n + 1 := ⟨fu - 1, by omega⟩
        rw [f_X1_explore_0_L73, hE.1, if_neg (fun h => by have := (q_lt (by omega) (by omega)).mp h; omega), ← hE.1, if_neg (nI_ne0 (by omega) (by omega)), show nI (k + 1) - 1 = nI k from q_sub (a := k + 1) (b := 1) (by omega)]
        have hbit := wm_bit (stir b RL) (b 4) h4 k (by omega)
        rw [sFromS]
        by_cases c1 : stir b RL k = true
        · rw [if_pos ⟨by omega, c1⟩] at hbit
          rw [if_pos ((q_bit (by omega) (by omega)).mpr hbit), if_pos c1]
          obtain ⟨fa1, best1, ways1, fewest1, ever1, acts1, wa11, sc11, ho11, of11, wa21, sc21, ho21, of21, wa31, sc31, ho31, of31, wa41, sc41, ho41, of41, first1, r1, r2, r3⟩ := act (k + 1) j 0 (nI (wm (stir b RL) (b 4))) (f_X1_explore_0_L73 (nI c) (nI m) cnt bu cu kds ln li (nI RL.length) be de kd le ri st tr (nI L) (nI w) wa0 sc0 ho0 of0 n) X best ways fewest ever wa1 sc1 ho1 wa2 sc2 ho2 wa3 sc3 ho3 wa4 sc4 ho4 acts first fa of1 of2 of3 of4 (by omega) hpl hX
          rw [if_neg (by omega), if_neg (by omega)] at r2
          obtain ⟨fa', best', ways', fewest', ever', acts', wa1', sc1', ho1', of1', wa2', sc2', ho2', of2', wa3', sc3', ho3', of3', wa4', sc4', ho4', of4', first', t1, t2, t3⟩ := ih (k + 1) n j _ best1 ways1 fewest1 ever1 wa11 sc11 ho11 wa21 sc21 ho21 wa31 sc31 ho31 wa41 sc41 ho41 acts1 first1 fa1 of11 of21 of31 of41 (by omega) (by omega) (fun i hi => by rw [r3 i hi]; exact hpl i hi) r2
          exact ⟨_, _, _, _, _, _, _, _, _, _, _, _, _, _, _, _, _, _, _, _, _, _, _, r1.trans t1, t2, fun i hi => by rw [t3 i hi, r3 i hi]⟩
        · rw [if_neg (fun g => c1 g.2)] at hbit
          rw [if_neg (fun g => by have := (q_bit (by omega) (by omega)).mp g; omega), if_neg c1, qt1, show nI (k + 1) + 1 = nI (k + 1 + 1) from q_add (k + 1) 1]
          exact ih (k + 1) n j X best ways fewest ever wa1 sc1 ho1 wa2 sc2 ho2 wa3 sc3 ho3 wa4 sc4 ho4 acts first fa of1 of2 of3 of4 (by omega) (by omega) hpl hX
    have hj := cntP_le (stir b RL) (b 4)
    obtain ⟨fa1, best1, ways1, fewest1, ever1, acts1, wa11, sc11, ho11, of11, wa21, sc21, ho21, of21, wa31, sc31, ho31, of31, wa41, sc41, ho41, of41, first1, r1, r2, r3⟩ := act 0 (1 + b 4 - cntP (stir b RL) (b 4)) 0 (nI (wm (stir b RL) (b 4))) (f_X1_explore_0_L73 (nI c) (nI m) cnt bu cu kds ln li (nI RL.length) be de kd le ri st tr (nI L) (nI w) wa0 sc0 ho0 of0 999) S best ways fewest ever wa1 sc1 ho1 wa2 sc2 ho2 wa3 sc3 ho3 wa4 sc4 ho4 acts first fas of1 of2 of3 of4 (by omega) hpl hSt
    rw [if_pos rfl, if_pos rfl] at r2
    obtain ⟨fa', best', ways', fewest', ever', acts', wa1', sc1', ho1', of1', wa2', sc2', ho2', of2', wa3', sc3', ho3', of3', wa4', sc4', ho4', of4', first', t1, t2, t3⟩ := loop (b 4) 0 999 (1 + b 4 - cntP (stir b RL) (b 4)) _ best1 ways1 fewest1 ever1 wa11 sc11 ho11 wa21 sc21 ho21 wa31 sc31 ho31 wa41 sc41 ho41 acts1 first1 fa1 of11 of21 of31 of41 (by omega) (by omega) (fun i hi => by rw [r3 i hi]; exact hpl i hi) r2
    have ej : (1 : Int32) + nI (b 4) - nI (pc (wm (stir b RL) (b 4))) = nI (1 + b 4 - cntP (stir b RL) (b 4)) := by
      rw [pc_wm _ _ h4, show (1 : Int32) = nI 1 from rfl, q_add, q_sub (by omega)]
    have hr : f_X1_explore_0 (nI c) (nI m) cnt bu cu kds ln li (nI RL.length) be de fa kd le ri st tr (nI L) (nI w) best ways fewest ever acts wa0 sc0 ho0 of0 wa1 sc1 ho1 of1 wa2 sc2 ho2 of2 wa3 sc3 ho3 of3 wa4 sc4 ho4 of4 first = some (fa', best', ways', fewest', ever', acts', wa1', sc1', ho1', of1', wa2', sc2', ho2', of2', wa3', sc3', ho3', of3', wa4', sc4', ho4', of4', first') := by
      unfold f_X1_explore_0
      rw [if_pos (show (0 : Int32) < nI L by rw [show (0 : Int32) = nI 0 from rfl, q_lt (by decide) (by omega)]; omega), s1, qb2, (q_pc _ V6).1, qb1, hE.1, ej, qt1, ← hE.1, f_X1_explore_0_L73, hE.1, if_neg (show ¬ nI (b 4) < 0 from fun g => absurd ((q_lt (b := 0) (by omega) (by decide)).mp g) (by omega)), ← hE.1, if_pos rfl]
      exact r1.trans t1
    refine ⟨_, _, _, _, _, _, _, _, _, _, _, _, _, _, _, _, _, _, _, _, _, _, _, hr, ?_, fun i hi => by rw [t3 i hi, r3 i hi]⟩
    rw [sumC]
    have := sFromS_all (stir b RL) (fun k => sumC RL w d (goA b RL k) (W + goW b RL k) (c + 1) (pre ++ [k]) m) (sumC RL w d (goA b RL 0) (W + goW b RL 0) c (pre ++ [0]) (m * (1 + b 4 - cntP (stir b RL) (b 4)))) S (b 4) 0
    rw [Nat.zero_add] at this
    rw [← this]
    exact t2
end EN
