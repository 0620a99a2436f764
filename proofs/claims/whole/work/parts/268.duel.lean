/-! ===== E: the game, the class (printed by wip/whole/duel.py) ===== -/
section ET2
variable {rk rd rb rs rl rr cu kd tr ln li bu : Nat → Int32} {cnt : Int32} {RL : List RRul}
theorem e8_du4 (hC : CRs rk rd rb rs rl rr RL) {L : Nat} (hL : L ≤ 4) : ∀ (d : Nat) (b : Nat → Nat) (wa4 ho4 : Int32) (fa of4  : Nat → Int32), 4 + d = L → BA b → CE cnt kd tr ln li cu bu b → CS wa4 ho4 of4 b → b 0 + d ≤ b 1 →
    ∃ fa', f_X1_duel_4 cnt bu kd ln li (nI RL.length) rb rd fa rk rl rr rs tr (nI L) wa4 ho4 of4 = some (nI (gv RL d 4 b).1, fa') ∧ True := by
  intro d
  cases d with
  | zero =>
    intro b wa4 ho4 fa of4  ht hB hE hS hO
    have eL : L = 4 := by omega
    subst eL
    have hr : f_X1_duel_4 cnt bu kd ln li (nI RL.length) rb rd fa rk rl rr rs tr (nI 4) wa4 ho4 of4 = some (0, fa) := by
      unfold f_X1_duel_4
      rw [if_neg (show ¬ (4 : Int32) < nI 4 by decide)]
    exact ⟨_, hr, trivial⟩
  | succ d =>
    intro b wa4 ho4 fa of4  ht hB hE hS hO
    exact absurd ht (by omega)
theorem e8_du3 (hC : CRs rk rd rb rs rl rr RL) {L : Nat} (hL : L ≤ 4) : ∀ (d : Nat) (b : Nat → Nat) (wa3 sc3 ho3 wa4 sc4 ho4 : Int32) (acts fa of3 of4 : Nat → Int32), 3 + d = L → BA b → CE cnt kd tr ln li cu bu b → CS wa3 ho3 of3 b → b 0 + d ≤ b 1 →
    ∃ fa' acts' wa4' sc4' ho4' of4', f_X1_duel_3 cnt bu cu kd ln li (nI RL.length) rb rd fa rk rl rr rs tr (nI L) acts wa3 sc3 ho3 of3 wa4 sc4 ho4 of4 = some (nI (gv RL d 3 b).1, fa', acts', wa4', sc4', ho4', of4') ∧ (∀ i, i < 3 → acts' i = acts i) ∧ (0 < d → acts' 3 = nI (gv RL d 3 b).2) := by
  intro d
  cases d with
  | zero =>
    intro b wa3 sc3 ho3 wa4 sc4 ho4 acts fa of3 of4 ht hB hE hS hO
    have eL : L = 3 := by omega
    subst eL
    have hr : f_X1_duel_3 cnt bu cu kd ln li (nI RL.length) rb rd fa rk rl rr rs tr (nI 3) acts wa3 sc3 ho3 of3 wa4 sc4 ho4 of4 = some (0, fa, acts, wa4, sc4, ho4, of4) := by
      unfold f_X1_duel_3
      rw [if_neg (show ¬ (3 : Int32) < nI 3 by decide)]
    exact ⟨_, _, _, _, _, _, hr, fun _ _ => rfl, fun h => absurd h (by decide)⟩
  | succ d =>
    intro b wa3 sc3 ho3 wa4 sc4 ho4 acts fa of3 of4 ht hB hE hS hO
    have h4 := hB.1
    obtain ⟨f, hf⟩ : ∃ f : Nat → Nat, f = fun k => goW b RL k + (gv RL d 4 (goA b RL k)).1 := ⟨_, rfl⟩
    have egv : gv RL (d + 1) 3 b = pick 3 f (b 4) := by rw [gv, hf]
    have fle : ∀ k, f k ≤ 21 * (d + 1) := by
      intro k
      rw [hf]
      have h1 := goW_le (RL := RL) hB k
      have h2 := (gv_le (RL := RL) d 4 (goA b RL k) (BA_goA hB (by omega)) (by rw [goA_0, goA_1 hB]; omega)).1
      show goW b RL k + (gv RL d 4 (goA b RL k)).1 ≤ _
      omega
    have act : ∀ (k : Nat) (v4 v5 : Int32) (rec40 : Int32 → Int32 → Int32 → Int32 → (Nat → Int32) → (Nat → Int32) → Int32 → Int32 → Int32 → (Nat → Int32) → Option (Int32 × (Nat → Int32) × (Nat → Int32) × Int32 × Int32 × Int32 × (Nat → Int32))) (wa4 sc4 ho4 : Int32) (acts fa of4 : Nat → Int32), k ≤ b 4 → ∃ fa' acts2 wa4' sc4' ho4' of4', (f_X1_duel_3_b67 rec40 cnt bu cu kd ln li (nI RL.length) rb rd rk rl rr rs tr (nI L) wa3 sc3 ho3 of3 0 v4 v5 (nI k) fa acts wa4 sc4 ho4 of4 = if k = 0 then rec40 0 (nI (f k)) v5 (nI (k + 1)) fa' (upd acts2 3 (nI k)) wa4' sc4' ho4' of4' else if v4 ≤ nI (f k) then rec40 0 v4 v5 (nI (k + 1)) fa' acts2 wa4' sc4' ho4' of4' else rec40 0 (nI (f k)) v5 (nI (k + 1)) fa' (upd acts2 3 (nI k)) wa4' sc4' ho4' of4') ∧ ∀ i, i ≤ 3 → acts2 i = acts i := by
      intro k v4 v5 rec40 wa4 sc4 ho4 acts fa of4 hk
      obtain ⟨wx, hox, ofx, fax, p1, p2⟩ := e8_pass (fa := fa) (sc := sc3) hB hE (CS_cpy (of0 := of4) hS) hC (act := k) hk
      have hBg := BA_goA (RL := RL) hB (act := k) (by omega)
      obtain ⟨fa', r1, r2⟩ := e8_du4 (cnt := cnt) hC hL d (goA b RL k) wx hox  fax ofx  (by omega) hBg (CE_goA hB hE) p2 (by rw [goA_0, goA_1 hB]; omega)
      have ef : f k = goW b RL k + (gv RL d 4 (goA b RL k)).1 := by rw [hf]
      refine ⟨fa', acts, wx, (sc3 + nI (goW b RL k)), hox, ofx, ?_, fun _ _ => rfl⟩
      unfold f_X1_duel_3_b67 f_X1_duel_3_b135
      rw [e8_become, qb4, p1, qb6, r1, qb2, q_add, ← ef, qt1, show nI k + 1 = nI (k + 1) from q_add k 1]
      by_cases c1 : k = 0
      · rw [if_pos (show nI k = 0 by rw [c1]; rfl), if_pos c1]; rfl
      · rw [if_neg (nI_ne0 (by omega) (by omega)), if_neg c1]
        rw [if_pos rfl]
        split <;> rfl
    obtain ⟨fas, s1⟩ := e8_stirring (fa := fa) hB hE hS hC
    have V6 := wm_64 (stir b RL) h4
    have loop : ∀ (e k fu : Nat) (wa4 sc4 ho4 : Int32) (acts fa of4 : Nat → Int32), k + e = b 4 → e < fu → acts 3 = nI (pickS (stir b RL) 3 f k).2 → ∃ fa' acts' wa4' sc4' ho4' of4', f_X1_duel_3_L40 cnt bu cu kd ln li (nI RL.length) rb rd rk rl rr rs tr (nI L) wa3 sc3 ho3 of3 fu 0 (nI (pickS (stir b RL) 3 f k).1) (nI (wm (stir b RL) (b 4))) (nI (k + 1)) fa acts wa4 sc4 ho4 of4 = some (nI (pickS (stir b RL) 3 f (b 4)).1, fa', acts', wa4', sc4', ho4', of4') ∧ (∀ i, i < 3 → acts' i = acts i) ∧ acts' 3 = nI (pickS (stir b RL) 3 f (b 4)).2 := by
      intro e
      induction e with
      | zero =>
        intro k fu wa4 sc4 ho4 acts fa of4 hk hfu ha
        obtain ⟨n, rfl⟩ : ∃ n, fu = n + 1 := ⟨fu - 1, by omega⟩
        have : k = b 4 := by omega
        subst this
        rw [f_X1_duel_3_L40, hE.1, if_pos ((q_lt (by omega) (by omega)).mpr (by omega))]
        exact ⟨_, _, _, _, _, _, rfl, fun _ _ => rfl, ha⟩
      | succ e ih =>
        intro k fu wa4 sc4 ho4 acts fa of4 hk hfu ha
        obtain ⟨n, rfl⟩ : ∃ n, fu = n + 1 := ⟨fu - 1, by omega⟩
        rw [f_X1_duel_3_L40, hE.1, if_neg (fun h => by have := (q_lt (by omega) (by omega)).mp h; omega), ← hE.1, if_neg (nI_ne0 (by omega) (by omega)), show nI (k + 1) - 1 = nI k from q_sub (a := k + 1) (b := 1) (by omega)]
        have hbit := wm_bit (stir b RL) (b 4) h4 k (by omega)
        have pk : pickS (stir b RL) 3 f k = pick 3 f k := pickS_eq k (fun j hj hs => by
          obtain ⟨g1, g2⟩ := stir_no (show j < b 4 by omega) hs
          rw [hf]; show goW b RL (j + 1) + _ = goW b RL 0 + _; rw [g1, g2])
        have ple := (pick_le (t := 3) (f := f) (M := 21 * (d + 1)) k (fun j _ => fle j)).1
        rw [← pk] at ple
        have fk := fle (k + 1)
        by_cases c1 : stir b RL k = true
        · rw [if_pos ⟨by omega, c1⟩] at hbit
          rw [if_pos ((q_bit (by omega) (by omega)).mpr hbit)]
          obtain ⟨fa1, acts1, wa41, sc41, ho41, of41, r1, r3⟩ := act (k + 1) (nI (pickS (stir b RL) 3 f k).1) (nI (wm (stir b RL) (b 4))) (f_X1_duel_3_L40 cnt bu cu kd ln li (nI RL.length) rb rd rk rl rr rs tr (nI L) wa3 sc3 ho3 of3 n) wa4 sc4 ho4 acts fa of4 (by omega)
          rw [if_neg (by omega)] at r1
          by_cases c2 : bett 3 (f (k + 1)) (pickS (stir b RL) 3 f k).1
          · have e2 : pickS (stir b RL) 3 f (k + 1) = (f (k + 1), k + 1) := by rw [pickS, if_pos c1, if_pos c2]
            have c3 : ¬ nI (pickS (stir b RL) 3 f k).1 ≤ nI (f (k + 1)) := by
              rw [q_le (by omega) (by omega)]
              intro g
              rcases c2 with h | h
              · exact absurd h.1 (by decide)
              · omega
            rw [if_neg c3] at r1
            obtain ⟨fa', acts', wa4', sc4', ho4', of4', t1, t2, t3⟩ := ih (k + 1) n wa41 sc41 ho41 (upd acts1 3 (nI (k + 1))) fa1 of41 (by omega) (by omega) (by rw [e2]; unfold upd; rw [if_pos rfl])
            rw [show (pickS (stir b RL) 3 f (k + 1)).1 = f (k + 1) by rw [e2]] at t1
            exact ⟨_, _, _, _, _, _, r1.trans t1, fun i hi => by rw [t2 i hi]; unfold upd; rw [if_neg (by omega), r3 i (by omega)], t3⟩
          · have e2 : pickS (stir b RL) 3 f (k + 1) = pickS (stir b RL) 3 f k := by rw [pickS, if_pos c1, if_neg c2]
            have c3 : nI (pickS (stir b RL) 3 f k).1 ≤ nI (f (k + 1)) := by
              rw [q_le (by omega) (by omega)]
              exact Nat.not_lt.mp (fun h => c2 (Or.inr ⟨by decide, h⟩))
            rw [if_pos c3] at r1
            obtain ⟨fa', acts', wa4', sc4', ho4', of4', t1, t2, t3⟩ := ih (k + 1) n wa41 sc41 ho41 acts1 fa1 of41 (by omega) (by omega) (by rw [e2, r3 3 (Nat.le_refl _)]; exact ha)
            rw [e2] at t1
            exact ⟨_, _, _, _, _, _, r1.trans t1, fun i hi => by rw [t2 i hi, r3 i (by omega)], t3⟩
        · rw [if_neg (fun g => c1 g.2)] at hbit
          rw [if_neg (fun g => by have := (q_bit (by omega) (by omega)).mp g; omega), qt1, show nI (k + 1) + 1 = nI (k + 1 + 1) from q_add (k + 1) 1]
          have e2 : pickS (stir b RL) 3 f (k + 1) = pickS (stir b RL) 3 f k := by rw [pickS, if_neg c1]
          rw [← e2]
          exact ih (k + 1) n wa4 sc4 ho4 acts fa of4 (by omega) (by omega) (by rw [e2]; exact ha)
    obtain ⟨fa1, acts1, wa41, sc41, ho41, of41, r1, r3⟩ := act 0 0 (nI (wm (stir b RL) (b 4))) (f_X1_duel_3_L40 cnt bu cu kd ln li (nI RL.length) rb rd rk rl rr rs tr (nI L) wa3 sc3 ho3 of3 999) wa4 sc4 ho4 acts fas of4 (by omega)
    rw [if_pos rfl] at r1
    obtain ⟨fa', acts', wa4', sc4', ho4', of4', t1, t2, t3⟩ := loop (b 4) 0 999 wa41 sc41 ho41 (upd acts1 3 (nI 0)) fa1 of41 (by omega) (by omega) (by unfold upd; rw [if_pos rfl]; rfl)
    have pk : pickS (stir b RL) 3 f (b 4) = pick 3 f (b 4) := pickS_eq (b 4) (fun j hj hs => by
      obtain ⟨g1, g2⟩ := stir_no (show j < b 4 by omega) hs
      rw [hf]; show goW b RL (j + 1) + _ = goW b RL 0 + _; rw [g1, g2])
    rw [pk] at t1 t3
    have hr : f_X1_duel_3 cnt bu cu kd ln li (nI RL.length) rb rd fa rk rl rr rs tr (nI L) acts wa3 sc3 ho3 of3 wa4 sc4 ho4 of4 = some (nI (gv RL (d + 1) 3 b).1, fa', acts', wa4', sc4', ho4', of4') := by
      unfold f_X1_duel_3 f_X1_duel_3_b21
      rw [if_pos (show (3 : Int32) < nI L by rw [show (3 : Int32) = nI 3 from rfl, q_lt (by decide) (by omega)]; omega), if_neg n10, s1, qb2, f_X1_duel_3_L40, hE.1, if_neg (show ¬ nI (b 4) < 0 from fun g => absurd ((q_lt (b := 0) (by omega) (by decide)).mp g) (by omega)), ← hE.1, if_pos rfl, egv]
      exact r1.trans t1
    exact ⟨_, _, _, _, _, _, hr, fun i hi => by rw [t2 i hi]; unfold upd; rw [if_neg (by omega), r3 i (by omega)], fun _ => by rw [egv]; exact t3⟩
theorem e8_du2 (hC : CRs rk rd rb rs rl rr RL) {L : Nat} (hL : L ≤ 4) : ∀ (d : Nat) (b : Nat → Nat) (wa2 sc2 ho2 wa3 sc3 ho3 wa4 sc4 ho4 : Int32) (acts fa of2 of3 of4 : Nat → Int32), 2 + d = L → BA b → CE cnt kd tr ln li cu bu b → CS wa2 ho2 of2 b → b 0 + d ≤ b 1 →
    ∃ fa' acts' wa3' sc3' ho3' of3' wa4' sc4' ho4' of4', f_X1_duel_2 cnt bu cu kd ln li (nI RL.length) rb rd fa rk rl rr rs tr (nI L) acts wa2 sc2 ho2 of2 wa3 sc3 ho3 of3 wa4 sc4 ho4 of4 = some (nI (gv RL d 2 b).1, fa', acts', wa3', sc3', ho3', of3', wa4', sc4', ho4', of4') ∧ (∀ i, i < 2 → acts' i = acts i) ∧ (0 < d → acts' 2 = nI (gv RL d 2 b).2) := by
  intro d
  cases d with
  | zero =>
    intro b wa2 sc2 ho2 wa3 sc3 ho3 wa4 sc4 ho4 acts fa of2 of3 of4 ht hB hE hS hO
    have eL : L = 2 := by omega
    subst eL
    have hr : f_X1_duel_2 cnt bu cu kd ln li (nI RL.length) rb rd fa rk rl rr rs tr (nI 2) acts wa2 sc2 ho2 of2 wa3 sc3 ho3 of3 wa4 sc4 ho4 of4 = some (0, fa, acts, wa3, sc3, ho3, of3, wa4, sc4, ho4, of4) := by
      unfold f_X1_duel_2
      rw [if_neg (show ¬ (2 : Int32) < nI 2 by decide)]
    exact ⟨_, _, _, _, _, _, _, _, _, _, hr, fun _ _ => rfl, fun h => absurd h (by decide)⟩
  | succ d =>
    intro b wa2 sc2 ho2 wa3 sc3 ho3 wa4 sc4 ho4 acts fa of2 of3 of4 ht hB hE hS hO
    have h4 := hB.1
    obtain ⟨f, hf⟩ : ∃ f : Nat → Nat, f = fun k => goW b RL k + (gv RL d 3 (goA b RL k)).1 := ⟨_, rfl⟩
    have egv : gv RL (d + 1) 2 b = pick 2 f (b 4) := by rw [gv, hf]
    have fle : ∀ k, f k ≤ 21 * (d + 1) := by
      intro k
      rw [hf]
      have h1 := goW_le (RL := RL) hB k
      have h2 := (gv_le (RL := RL) d 3 (goA b RL k) (BA_goA hB (by omega)) (by rw [goA_0, goA_1 hB]; omega)).1
      show goW b RL k + (gv RL d 3 (goA b RL k)).1 ≤ _
      omega
    have act : ∀ (k : Nat) (v4 v5 : Int32) (rec40 : Int32 → Int32 → Int32 → Int32 → (Nat → Int32) → (Nat → Int32) → Int32 → Int32 → Int32 → (Nat → Int32) → Int32 → Int32 → Int32 → (Nat → Int32) → Option (Int32 × (Nat → Int32) × (Nat → Int32) × Int32 × Int32 × Int32 × (Nat → Int32) × Int32 × Int32 × Int32 × (Nat → Int32))) (wa3 sc3 ho3 wa4 sc4 ho4 : Int32) (acts fa of3 of4 : Nat → Int32), k ≤ b 4 → ∃ fa' acts2 wa3' sc3' ho3' of3' wa4' sc4' ho4' of4', (f_X1_duel_2_b67 rec40 cnt bu cu kd ln li (nI RL.length) rb rd rk rl rr rs tr (nI L) wa2 sc2 ho2 of2 1 v4 v5 (nI k) fa acts wa3 sc3 ho3 of3 wa4 sc4 ho4 of4 = if k = 0 then rec40 1 (nI (f k)) v5 (nI (k + 1)) fa' (upd acts2 2 (nI k)) wa3' sc3' ho3' of3' wa4' sc4' ho4' of4' else if nI (f k) ≤ v4 then rec40 1 v4 v5 (nI (k + 1)) fa' acts2 wa3' sc3' ho3' of3' wa4' sc4' ho4' of4' else rec40 1 (nI (f k)) v5 (nI (k + 1)) fa' (upd acts2 2 (nI k)) wa3' sc3' ho3' of3' wa4' sc4' ho4' of4') ∧ ∀ i, i ≤ 2 → acts2 i = acts i := by
      intro k v4 v5 rec40 wa3 sc3 ho3 wa4 sc4 ho4 acts fa of3 of4 hk
      obtain ⟨wx, hox, ofx, fax, p1, p2⟩ := e8_pass (fa := fa) (sc := sc2) hB hE (CS_cpy (of0 := of3) hS) hC (act := k) hk
      have hBg := BA_goA (RL := RL) hB (act := k) (by omega)
      obtain ⟨fa', acts2, wa4', sc4', ho4', of4', r1, r2⟩ := e8_du3 (cnt := cnt) hC hL d (goA b RL k) wx (sc2 + nI (goW b RL k)) hox wa4 sc4 ho4 acts fax ofx of4 (by omega) hBg (CE_goA hB hE) p2 (by rw [goA_0, goA_1 hB]; omega)
      have ef : f k = goW b RL k + (gv RL d 3 (goA b RL k)).1 := by rw [hf]
      refine ⟨fa', acts2, wx, (sc2 + nI (goW b RL k)), hox, ofx, wa4', sc4', ho4', of4', ?_, fun i hi => r2.1 i (by omega)⟩
      unfold f_X1_duel_2_b67 f_X1_duel_2_b135
      rw [e8_become, qb4, p1, qb6, r1, qb7, q_add, ← ef, qt1, show nI k + 1 = nI (k + 1) from q_add k 1]
      by_cases c1 : k = 0
      · rw [if_pos (show nI k = 0 by rw [c1]; rfl), if_pos c1]; rfl
      · rw [if_neg (nI_ne0 (by omega) (by omega)), if_neg c1]
        rw [if_neg n10]
        split <;> rfl
    obtain ⟨fas, s1⟩ := e8_stirring (fa := fa) hB hE hS hC
    have V6 := wm_64 (stir b RL) h4
    have loop : ∀ (e k fu : Nat) (wa3 sc3 ho3 wa4 sc4 ho4 : Int32) (acts fa of3 of4 : Nat → Int32), k + e = b 4 → e < fu → acts 2 = nI (pickS (stir b RL) 2 f k).2 → ∃ fa' acts' wa3' sc3' ho3' of3' wa4' sc4' ho4' of4', f_X1_duel_2_L40 cnt bu cu kd ln li (nI RL.length) rb rd rk rl rr rs tr (nI L) wa2 sc2 ho2 of2 fu 1 (nI (pickS (stir b RL) 2 f k).1) (nI (wm (stir b RL) (b 4))) (nI (k + 1)) fa acts wa3 sc3 ho3 of3 wa4 sc4 ho4 of4 = some (nI (pickS (stir b RL) 2 f (b 4)).1, fa', acts', wa3', sc3', ho3', of3', wa4', sc4', ho4', of4') ∧ (∀ i, i < 2 → acts' i = acts i) ∧ acts' 2 = nI (pickS (stir b RL) 2 f (b 4)).2 := by
      intro e
      induction e with
      | zero =>
        intro k fu wa3 sc3 ho3 wa4 sc4 ho4 acts fa of3 of4 hk hfu ha
        obtain ⟨n, rfl⟩ : ∃ n, fu = n + 1 := ⟨fu - 1, by omega⟩
        have : k = b 4 := by omega
        subst this
        rw [f_X1_duel_2_L40, hE.1, if_pos ((q_lt (by omega) (by omega)).mpr (by omega))]
        exact ⟨_, _, _, _, _, _, _, _, _, _, rfl, fun _ _ => rfl, ha⟩
      | succ e ih =>
        intro k fu wa3 sc3 ho3 wa4 sc4 ho4 acts fa of3 of4 hk hfu ha
        obtain ⟨n, rfl⟩ : ∃ n, fu = n + 1 := ⟨fu - 1, by omega⟩
        rw [f_X1_duel_2_L40, hE.1, if_neg (fun h => by have := (q_lt (by omega) (by omega)).mp h; omega), ← hE.1, if_neg (nI_ne0 (by omega) (by omega)), show nI (k + 1) - 1 = nI k from q_sub (a := k + 1) (b := 1) (by omega)]
        have hbit := wm_bit (stir b RL) (b 4) h4 k (by omega)
        have pk : pickS (stir b RL) 2 f k = pick 2 f k := pickS_eq k (fun j hj hs => by
          obtain ⟨g1, g2⟩ := stir_no (show j < b 4 by omega) hs
          rw [hf]; show goW b RL (j + 1) + _ = goW b RL 0 + _; rw [g1, g2])
        have ple := (pick_le (t := 2) (f := f) (M := 21 * (d + 1)) k (fun j _ => fle j)).1
        rw [← pk] at ple
        have fk := fle (k + 1)
        by_cases c1 : stir b RL k = true
        · rw [if_pos ⟨by omega, c1⟩] at hbit
          rw [if_pos ((q_bit (by omega) (by omega)).mpr hbit)]
          obtain ⟨fa1, acts1, wa31, sc31, ho31, of31, wa41, sc41, ho41, of41, r1, r3⟩ := act (k + 1) (nI (pickS (stir b RL) 2 f k).1) (nI (wm (stir b RL) (b 4))) (f_X1_duel_2_L40 cnt bu cu kd ln li (nI RL.length) rb rd rk rl rr rs tr (nI L) wa2 sc2 ho2 of2 n) wa3 sc3 ho3 wa4 sc4 ho4 acts fa of3 of4 (by omega)
          rw [if_neg (by omega)] at r1
          by_cases c2 : bett 2 (f (k + 1)) (pickS (stir b RL) 2 f k).1
          · have e2 : pickS (stir b RL) 2 f (k + 1) = (f (k + 1), k + 1) := by rw [pickS, if_pos c1, if_pos c2]
            have c3 : ¬ nI (f (k + 1)) ≤ nI (pickS (stir b RL) 2 f k).1 := by
              rw [q_le (by omega) (by omega)]
              intro g
              rcases c2 with h | h
              · omega
              · exact absurd rfl h.1
            rw [if_neg c3] at r1
            obtain ⟨fa', acts', wa3', sc3', ho3', of3', wa4', sc4', ho4', of4', t1, t2, t3⟩ := ih (k + 1) n wa31 sc31 ho31 wa41 sc41 ho41 (upd acts1 2 (nI (k + 1))) fa1 of31 of41 (by omega) (by omega) (by rw [e2]; unfold upd; rw [if_pos rfl])
            rw [show (pickS (stir b RL) 2 f (k + 1)).1 = f (k + 1) by rw [e2]] at t1
            exact ⟨_, _, _, _, _, _, _, _, _, _, r1.trans t1, fun i hi => by rw [t2 i hi]; unfold upd; rw [if_neg (by omega), r3 i (by omega)], t3⟩
          · have e2 : pickS (stir b RL) 2 f (k + 1) = pickS (stir b RL) 2 f k := by rw [pickS, if_pos c1, if_neg c2]
            have c3 : nI (f (k + 1)) ≤ nI (pickS (stir b RL) 2 f k).1 := by
              rw [q_le (by omega) (by omega)]
              exact Nat.not_lt.mp (fun h => c2 (Or.inl ⟨rfl, h⟩))
            rw [if_pos c3] at r1
            obtain ⟨fa', acts', wa3', sc3', ho3', of3', wa4', sc4', ho4', of4', t1, t2, t3⟩ := ih (k + 1) n wa31 sc31 ho31 wa41 sc41 ho41 acts1 fa1 of31 of41 (by omega) (by omega) (by rw [e2, r3 2 (Nat.le_refl _)]; exact ha)
            rw [e2] at t1
            exact ⟨_, _, _, _, _, _, _, _, _, _, r1.trans t1, fun i hi => by rw [t2 i hi, r3 i (by omega)], t3⟩
        · rw [if_neg (fun g => c1 g.2)] at hbit
          rw [if_neg (fun g => by have := (q_bit (by omega) (by omega)).mp g; omega), qt1, show nI (k + 1) + 1 = nI (k + 1 + 1) from q_add (k + 1) 1]
          have e2 : pickS (stir b RL) 2 f (k + 1) = pickS (stir b RL) 2 f k := by rw [pickS, if_neg c1]
          rw [← e2]
          exact ih (k + 1) n wa3 sc3 ho3 wa4 sc4 ho4 acts fa of3 of4 (by omega) (by omega) (by rw [e2]; exact ha)
    obtain ⟨fa1, acts1, wa31, sc31, ho31, of31, wa41, sc41, ho41, of41, r1, r3⟩ := act 0 0 (nI (wm (stir b RL) (b 4))) (f_X1_duel_2_L40 cnt bu cu kd ln li (nI RL.length) rb rd rk rl rr rs tr (nI L) wa2 sc2 ho2 of2 999) wa3 sc3 ho3 wa4 sc4 ho4 acts fas of3 of4 (by omega)
    rw [if_pos rfl] at r1
    obtain ⟨fa', acts', wa3', sc3', ho3', of3', wa4', sc4', ho4', of4', t1, t2, t3⟩ := loop (b 4) 0 999 wa31 sc31 ho31 wa41 sc41 ho41 (upd acts1 2 (nI 0)) fa1 of31 of41 (by omega) (by omega) (by unfold upd; rw [if_pos rfl]; rfl)
    have pk : pickS (stir b RL) 2 f (b 4) = pick 2 f (b 4) := pickS_eq (b 4) (fun j hj hs => by
      obtain ⟨g1, g2⟩ := stir_no (show j < b 4 by omega) hs
      rw [hf]; show goW b RL (j + 1) + _ = goW b RL 0 + _; rw [g1, g2])
    rw [pk] at t1 t3
    have hr : f_X1_duel_2 cnt bu cu kd ln li (nI RL.length) rb rd fa rk rl rr rs tr (nI L) acts wa2 sc2 ho2 of2 wa3 sc3 ho3 of3 wa4 sc4 ho4 of4 = some (nI (gv RL (d + 1) 2 b).1, fa', acts', wa3', sc3', ho3', of3', wa4', sc4', ho4', of4') := by
      unfold f_X1_duel_2 f_X1_duel_2_b21
      rw [if_pos (show (2 : Int32) < nI L by rw [show (2 : Int32) = nI 2 from rfl, q_lt (by decide) (by omega)]; omega), if_pos (show (0 : Int32) = 0 from rfl), s1, qb2, f_X1_duel_2_L40, hE.1, if_neg (show ¬ nI (b 4) < 0 from fun g => absurd ((q_lt (b := 0) (by omega) (by decide)).mp g) (by omega)), ← hE.1, if_pos rfl, egv]
      exact r1.trans t1
    exact ⟨_, _, _, _, _, _, _, _, _, _, hr, fun i hi => by rw [t2 i hi]; unfold upd; rw [if_neg (by omega), r3 i (by omega)], fun _ => by rw [egv]; exact t3⟩
theorem e8_du1 (hC : CRs rk rd rb rs rl rr RL) {L : Nat} (hL : L ≤ 4) : ∀ (d : Nat) (b : Nat → Nat) (wa1 sc1 ho1 wa2 sc2 ho2 wa3 sc3 ho3 wa4 sc4 ho4 : Int32) (acts fa of1 of2 of3 of4 : Nat → Int32), 1 + d = L → BA b → CE cnt kd tr ln li cu bu b → CS wa1 ho1 of1 b → b 0 + d ≤ b 1 →
    ∃ fa' acts' wa2' sc2' ho2' of2' wa3' sc3' ho3' of3' wa4' sc4' ho4' of4', f_X1_duel_1 cnt bu cu kd ln li (nI RL.length) rb rd fa rk rl rr rs tr (nI L) acts wa1 sc1 ho1 of1 wa2 sc2 ho2 of2 wa3 sc3 ho3 of3 wa4 sc4 ho4 of4 = some (nI (gv RL d 1 b).1, fa', acts', wa2', sc2', ho2', of2', wa3', sc3', ho3', of3', wa4', sc4', ho4', of4') ∧ (∀ i, i < 1 → acts' i = acts i) ∧ (0 < d → acts' 1 = nI (gv RL d 1 b).2) := by
  intro d
  cases d with
  | zero =>
    intro b wa1 sc1 ho1 wa2 sc2 ho2 wa3 sc3 ho3 wa4 sc4 ho4 acts fa of1 of2 of3 of4 ht hB hE hS hO
    have eL : L = 1 := by omega
    subst eL
    have hr : f_X1_duel_1 cnt bu cu kd ln li (nI RL.length) rb rd fa rk rl rr rs tr (nI 1) acts wa1 sc1 ho1 of1 wa2 sc2 ho2 of2 wa3 sc3 ho3 of3 wa4 sc4 ho4 of4 = some (0, fa, acts, wa2, sc2, ho2, of2, wa3, sc3, ho3, of3, wa4, sc4, ho4, of4) := by
      unfold f_X1_duel_1
      rw [if_neg (show ¬ (1 : Int32) < nI 1 by decide)]
    exact ⟨_, _, _, _, _, _, _, _, _, _, _, _, _, _, hr, fun _ _ => rfl, fun h => absurd h (by decide)⟩
  | succ d =>
    intro b wa1 sc1 ho1 wa2 sc2 ho2 wa3 sc3 ho3 wa4 sc4 ho4 acts fa of1 of2 of3 of4 ht hB hE hS hO
    have h4 := hB.1
    obtain ⟨f, hf⟩ : ∃ f : Nat → Nat, f = fun k => goW b RL k + (gv RL d 2 (goA b RL k)).1 := ⟨_, rfl⟩
    have egv : gv RL (d + 1) 1 b = pick 1 f (b 4) := by rw [gv, hf]
    have fle : ∀ k, f k ≤ 21 * (d + 1) := by
      intro k
      rw [hf]
      have h1 := goW_le (RL := RL) hB k
      have h2 := (gv_le (RL := RL) d 2 (goA b RL k) (BA_goA hB (by omega)) (by rw [goA_0, goA_1 hB]; omega)).1
      show goW b RL k + (gv RL d 2 (goA b RL k)).1 ≤ _
      omega
    have act : ∀ (k : Nat) (v4 v5 : Int32) (rec40 : Int32 → Int32 → Int32 → Int32 → (Nat → Int32) → (Nat → Int32) → Int32 → Int32 → Int32 → (Nat → Int32) → Int32 → Int32 → Int32 → (Nat → Int32) → Int32 → Int32 → Int32 → (Nat → Int32) → Option (Int32 × (Nat → Int32) × (Nat → Int32) × Int32 × Int32 × Int32 × (Nat → Int32) × Int32 × Int32 × Int32 × (Nat → Int32) × Int32 × Int32 × Int32 × (Nat → Int32))) (wa2 sc2 ho2 wa3 sc3 ho3 wa4 sc4 ho4 : Int32) (acts fa of2 of3 of4 : Nat → Int32), k ≤ b 4 → ∃ fa' acts2 wa2' sc2' ho2' of2' wa3' sc3' ho3' of3' wa4' sc4' ho4' of4', (f_X1_duel_1_b67 rec40 cnt bu cu kd ln li (nI RL.length) rb rd rk rl rr rs tr (nI L) wa1 sc1 ho1 of1 0 v4 v5 (nI k) fa acts wa2 sc2 ho2 of2 wa3 sc3 ho3 of3 wa4 sc4 ho4 of4 = if k = 0 then rec40 0 (nI (f k)) v5 (nI (k + 1)) fa' (upd acts2 1 (nI k)) wa2' sc2' ho2' of2' wa3' sc3' ho3' of3' wa4' sc4' ho4' of4' else if v4 ≤ nI (f k) then rec40 0 v4 v5 (nI (k + 1)) fa' acts2 wa2' sc2' ho2' of2' wa3' sc3' ho3' of3' wa4' sc4' ho4' of4' else rec40 0 (nI (f k)) v5 (nI (k + 1)) fa' (upd acts2 1 (nI k)) wa2' sc2' ho2' of2' wa3' sc3' ho3' of3' wa4' sc4' ho4' of4') ∧ ∀ i, i ≤ 1 → acts2 i = acts i := by
      intro k v4 v5 rec40 wa2 sc2 ho2 wa3 sc3 ho3 wa4 sc4 ho4 acts fa of2 of3 of4 hk
      obtain ⟨wx, hox, ofx, fax, p1, p2⟩ := e8_pass (fa := fa) (sc := sc1) hB hE (CS_cpy (of0 := of2) hS) hC (act := k) hk
      have hBg := BA_goA (RL := RL) hB (act := k) (by omega)
      obtain ⟨fa', acts2, wa3', sc3', ho3', of3', wa4', sc4', ho4', of4', r1, r2⟩ := e8_du2 (cnt := cnt) hC hL d (goA b RL k) wx (sc1 + nI (goW b RL k)) hox wa3 sc3 ho3 wa4 sc4 ho4 acts fax ofx of3 of4 (by omega) hBg (CE_goA hB hE) p2 (by rw [goA_0, goA_1 hB]; omega)
      have ef : f k = goW b RL k + (gv RL d 2 (goA b RL k)).1 := by rw [hf]
      refine ⟨fa', acts2, wx, (sc1 + nI (goW b RL k)), hox, ofx, wa3', sc3', ho3', of3', wa4', sc4', ho4', of4', ?_, fun i hi => r2.1 i (by omega)⟩
      unfold f_X1_duel_1_b67 f_X1_duel_1_b135
      rw [e8_become, qb4, p1, qb6, r1, qb11, q_add, ← ef, qt1, show nI k + 1 = nI (k + 1) from q_add k 1]
      by_cases c1 : k = 0
      · rw [if_pos (show nI k = 0 by rw [c1]; rfl), if_pos c1]; rfl
      · rw [if_neg (nI_ne0 (by omega) (by omega)), if_neg c1]
        rw [if_pos rfl]
        split <;> rfl
    obtain ⟨fas, s1⟩ := e8_stirring (fa := fa) hB hE hS hC
    have V6 := wm_64 (stir b RL) h4
    have loop : ∀ (e k fu : Nat) (wa2 sc2 ho2 wa3 sc3 ho3 wa4 sc4 ho4 : Int32) (acts fa of2 of3 of4 : Nat → Int32), k + e = b 4 → e < fu → acts 1 = nI (pickS (stir b RL) 1 f k).2 → ∃ fa' acts' wa2' sc2' ho2' of2' wa3' sc3' ho3' of3' wa4' sc4' ho4' of4', f_X1_duel_1_L40 cnt bu cu kd ln li (nI RL.length) rb rd rk rl rr rs tr (nI L) wa1 sc1 ho1 of1 fu 0 (nI (pickS (stir b RL) 1 f k).1) (nI (wm (stir b RL) (b 4))) (nI (k + 1)) fa acts wa2 sc2 ho2 of2 wa3 sc3 ho3 of3 wa4 sc4 ho4 of4 = some (nI (pickS (stir b RL) 1 f (b 4)).1, fa', acts', wa2', sc2', ho2', of2', wa3', sc3', ho3', of3', wa4', sc4', ho4', of4') ∧ (∀ i, i < 1 → acts' i = acts i) ∧ acts' 1 = nI (pickS (stir b RL) 1 f (b 4)).2 := by
      intro e
      induction e with
      | zero =>
        intro k fu wa2 sc2 ho2 wa3 sc3 ho3 wa4 sc4 ho4 acts fa of2 of3 of4 hk hfu ha
        obtain ⟨n, rfl⟩ : ∃ n, fu = n + 1 := ⟨fu - 1, by omega⟩
        have : k = b 4 := by omega
        subst this
        rw [f_X1_duel_1_L40, hE.1, if_pos ((q_lt (by omega) (by omega)).mpr (by omega))]
        exact ⟨_, _, _, _, _, _, _, _, _, _, _, _, _, _, rfl, fun _ _ => rfl, ha⟩
      | succ e ih =>
        intro k fu wa2 sc2 ho2 wa3 sc3 ho3 wa4 sc4 ho4 acts fa of2 of3 of4 hk hfu ha
        obtain ⟨n, rfl⟩ : ∃ n, fu = n + 1 := ⟨fu - 1, by omega⟩
        rw [f_X1_duel_1_L40, hE.1, if_neg (fun h => by have := (q_lt (by omega) (by omega)).mp h; omega), ← hE.1, if_neg (nI_ne0 (by omega) (by omega)), show nI (k + 1) - 1 = nI k from q_sub (a := k + 1) (b := 1) (by omega)]
        have hbit := wm_bit (stir b RL) (b 4) h4 k (by omega)
        have pk : pickS (stir b RL) 1 f k = pick 1 f k := pickS_eq k (fun j hj hs => by
          obtain ⟨g1, g2⟩ := stir_no (show j < b 4 by omega) hs
          rw [hf]; show goW b RL (j + 1) + _ = goW b RL 0 + _; rw [g1, g2])
        have ple := (pick_le (t := 1) (f := f) (M := 21 * (d + 1)) k (fun j _ => fle j)).1
        rw [← pk] at ple
        have fk := fle (k + 1)
        by_cases c1 : stir b RL k = true
        · rw [if_pos ⟨by omega, c1⟩] at hbit
          rw [if_pos ((q_bit (by omega) (by omega)).mpr hbit)]
          obtain ⟨fa1, acts1, wa21, sc21, ho21, of21, wa31, sc31, ho31, of31, wa41, sc41, ho41, of41, r1, r3⟩ := act (k + 1) (nI (pickS (stir b RL) 1 f k).1) (nI (wm (stir b RL) (b 4))) (f_X1_duel_1_L40 cnt bu cu kd ln li (nI RL.length) rb rd rk rl rr rs tr (nI L) wa1 sc1 ho1 of1 n) wa2 sc2 ho2 wa3 sc3 ho3 wa4 sc4 ho4 acts fa of2 of3 of4 (by omega)
          rw [if_neg (by omega)] at r1
          by_cases c2 : bett 1 (f (k + 1)) (pickS (stir b RL) 1 f k).1
          · have e2 : pickS (stir b RL) 1 f (k + 1) = (f (k + 1), k + 1) := by rw [pickS, if_pos c1, if_pos c2]
            have c3 : ¬ nI (pickS (stir b RL) 1 f k).1 ≤ nI (f (k + 1)) := by
              rw [q_le (by omega) (by omega)]
              intro g
              rcases c2 with h | h
              · exact absurd h.1 (by decide)
              · omega
            rw [if_neg c3] at r1
            obtain ⟨fa', acts', wa2', sc2', ho2', of2', wa3', sc3', ho3', of3', wa4', sc4', ho4', of4', t1, t2, t3⟩ := ih (k + 1) n wa21 sc21 ho21 wa31 sc31 ho31 wa41 sc41 ho41 (upd acts1 1 (nI (k + 1))) fa1 of21 of31 of41 (by omega) (by omega) (by rw [e2]; unfold upd; rw [if_pos rfl])
            rw [show (pickS (stir b RL) 1 f (k + 1)).1 = f (k + 1) by rw [e2]] at t1
            exact ⟨_, _, _, _, _, _, _, _, _, _, _, _, _, _, r1.trans t1, fun i hi => by rw [t2 i hi]; unfold upd; rw [if_neg (by omega), r3 i (by omega)], t3⟩
          · have e2 : pickS (stir b RL) 1 f (k + 1) = pickS (stir b RL) 1 f k := by rw [pickS, if_pos c1, if_neg c2]
            have c3 : nI (pickS (stir b RL) 1 f k).1 ≤ nI (f (k + 1)) := by
              rw [q_le (by omega) (by omega)]
              exact Nat.not_lt.mp (fun h => c2 (Or.inr ⟨by decide, h⟩))
            rw [if_pos c3] at r1
            obtain ⟨fa', acts', wa2', sc2', ho2', of2', wa3', sc3', ho3', of3', wa4', sc4', ho4', of4', t1, t2, t3⟩ := ih (k + 1) n wa21 sc21 ho21 wa31 sc31 ho31 wa41 sc41 ho41 acts1 fa1 of21 of31 of41 (by omega) (by omega) (by rw [e2, r3 1 (Nat.le_refl _)]; exact ha)
            rw [e2] at t1
            exact ⟨_, _, _, _, _, _, _, _, _, _, _, _, _, _, r1.trans t1, fun i hi => by rw [t2 i hi, r3 i (by omega)], t3⟩
        · rw [if_neg (fun g => c1 g.2)] at hbit
          rw [if_neg (fun g => by have := (q_bit (by omega) (by omega)).mp g; omega), qt1, show nI (k + 1) + 1 = nI (k + 1 + 1) from q_add (k + 1) 1]
          have e2 : pickS (stir b RL) 1 f (k + 1) = pickS (stir b RL) 1 f k := by rw [pickS, if_neg c1]
          rw [← e2]
          exact ih (k + 1) n wa2 sc2 ho2 wa3 sc3 ho3 wa4 sc4 ho4 acts fa of2 of3 of4 (by omega) (by omega) (by rw [e2]; exact ha)
    obtain ⟨fa1, acts1, wa21, sc21, ho21, of21, wa31, sc31, ho31, of31, wa41, sc41, ho41, of41, r1, r3⟩ := act 0 0 (nI (wm (stir b RL) (b 4))) (f_X1_duel_1_L40 cnt bu cu kd ln li (nI RL.length) rb rd rk rl rr rs tr (nI L) wa1 sc1 ho1 of1 999) wa2 sc2 ho2 wa3 sc3 ho3 wa4 sc4 ho4 acts fas of2 of3 of4 (by omega)
    rw [if_pos rfl] at r1
    obtain ⟨fa', acts', wa2', sc2', ho2', of2', wa3', sc3', ho3', of3', wa4', sc4', ho4', of4', t1, t2, t3⟩ := loop (b 4) 0 999 wa21 sc21 ho21 wa31 sc31 ho31 wa41 sc41 ho41 (upd acts1 1 (nI 0)) fa1 of21 of31 of41 (by omega) (by omega) (by unfold upd; rw [if_pos rfl]; rfl)
    have pk : pickS (stir b RL) 1 f (b 4) = pick 1 f (b 4) := pickS_eq (b 4) (fun j hj hs => by
      obtain ⟨g1, g2⟩ := stir_no (show j < b 4 by omega) hs
      rw [hf]; show goW b RL (j + 1) + _ = goW b RL 0 + _; rw [g1, g2])
    rw [pk] at t1 t3
    have hr : f_X1_duel_1 cnt bu cu kd ln li (nI RL.length) rb rd fa rk rl rr rs tr (nI L) acts wa1 sc1 ho1 of1 wa2 sc2 ho2 of2 wa3 sc3 ho3 of3 wa4 sc4 ho4 of4 = some (nI (gv RL (d + 1) 1 b).1, fa', acts', wa2', sc2', ho2', of2', wa3', sc3', ho3', of3', wa4', sc4', ho4', of4') := by
      unfold f_X1_duel_1 f_X1_duel_1_b21
      rw [if_pos (show (1 : Int32) < nI L by rw [show (1 : Int32) = nI 1 from rfl, q_lt (by decide) (by omega)]; omega), if_neg n10, s1, qb2, f_X1_duel_1_L40, hE.1, if_neg (show ¬ nI (b 4) < 0 from fun g => absurd ((q_lt (b := 0) (by omega) (by decide)).mp g) (by omega)), ← hE.1, if_pos rfl, egv]
      exact r1.trans t1
    exact ⟨_, _, _, _, _, _, _, _, _, _, _, _, _, _, hr, fun i hi => by rw [t2 i hi]; unfold upd; rw [if_neg (by omega), r3 i (by omega)], fun _ => by rw [egv]; exact t3⟩
theorem e8_du0 (hC : CRs rk rd rb rs rl rr RL) {L : Nat} (hL : L ≤ 4) : ∀ (d : Nat) (b : Nat → Nat) (wa0 sc0 ho0 wa1 sc1 ho1 wa2 sc2 ho2 wa3 sc3 ho3 wa4 sc4 ho4 : Int32) (acts fa of0 of1 of2 of3 of4 : Nat → Int32), 0 + d = L → BA b → CE cnt kd tr ln li cu bu b → CS wa0 ho0 of0 b → b 0 + d ≤ b 1 →
    ∃ fa' acts' wa1' sc1' ho1' of1' wa2' sc2' ho2' of2' wa3' sc3' ho3' of3' wa4' sc4' ho4' of4', f_X1_duel_0 cnt bu cu kd ln li (nI RL.length) rb rd fa rk rl rr rs tr (nI L) acts wa0 sc0 ho0 of0 wa1 sc1 ho1 of1 wa2 sc2 ho2 of2 wa3 sc3 ho3 of3 wa4 sc4 ho4 of4 = some (nI (gv RL d 0 b).1, fa', acts', wa1', sc1', ho1', of1', wa2', sc2', ho2', of2', wa3', sc3', ho3', of3', wa4', sc4', ho4', of4') ∧ (∀ i, i < 0 → acts' i = acts i) ∧ (0 < d → acts' 0 = nI (gv RL d 0 b).2) := by
  intro d
  cases d with
  | zero =>
    intro b wa0 sc0 ho0 wa1 sc1 ho1 wa2 sc2 ho2 wa3 sc3 ho3 wa4 sc4 ho4 acts fa of0 of1 of2 of3 of4 ht hB hE hS hO
    have eL : L = 0 := by omega
    subst eL
    have hr : f_X1_duel_0 cnt bu cu kd ln li (nI RL.length) rb rd fa rk rl rr rs tr (nI 0) acts wa0 sc0 ho0 of0 wa1 sc1 ho1 of1 wa2 sc2 ho2 of2 wa3 sc3 ho3 of3 wa4 sc4 ho4 of4 = some (0, fa, acts, wa1, sc1, ho1, of1, wa2, sc2, ho2, of2, wa3, sc3, ho3, of3, wa4, sc4, ho4, of4) := by
      unfold f_X1_duel_0
      rw [if_neg (show ¬ (0 : Int32) < nI 0 by decide)]
    exact ⟨_, _, _, _, _, _, _, _, _, _, _, _, _, _, _, _, _, _, hr, fun _ _ => rfl, fun h => absurd h (by decide)⟩
  | succ d =>
    intro b wa0 sc0 ho0 wa1 sc1 ho1 wa2 sc2 ho2 wa3 sc3 ho3 wa4 sc4 ho4 acts fa of0 of1 of2 of3 of4 ht hB hE hS hO
    have h4 := hB.1
    obtain ⟨f, hf⟩ : ∃ f : Nat → Nat, f = fun k => goW b RL k + (gv RL d 1 (goA b RL k)).1 := ⟨_, rfl⟩
    have egv : gv RL (d + 1) 0 b = pick 0 f (b 4) := by rw [gv, hf]
    have fle : ∀ k, f k ≤ 21 * (d + 1) := by
      intro k
      rw [hf]
      have h1 := goW_le (RL := RL) hB k
      have h2 := (gv_le (RL := RL) d 1 (goA b RL k) (BA_goA hB (by omega)) (by rw [goA_0, goA_1 hB]; omega)).1
      show goW b RL k + (gv RL d 1 (goA b RL k)).1 ≤ _
      omega
    have act : ∀ (k : Nat) (v4 v5 : Int32) (rec40 : Int32 → Int32 → Int32 → Int32 → (Nat → Int32) → (Nat → Int32) → Int32 → Int32 → Int32 → (Nat → Int32) → Int32 → Int32 → Int32 → (Nat → Int32) → Int32 → Int32 → Int32 → (Nat → Int32) → Int32 → Int32 → Int32 → (Nat → Int32) → Option (Int32 × (Nat → Int32) × (Nat → Int32) × Int32 × Int32 × Int32 × (Nat → Int32) × Int32 × Int32 × Int32 × (Nat → Int32) × Int32 × Int32 × Int32 × (Nat → Int32) × Int32 × Int32 × Int32 × (Nat → Int32))) (wa1 sc1 ho1 wa2 sc2 ho2 wa3 sc3 ho3 wa4 sc4 ho4 : Int32) (acts fa of1 of2 of3 of4 : Nat → Int32), k ≤ b 4 → ∃ fa' acts2 wa1' sc1' ho1' of1' wa2' sc2' ho2' of2' wa3' sc3' ho3' of3' wa4' sc4' ho4' of4', (f_X1_duel_0_b67 rec40 cnt bu cu kd ln li (nI RL.length) rb rd rk rl rr rs tr (nI L) wa0 sc0 ho0 of0 1 v4 v5 (nI k) fa acts wa1 sc1 ho1 of1 wa2 sc2 ho2 of2 wa3 sc3 ho3 of3 wa4 sc4 ho4 of4 = if k = 0 then rec40 1 (nI (f k)) v5 (nI (k + 1)) fa' (upd acts2 0 (nI k)) wa1' sc1' ho1' of1' wa2' sc2' ho2' of2' wa3' sc3' ho3' of3' wa4' sc4' ho4' of4' else if nI (f k) ≤ v4 then rec40 1 v4 v5 (nI (k + 1)) fa' acts2 wa1' sc1' ho1' of1' wa2' sc2' ho2' of2' wa3' sc3' ho3' of3' wa4' sc4' ho4' of4' else rec40 1 (nI (f k)) v5 (nI (k + 1)) fa' (upd acts2 0 (nI k)) wa1' sc1' ho1' of1' wa2' sc2' ho2' of2' wa3' sc3' ho3' of3' wa4' sc4' ho4' of4') ∧ ∀ i, i ≤ 0 → acts2 i = acts i := by
      intro k v4 v5 rec40 wa1 sc1 ho1 wa2 sc2 ho2 wa3 sc3 ho3 wa4 sc4 ho4 acts fa of1 of2 of3 of4 hk
      obtain ⟨wx, hox, ofx, fax, p1, p2⟩ := e8_pass (fa := fa) (sc := sc0) hB hE (CS_cpy (of0 := of1) hS) hC (act := k) hk
      have hBg := BA_goA (RL := RL) hB (act := k) (by omega)
      obtain ⟨fa', acts2, wa2', sc2', ho2', of2', wa3', sc3', ho3', of3', wa4', sc4', ho4', of4', r1, r2⟩ := e8_du1 (cnt := cnt) hC hL d (goA b RL k) wx (sc0 + nI (goW b RL k)) hox wa2 sc2 ho2 wa3 sc3 ho3 wa4 sc4 ho4 acts fax ofx of2 of3 of4 (by omega) hBg (CE_goA hB hE) p2 (by rw [goA_0, goA_1 hB]; omega)
      have ef : f k = goW b RL k + (gv RL d 1 (goA b RL k)).1 := by rw [hf]
      refine ⟨fa', acts2, wx, (sc0 + nI (goW b RL k)), hox, ofx, wa2', sc2', ho2', of2', wa3', sc3', ho3', of3', wa4', sc4', ho4', of4', ?_, fun i hi => r2.1 i (by omega)⟩
      unfold f_X1_duel_0_b67 f_X1_duel_0_b135
      rw [e8_become, qb4, p1, qb6, r1, qb15, q_add, ← ef, qt1, show nI k + 1 = nI (k + 1) from q_add k 1]
      by_cases c1 : k = 0
      · rw [if_pos (show nI k = 0 by rw [c1]; rfl), if_pos c1]; rfl
      · rw [if_neg (nI_ne0 (by omega) (by omega)), if_neg c1]
        rw [if_neg n10]
        split <;> rfl
    obtain ⟨fas, s1⟩ := e8_stirring (fa := fa) hB hE hS hC
    have V6 := wm_64 (stir b RL) h4
    have loop : ∀ (e k fu : Nat) (wa1 sc1 ho1 wa2 sc2 ho2 wa3 sc3 ho3 wa4 sc4 ho4 : Int32) (acts fa of1 of2 of3 of4 : Nat → Int32), k + e = b 4 → e < fu → acts 0 = nI (pickS (stir b RL) 0 f k).2 → ∃ fa' acts' wa1' sc1' ho1' of1' wa2' sc2' ho2' of2' wa3' sc3' ho3' of3' wa4' sc4' ho4' of4', f_X1_duel_0_L40 cnt bu cu kd ln li (nI RL.length) rb rd rk rl rr rs tr (nI L) wa0 sc0 ho0 of0 fu 1 (nI (pickS (stir b RL) 0 f k).1) (nI (wm (stir b RL) (b 4))) (nI (k + 1)) fa acts wa1 sc1 ho1 of1 wa2 sc2 ho2 of2 wa3 sc3 ho3 of3 wa4 sc4 ho4 of4 = some (nI (pickS (stir b RL) 0 f (b 4)).1, fa', acts', wa1', sc1', ho1', of1', wa2', sc2', ho2', of2', wa3', sc3', ho3', of3', wa4', sc4', ho4', of4') ∧ (∀ i, i < 0 → acts' i = acts i) ∧ acts' 0 = nI (pickS (stir b RL) 0 f (b 4)).2 := by
      intro e
      induction e with
      | zero =>
        intro k fu wa1 sc1 ho1 wa2 sc2 ho2 wa3 sc3 ho3 wa4 sc4 ho4 acts fa of1 of2 of3 of4 hk hfu ha
        obtain ⟨n, rfl⟩ : ∃ n, fu = n + 1 := ⟨fu - 1, by omega⟩
        have : k = b 4 := by omega
        subst this
        rw [f_X1_duel_0_L40, hE.1, if_pos ((q_lt (by omega) (by omega)).mpr (by omega))]
        exact ⟨_, _, _, _, _, _, _, _, _, _, _, _, _, _, _, _, _, _, rfl, fun _ _ => rfl, ha⟩
      | succ e ih =>
        intro k fu wa1 sc1 ho1 wa2 sc2 ho2 wa3 sc3 ho3 wa4 sc4 ho4 acts fa of1 of2 of3 of4 hk hfu ha
        obtain ⟨n, rfl⟩ : ∃ n, fu = n + 1 := ⟨fu - 1, by omega⟩
        rw [f_X1_duel_0_L40, hE.1, if_neg (fun h => by have := (q_lt (by omega) (by omega)).mp h; omega), ← hE.1, if_neg (nI_ne0 (by omega) (by omega)), show nI (k + 1) - 1 = nI k from q_sub (a := k + 1) (b := 1) (by omega)]
        have hbit := wm_bit (stir b RL) (b 4) h4 k (by omega)
        have pk : pickS (stir b RL) 0 f k = pick 0 f k := pickS_eq k (fun j hj hs => by
          obtain ⟨g1, g2⟩ := stir_no (show j < b 4 by omega) hs
          rw [hf]; show goW b RL (j + 1) + _ = goW b RL 0 + _; rw [g1, g2])
        have ple := (pick_le (t := 0) (f := f) (M := 21 * (d + 1)) k (fun j _ => fle j)).1
        rw [← pk] at ple
        have fk := fle (k + 1)
        by_cases c1 : stir b RL k = true
        · rw [if_pos ⟨by omega, c1⟩] at hbit
          rw [if_pos ((q_bit (by omega) (by omega)).mpr hbit)]
          obtain ⟨fa1, acts1, wa11, sc11, ho11, of11, wa21, sc21, ho21, of21, wa31, sc31, ho31, of31, wa41, sc41, ho41, of41, r1, r3⟩ := act (k + 1) (nI (pickS (stir b RL) 0 f k).1) (nI (wm (stir b RL) (b 4))) (f_X1_duel_0_L40 cnt bu cu kd ln li (nI RL.length) rb rd rk rl rr rs tr (nI L) wa0 sc0 ho0 of0 n) wa1 sc1 ho1 wa2 sc2 ho2 wa3 sc3 ho3 wa4 sc4 ho4 acts fa of1 of2 of3 of4 (by omega)
          rw [if_neg (by omega)] at r1
          by_cases c2 : bett 0 (f (k + 1)) (pickS (stir b RL) 0 f k).1
          · have e2 : pickS (stir b RL) 0 f (k + 1) = (f (k + 1), k + 1) := by rw [pickS, if_pos c1, if_pos c2]
            have c3 : ¬ nI (f (k + 1)) ≤ nI (pickS (stir b RL) 0 f k).1 := by
              rw [q_le (by omega) (by omega)]
              intro g
              rcases c2 with h | h
              · omega
              · exact absurd rfl h.1
            rw [if_neg c3] at r1
            obtain ⟨fa', acts', wa1', sc1', ho1', of1', wa2', sc2', ho2', of2', wa3', sc3', ho3', of3', wa4', sc4', ho4', of4', t1, t2, t3⟩ := ih (k + 1) n wa11 sc11 ho11 wa21 sc21 ho21 wa31 sc31 ho31 wa41 sc41 ho41 (upd acts1 0 (nI (k + 1))) fa1 of11 of21 of31 of41 (by omega) (by omega) (by rw [e2]; unfold upd; rw [if_pos rfl])
            rw [show (pickS (stir b RL) 0 f (k + 1)).1 = f (k + 1) by rw [e2]] at t1
            exact ⟨_, _, _, _, _, _, _, _, _, _, _, _, _, _, _, _, _, _, r1.trans t1, fun i hi => by rw [t2 i hi]; unfold upd; rw [if_neg (by omega), r3 i (by omega)], t3⟩
          · have e2 : pickS (stir b RL) 0 f (k + 1) = pickS (stir b RL) 0 f k := by rw [pickS, if_pos c1, if_neg c2]
            have c3 : nI (f (k + 1)) ≤ nI (pickS (stir b RL) 0 f k).1 := by
              rw [q_le (by omega) (by omega)]
              exact Nat.not_lt.mp (fun h => c2 (Or.inl ⟨rfl, h⟩))
            rw [if_pos c3] at r1
            obtain ⟨fa', acts', wa1', sc1', ho1', of1', wa2', sc2', ho2', of2', wa3', sc3', ho3', of3', wa4', sc4', ho4', of4', t1, t2, t3⟩ := ih (k + 1) n wa11 sc11 ho11 wa21 sc21 ho21 wa31 sc31 ho31 wa41 sc41 ho41 acts1 fa1 of11 of21 of31 of41 (by omega) (by omega) (by rw [e2, r3 0 (Nat.le_refl _)]; exact ha)
            rw [e2] at t1
            exact ⟨_, _, _, _, _, _, _, _, _, _, _, _, _, _, _, _, _, _, r1.trans t1, fun i hi => by rw [t2 i hi, r3 i (by omega)], t3⟩
        · rw [if_neg (fun g => c1 g.2)] at hbit
          rw [if_neg (fun g => by have := (q_bit (by omega) (by omega)).mp g; omega), qt1, show nI (k + 1) + 1 = nI (k + 1 + 1) from q_add (k + 1) 1]
          have e2 : pickS (stir b RL) 0 f (k + 1) = pickS (stir b RL) 0 f k := by rw [pickS, if_neg c1]
          rw [← e2]
          exact ih (k + 1) n wa1 sc1 ho1 wa2 sc2 ho2 wa3 sc3 ho3 wa4 sc4 ho4 acts fa of1 of2 of3 of4 (by omega) (by omega) (by rw [e2]; exact ha)
    obtain ⟨fa1, acts1, wa11, sc11, ho11, of11, wa21, sc21, ho21, of21, wa31, sc31, ho31, of31, wa41, sc41, ho41, of41, r1, r3⟩ := act 0 0 (nI (wm (stir b RL) (b 4))) (f_X1_duel_0_L40 cnt bu cu kd ln li (nI RL.length) rb rd rk rl rr rs tr (nI L) wa0 sc0 ho0 of0 999) wa1 sc1 ho1 wa2 sc2 ho2 wa3 sc3 ho3 wa4 sc4 ho4 acts fas of1 of2 of3 of4 (by omega)
    rw [if_pos rfl] at r1
    obtain ⟨fa', acts', wa1', sc1', ho1', of1', wa2', sc2', ho2', of2', wa3', sc3', ho3', of3', wa4', sc4', ho4', of4', t1, t2, t3⟩ := loop (b 4) 0 999 wa11 sc11 ho11 wa21 sc21 ho21 wa31 sc31 ho31 wa41 sc41 ho41 (upd acts1 0 (nI 0)) fa1 of11 of21 of31 of41 (by omega) (by omega) (by unfold upd; rw [if_pos rfl]; rfl)
    have pk : pickS (stir b RL) 0 f (b 4) = pick 0 f (b 4) := pickS_eq (b 4) (fun j hj hs => by
      obtain ⟨g1, g2⟩ := stir_no (show j < b 4 by omega) hs
      rw [hf]; show goW b RL (j + 1) + _ = goW b RL 0 + _; rw [g1, g2])
    rw [pk] at t1 t3
    have hr : f_X1_duel_0 cnt bu cu kd ln li (nI RL.length) rb rd fa rk rl rr rs tr (nI L) acts wa0 sc0 ho0 of0 wa1 sc1 ho1 of1 wa2 sc2 ho2 of2 wa3 sc3 ho3 of3 wa4 sc4 ho4 of4 = some (nI (gv RL (d + 1) 0 b).1, fa', acts', wa1', sc1', ho1', of1', wa2', sc2', ho2', of2', wa3', sc3', ho3', of3', wa4', sc4', ho4', of4') := by
      unfold f_X1_duel_0 f_X1_duel_0_b21
      rw [if_pos (show (0 : Int32) < nI L by rw [show (0 : Int32) = nI 0 from rfl, q_lt (by decide) (by omega)]; omega), if_pos (show (0 : Int32) = 0 from rfl), s1, qb2, f_X1_duel_0_L40, hE.1, if_neg (show ¬ nI (b 4) < 0 from fun g => absurd ((q_lt (b := 0) (by omega) (by decide)).mp g) (by omega)), ← hE.1, if_pos rfl, egv]
      exact r1.trans t1
    exact ⟨_, _, _, _, _, _, _, _, _, _, _, _, _, _, _, _, _, _, hr, fun i hi => by rw [t2 i hi]; unfold upd; rw [if_neg (by omega), r3 i (by omega)], fun _ => by rw [egv]; exact t3⟩
end ET2
