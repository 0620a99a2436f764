/-! ===== E: strangers, the reference and both ===== -/
theorem wm_0 (P : Nat → Bool) : ∀ n, (wm P n = 0 ↔ ∀ r, r < n → P r = false) := by
  intro n
  induction n with
  | zero => exact ⟨fun _ r hr => absurd hr (Nat.not_lt_zero _), fun _ => rfl⟩
  | succ n ih =>
    have hp : 0 < 2 ^ n := Nat.pow_pos (by decide)
    rw [wm]
    constructor
    · intro h r hr
      by_cases c : P n = true
      · rw [if_pos c] at h; omega
      · rw [if_neg c, Nat.add_zero] at h
        by_cases d : r = n
        · rw [d]; exact Bool.eq_false_iff.mpr c
        · exact ih.mp h r (by omega)
    · intro h
      rw [h n (by omega), if_neg (by decide), Nat.add_zero]
      exact ih.mpr (fun r hr => h r (by omega))
def fitB (a : Nat → Nat) (p : Int32) (x : Nat) : Bool := decide (∀ r, r < a 6 → (nI r = p ∨ wrG a x r = false))
theorem fitB_m (a : Nat → Nat) (h6 : a 6 ≤ 6) (x : Nat) : fitB a (-1) x = decide (maskX a x = 0) := by
  unfold fitB maskX
  rw [decide_eq_decide, wm_0]
  constructor
  · intro h r hr
    rcases h r hr with e | e
    · exact absurd (e ▸ nI_pos' (show r < 2 ^ 31 by omega)) (by decide)
    · exact e
  · intro h r hr
    exact Or.inr (h r hr)
section EG
variable {a : Nat → Nat} {s : Nat → Int32}
theorem nearA_lt {kd li w : Nat} (hl : li ≤ 15) : nearA kd li w ≤ 20 := by
  have q1 : li / 4 ≤ 3 := by omega
  have q2 : li % 4 ≤ 3 := by omega
  have q3 : li / 4 * (li % 4) ≤ 3 * 3 := Nat.mul_le_mul q1 q2
  unfold nearA
  repeat' split
  all_goals omega
theorem reachA_lt {kd t li : Nat} (ht : t ≤ 9) (hl : li ≤ 15) : reachA kd t li ≤ 60 := by
  unfold reachA
  repeat' split
  all_goals omega
theorem e9_tells (hB : BA a) (hR : RM s a) {x : Nat} (hx : x < 500) (g1 g2 : Nat → Int32) : ∃ h1 h2, f_X9_tellsLone (nI (1 + x / 100)) (nI (x / 10 % 10)) (nI (9 * (x % 10) + 9)) g1 g2 s = some (h1, h2) ∧ ∀ w, w < 16 → h1 w = nI (snA a x w).1 ∧ h2 w = nI (snA a x w).2 := by
  have loop : ∀ (d fuel w : Nat) (g1 g2 : Nat → Int32), w + d = 16 → d < fuel → (∀ v, v < w → g1 v = nI (snA a x v).1 ∧ g2 v = nI (snA a x v).2) → ∃ h1 h2, f_X9_tellsLone_L9 (nI (1 + x / 100)) (nI (x / 10 % 10)) s fuel (nI (snA a x w).1) (nI (snA a x w).2) (nI w) g1 g2 = some (h1, h2) ∧ ∀ v, v < 16 → h1 v = nI (snA a x v).1 ∧ h2 v = nI (snA a x v).2 := by
    intro d
    induction d with
    | zero =>
      intro fuel w g1 g2 hw hf hg
      obtain ⟨n, rfl⟩ : ∃ n, fuel = n + 1 := ⟨fuel - 1, by omega⟩
      have : w = 16 := by omega
      subst this
      rw [f_X9_tellsLone_L9, if_pos (by decide)]
      exact ⟨_, _, rfl, hg⟩
    | succ d ih =>
      intro fuel w g1 g2 hw hf hg
      obtain ⟨n, rfl⟩ : ∃ n, fuel = n + 1 := ⟨fuel - 1, by omega⟩
      obtain ⟨s1, s2⟩ := snA_le a x w
      have bl := hB.2.2.2.2.1 w (by omega)
      have b1 := nearA_lt (kd := 1 + x / 100) (w := w) bl
      have b2 := reachA_lt (kd := 1 + x / 100) (t := x / 10 % 10) (by omega) bl
      have hg' : ∀ v, v < w + 1 → upd g1 w (nI (snA a x w).1) v = nI (snA a x v).1 ∧ upd g2 w (nI (snA a x w).2) v = nI (snA a x v).2 := by
        intro v hv
        unfold upd
        by_cases c : v = w
        · rw [if_pos c, if_pos c, c]; exact ⟨rfl, rfl⟩
        · rw [if_neg c, if_neg c]; exact hg v (by omega)
      have nx := ih n (w + 1) _ _ (by omega) (by omega) hg'
      rw [f_X9_tellsLone_L9, show (16 : Int32) = nI 16 from rfl, if_neg (nI_ge (by omega) (by decide)), qcI (show w < 16 by omega) (by decide), qcI (show w < 16 by omega) (by decide), ql7, q_add, qcI (by omega) (by decide), qt1, q_cl (by omega), q_cl (by omega), hR _ (by omega) (by omega) (by omega)]
      have fin : ∀ (v k : Nat), v + k = (snA a x (w + 1)).2 → f_X9_tellsLone_b72 (f_X9_tellsLone_L9 (nI (1 + x / 100)) (nI (x / 10 % 10)) s n) (nI (1 + x / 100)) (nI (snA a x w).1) (nI w) (nI (a (7 + w))) (nI v) (nI k) (upd g1 w (nI (snA a x w).1)) (upd g2 w (nI (snA a x w).2)) = f_X9_tellsLone_L9 (nI (1 + x / 100)) (nI (x / 10 % 10)) s n (nI (snA a x (w + 1)).1) (nI (snA a x (w + 1)).2) (nI (w + 1)) (upd g1 w (nI (snA a x w).1)) (upd g2 w (nI (snA a x w).2)) := by
        intro v k hk
        unfold f_X9_tellsLone_b72
        rw [q_add, qt1, e9_nearsBy (by omega) bl (by omega), qb1, hk]
        have eh : f_X9_held (nI (snA a x w).1 - nI (nearA (1 + x / 100) (a (7 + w)) w)) 99 = some (nI (snA a x (w + 1)).1) := by
          unfold f_X9_held
          by_cases c : nearA (1 + x / 100) (a (7 + w)) w ≤ (snA a x w).1
          · rw [q_sub c, if_pos (nI_pos' (by omega)), if_pos (by rw [ql99]; exact nI_le (by omega) (by decide))]
            rfl
          · have e0 : (snA a x (w + 1)).1 = 0 := by
              rw [snA]
              show _ - _ = 0
              omega
            have e1 : ¬ (0 : Int32) ≤ nI (snA a x w).1 - nI (nearA (1 + x / 100) (a (7 + w)) w) := by
              have key : ∀ p, p < 21 → ∀ q, q < 21 → p < q → ¬ (0 : Int32) ≤ nI p - nI q := by decide +kernel
              exact key _ (by omega) _ (by omega) (by omega)
            rw [if_neg e1, e0]; rfl
        rw [eh, qb1, qt1, show nI w + 1 = nI (w + 1) from q_add w 1]
      unfold f_X9_tellsLone_b71
      by_cases c : (snA a x w).1 = 0
      · rw [if_pos (show nI (snA a x w).1 ≤ 0 by rw [c]; decide), show (0 : Int32) = nI 0 from rfl, fin _ 0 (by rw [snA]; show _ = _ + _; rw [if_neg (by omega)])]
        exact nx
      · rw [if_neg (show ¬ nI (snA a x w).1 ≤ (0 : Int32) by rw [ql0]; exact nI_ge (by omega) (by omega)), e9_reachesBy (by omega) bl (by omega), qb1]
        by_cases c2 : reachA (1 + x / 100) (x / 10 % 10) (a (7 + w)) < (snA a x w).1
        · rw [if_pos ((q_lt (by omega) (by omega)).mpr c2), show (0 : Int32) = nI 0 from rfl, fin _ 0 (by rw [snA]; show _ = _ + _; rw [if_neg (by omega)])]
          exact nx
        · rw [if_neg (fun h => c2 ((q_lt (by omega) (by omega)).mp h)), show (1 : Int32) = nI 1 from rfl, fin _ 1 (by rw [snA]; show _ = _ + _; rw [if_pos ⟨by omega, by omega⟩])]
          exact nx
  unfold f_X9_tellsLone
  exact loop 16 1000 0 g1 g2 (by omega) (by omega) (fun v hv => absurd hv (Nat.not_lt_zero _))
variable {pn : Int32} {ph pa pl pm : Nat → Int32}
theorem e9_isSo (hP : RP pn ph pa pl pm a) (hR : RM s a) {x r : Nat} (hr : r < a 6) {h1 h2 : Nat → Int32} (h : ∀ w, w < 16 → h1 w = nI (snA a x w).1 ∧ h2 w = nI (snA a x w).2) : f_X9_isSo (nI r) h1 h2 s = some (if wrG a x r = true then 0 else 1) := by
  have h6 := hP.2.1
  obtain ⟨b1, b2, b3, b4⟩ := hP.2.2.2 r (by omega)
  obtain ⟨k1, k2⟩ := h (a (65 + 4 * r)) (by omega)
  obtain ⟨s1, s2⟩ := snA_le a x (a (65 + 4 * r))
  have e1 : (65 : Int32) + 4 * nI r = nI (65 + 4 * r) := by rw [ql65, ql4, q_mul, q_add]
  have key : ∀ v : Nat, v ≤ 99 → (if a (66 + 4 * r) = 0 then (snA a x (a (65 + 4 * r))).1 else (snA a x (a (65 + 4 * r))).2) = v → f_X9_isSo_b43 s (nI (65 + 4 * r)) (nI v) = some (if wrG a x r = true then 0 else 1) := by
    intro v hv ev
    have ew : wrG a x r = decide (v < a (67 + 4 * r) ∨ a (68 + 4 * r) < v) := by unfold wrG wrV; rw [ev]
    unfold f_X9_isSo_b43 f_X9_in1
    rw [ql2, ql3, q_add, q_add, qcI (show 65 + 4 * r + 2 < 313 by omega) (by decide), qcI (show 65 + 4 * r + 3 < 313 by omega) (by decide), q_cl (by omega), q_cl (by omega), hR _ (by omega) (by omega) (by omega), hR _ (by omega) (by omega) (by omega), show 65 + 4 * r + 2 = 67 + 4 * r by omega, show 65 + 4 * r + 3 = 68 + 4 * r by omega, ew]
    by_cases c1 : v < a (67 + 4 * r)
    · rw [if_pos ((q_lt (by omega) (by omega)).mpr c1), if_pos (decide_eq_true (Or.inl c1))]; rfl
    · rw [if_neg (fun h => c1 ((q_lt (by omega) (by omega)).mp h))]
      by_cases c2 : a (68 + 4 * r) < v
      · rw [if_pos ((q_lt (by omega) (by omega)).mpr c2), if_pos (decide_eq_true (Or.inr c2))]; rfl
      · rw [if_neg (fun h => c2 ((q_lt (by omega) (by omega)).mp h)), if_neg (by rw [decide_eq_false (by omega)]; decide)]; rfl
  unfold f_X9_isSo
  rw [e1, qt1, show (1 : Int32) = nI 1 from rfl, q_add, qcI (show 65 + 4 * r + 1 < 313 by omega) (by decide), qcI (show 65 + 4 * r < 313 by omega) (by decide), q_cl (by omega), q_cl (by omega), hR _ (by omega) (by omega) (by omega), hR _ (by omega) (by omega) (by omega), qcI (show a (65 + 4 * r) < 16 by omega) (by decide), q_cl (by omega), k1, k2, show 65 + 4 * r + 1 = 66 + 4 * r by omega]
  by_cases c : a (66 + 4 * r) = 0
  · rw [if_pos (by rw [c]; rfl)]; exact key _ (by omega) (if_pos c)
  · rw [if_neg (nI_ne0 (by omega) (by omega)), qcI (show 65 + 4 * r < 313 by omega) (by decide), qcI (show a (65 + 4 * r) < 16 by omega) (by decide)]; exact key _ (by omega) (if_neg c)
end EG
