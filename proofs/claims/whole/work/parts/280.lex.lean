/-! ===== E: names of the rules' text ===== -/
def wds : List (List Nat) := [[115, 104, 105, 112], [116, 101, 110, 100, 101, 114], [99, 111, 97, 115, 116, 101, 114], [99, 111, 108, 108, 105, 101, 114], [98, 114, 105, 103], [99, 97, 112, 116, 97, 105, 110], [101, 110, 116, 101, 114], [115, 116, 97, 110, 100], [104, 97, 105, 108], [105, 102], [97, 110, 100], [111, 114], [110, 111, 116], [119, 97, 116, 99, 104], [111, 102, 102], [116, 114, 105, 109], [102, 108, 97, 115, 104], [110, 117, 109, 98, 101, 114]]
def wL (i : Nat) : Nat := (wds.getD i []).length
def wB (i j : Nat) : Nat := (wds.getD i []).getD j 0
def wO : Nat → Nat
  | 0 => 0
  | i + 1 => wO i + wL i + 1
theorem wd_tab : ∀ i, i < 18 → wO i + wL i < 100 ∧ wL i < 8 ∧ wd_ch (wO i + wL i) = 32 ∧ ∀ j, j < wL i → wd_ch (wO i + j) = nI (wB i j) ∧ 97 ≤ wB i j ∧ wB i j ≤ 122 := by decide +kernel
theorem wO_18 : wO 18 = 100 := by decide +kernel
section EL2
variable {tp : Nat → Int32} {t : Nat → Nat} {n : Nat}
/-- the name at p, so long, is the word i -/
def mB (t : Nat → Nat) (p m i : Nat) : Bool := decide (wL i = m ∧ ∀ j, j < m → wB i j = t (p + j))
def flB (t : Nat → Nat) (p m i j : Nat) : Bool := decide (∀ q, q < j → q < m ∧ wB i q = t (p + q))
def wF (t : Nat → Nat) (p m : Nat) : Nat → Nat → Nat
  | 0, _ => 20
  | d + 1, i => if mB t p m i = true then i else wF t p m d (i + 1)
theorem e8_word1 (hn : n ≤ 200) (ht : ∀ k, k < n → tp k = nI (t k) ∧ t k < 256) {p m : Nat} (hpm : p + m ≤ n) {i : Nat} (hi : i < 18) : ∀ (d j fuel : Nat), j + d = wL i → f_X4_wordOf_L11 (nI p) (nI m) 200 tp (fuel + (d + 1)) (nI i) (nI j) (if flB t p m i j = true then 1 else 0) (nI (wO i + j)) = if mB t p m i = true then some (nI i) else f_X4_wordOf_L11 (nI p) (nI m) 200 tp fuel (nI (i + 1)) 0 1 (nI (wO (i + 1))) := by
  obtain ⟨w1, w2, w3, w4⟩ := wd_tab i hi
  intro d
  induction d with
  | zero =>
    intro j fuel hj
    have ej : j = wL i := by omega
    subst ej
    rw [show fuel + (0 + 1) = fuel + 1 from rfl, f_X4_wordOf_L11, ql100, if_neg (nI_ge (by omega) (by decide)), qcI (show wO i + wL i < 100 by omega) (by decide), q_cl (by omega), w3, qt1, if_pos rfl]
    rw [show nI (wO i + wL i) + 1 = nI (wO (i + 1)) from q_add _ 1, show nI i + 1 = nI (i + 1) from q_add i 1, qt1, qt1]
    by_cases c : flB t p m i (wL i) = true
    · rw [if_pos c, if_neg n10]
      have hf := of_decide_eq_true c
      by_cases d : wL i = m
      · have hm : mB t p m i = true := decide_eq_true ⟨d, fun j hj => (hf j (by omega)).2⟩
        rw [if_pos (by rw [d]), if_pos hm]
      · have hm : ¬ mB t p m i = true := fun g => d (of_decide_eq_true g).1
        rw [if_neg (by rw [q_eq (by omega) (by omega)]; exact d), if_neg hm]
    · have hm : ¬ mB t p m i = true := fun g => c (decide_eq_true (fun q hq => by
        have := of_decide_eq_true g
        exact ⟨by omega, this.2 q (by omega)⟩))
      rw [if_neg c, if_pos rfl, if_neg hm]
  | succ d ih =>
    intro j fuel hj
    obtain ⟨v1, v2, v3⟩ := w4 j (by omega)
    have nx := ih (j + 1) fuel (by omega)
    rw [show fuel + (d + 1 + 1) = fuel + (d + 1) + 1 from rfl, f_X4_wordOf_L11, ql100, if_neg (nI_ge (by omega) (by decide)), qcI (show wO i + j < 100 by omega) (by decide), q_cl (by omega), v1, qt1, if_neg (show ¬ nI (wB i j) = 32 by rw [ql32, q_eq (by omega) (by decide)]; omega)]
    rw [show nI (wO i + j) + 1 = nI (wO i + (j + 1)) from q_add _ 1, show nI j + 1 = nI (j + 1) from q_add j 1]
    have fls : ¬ flB t p m i (j + 1) = true → f_X4_wordOf_L11 (nI p) (nI m) 200 tp (fuel + (d + 1)) (nI i) (nI (j + 1)) 0 (nI (wO i + (j + 1))) = if mB t p m i = true then some (nI i) else f_X4_wordOf_L11 (nI p) (nI m) 200 tp fuel (nI (i + 1)) 0 1 (nI (wO (i + 1))) := fun c => by
      rw [if_neg c] at nx; exact nx
    by_cases c : flB t p m i j = true
    · rw [if_pos c, if_neg n10]
      have hf := of_decide_eq_true c
      by_cases c2 : m ≤ j
      · rw [if_pos (nI_le c2 (by omega)), qt1, qt1]
        exact fls (fun g => by have := (of_decide_eq_true g) j (by omega); omega)
      · obtain ⟨g1, g2⟩ := ht (p + j) (by omega)
        rw [if_neg (nI_ge (by omega) (by omega)), q_add, qcI (show p + j < 200 by omega) (by decide), q_cl (by omega), g1]
        by_cases c3 : t (p + j) = wB i j
        · have hf1 : flB t p m i (j + 1) = true := decide_eq_true (fun q hq => by
            by_cases e : q = j
            · rw [e]; exact ⟨by omega, c3.symm⟩
            · exact hf q (by omega))
          rw [if_pos (by rw [c3]), qt1, qt1]
          rw [if_pos hf1] at nx
          exact nx
        · rw [if_neg (by rw [q_eq (by omega) (by omega)]; exact c3), qt1, qt1]
          exact fls (fun g => c3 ((of_decide_eq_true g) j (by omega)).2.symm)
    · rw [if_neg c, if_pos rfl, qt1, qt1]
      exact fls (fun g => c (decide_eq_true (fun q hq => (of_decide_eq_true g) q (by omega))))
theorem e8_wordOf (hn : n ≤ 200) (ht : ∀ k, k < n → tp k = nI (t k) ∧ t k < 256) {p m : Nat} (hpm : p + m ≤ n) : f_X4_wordOf (nI p) (nI m) 200 tp = some (nI (wF t p m 18 0)) := by
  have loop : ∀ (d i fuel : Nat), i + d = 18 → f_X4_wordOf_L11 (nI p) (nI m) 200 tp (fuel + 1 + (wO 18 - wO i)) (nI i) 0 1 (nI (wO i)) = some (nI (wF t p m d i)) := by
    intro d
    induction d with
    | zero =>
      intro i fuel hi
      have : i = 18 := by omega
      subst this
      rw [Nat.sub_self, Nat.add_zero, f_X4_wordOf_L11, wO_18, if_pos (by decide)]
      rfl
    | succ d ih =>
      intro i fuel hi
      have e1 := e8_word1 hn ht hpm (i := i) (by omega) (wL i) 0 (fuel + 1 + (wO 18 - wO (i + 1))) (by omega)
      have eo : wO (i + 1) = wO i + wL i + 1 := rfl
      have ob : ∀ i, i < 18 → wO (i + 1) ≤ wO 18 := by decide +kernel
      have := ob i (by omega)
      have f0 : flB t p m i 0 = true := decide_eq_true (fun q hq => absurd hq (Nat.not_lt_zero _))
      rw [if_pos f0, Nat.add_zero, show fuel + 1 + (wO 18 - wO (i + 1)) + (wL i + 1) = fuel + 1 + (wO 18 - wO i) by omega, ih (i + 1) fuel (by omega)] at e1
      rw [wF]
      refine Eq.trans e1 ?_
      split <;> rfl
  unfold f_X4_wordOf
  exact loop 18 0 899 (by omega)
end EL2
