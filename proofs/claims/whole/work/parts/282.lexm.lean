/-! ===== E: what stands next in the text, the reference ===== -/
/-- the reference's number of a name, as the class counts -/
def mp (v : Nat) : Nat := if v = 10 then 12 else if v = 11 then 10 else if v = 12 then 11 else v
def im (i : Nat) : Nat := if i = 10 then 11 else if i = 11 then 12 else if i = 12 then 10 else i
theorem mp_tab : ∀ v, v < 18 → mp v < 18 ∧ im (mp v) = v ∧ im v < 18 ∧ mp (im v) = v := by decide
theorem wd_one : ∀ i, i < 18 → ∀ k, k < 18 → (wL i = wL k ∧ ∀ j, j < wL i → wB i j = wB k j) → i = k := by decide +kernel
def lt9 (v j : Nat) : Nat := if j < wL (mp v) then wB (mp v) j else 32
def InL (le : Nat → Int32) : Prop := ∀ v, v < 18 → ∀ j, j < 8 → le (8 * v + j) = nI (lt9 v j)
theorem lt9_lt : ∀ v, v < 18 → ∀ j, j < 8 → lt9 v j < 256 := by decide +kernel
def chR (t : Nat → Nat) (e q k : Nat) : Nat := if e ≤ q + k then 32 else t (q + k)
def nmE (v : Nat) (t : Nat → Nat) (e q : Nat) : Nat → Nat → Bool
  | 0, _ => true
  | d + 1, j => decide (lt9 v j = chR t e q j) && nmE v t e q d (j + 1)
theorem nmE_iff {v e q : Nat} {t : Nat → Nat} : ∀ d j, (nmE v t e q d j = true ↔ ∀ k, j ≤ k → k < j + d → lt9 v k = chR t e q k) := by
  intro d
  induction d with
  | zero => intro j; exact ⟨fun _ k h1 h2 => absurd h2 (by omega), fun _ => rfl⟩
  | succ d ih =>
    intro j
    rw [nmE, Bool.and_eq_true, ih (j + 1), decide_eq_true_iff]
    constructor
    · intro ⟨h1, h2⟩ k h3 h4
      by_cases c : k = j
      · rw [c]; exact h1
      · exact h2 k (by omega) (by omega)
    · intro h
      exact ⟨h j (Nat.le_refl _) (by omega), fun k h1 h2 => h k (by omega) (by omega)⟩
section EM4
variable {tp le : Nat → Int32} {t : Nat → Nat} {n : Nat}
theorem e9_byteAt (hn : n ≤ 200) (ht : ∀ k, k < n → tp k = nI (t k) ∧ t k < 256) {p : Nat} (hp : p < 1000) : f_X9_byteAt (nI p) (nI n) tp = some (if p < n then nI (t p) else -1) := by
  unfold f_X9_byteAt
  by_cases c : p < n
  · rw [if_neg (nI_ge c (by omega)), qcI (show p < 200 by omega) (by decide), q_cl (by omega), (ht p c).1, if_pos c]
  · rw [if_pos (nI_le (by omega) (by omega)), if_neg c]
theorem e9_isNameOf (hn : n ≤ 200) (ht : ∀ k, k < n → tp k = nI (t k) ∧ t k < 256) (hl : InL le) {q e v : Nat} (hq : q ≤ e) (he : e ≤ n) (hlt : ∀ k, q ≤ k → k < e → 97 ≤ t k) (hv : v < 18) : f_X9_isNameOf (nI v) (nI n) (nI e) (nI q) le tp = some (if mB t q (e - q) (mp v) = true then 1 else 0) := by
  obtain ⟨m1, m2, -, -⟩ := mp_tab v hv
  obtain ⟨w1, w2, w3, w4⟩ := wd_tab (mp v) m1
  have loop : ∀ (d j fuel : Nat), j + d = 8 → d < fuel → f_X9_isNameOf_L22 (nI v) (nI n) (nI e) (nI q) le tp fuel 1 (nI j) = some (if nmE v t e q d j = true then 1 else 0) := by
    intro d
    induction d with
    | zero =>
      intro j fuel hj hf
      obtain ⟨m, rfl⟩ : ∃ m, fuel = m + 1 := ⟨fuel - 1, by omega⟩
      rw [f_X9_isNameOf_L22, ql8, if_pos (nI_le (by omega) (by omega)), qcB1]
      rfl
    | succ d ih =>
      intro j fuel hj hf
      obtain ⟨m, rfl⟩ : ∃ m, fuel = m + 1 := ⟨fuel - 1, by omega⟩
      rw [f_X9_isNameOf_L22, ql8, if_neg (nI_ge (by omega) (by decide)), if_neg n10, q_mul, q_add, q_add, qcI (show 8 * v + j < 144 by omega) (by decide), q_cl (by omega), hl v hv j (by omega)]
      have hlt9 := lt9_lt v hv j (by omega)
      have fin : ∀ x : Nat, x < 256 → (x = chR t e q j) → f_X9_isNameOf_b71 (f_X9_isNameOf_L22 (nI v) (nI n) (nI e) (nI q) le tp m) (nI j) (nI (lt9 v j)) (nI x) = some (if nmE v t e q (d + 1) j = true then 1 else 0) := by
        intro x hx ex
        unfold f_X9_isNameOf_b71
        rw [show nI j + 1 = nI (j + 1) from q_add j 1, nmE]
        by_cases c : lt9 v j = x
        · rw [if_pos (by rw [c]), qt1, ih (j + 1) m (by omega) (by omega), decide_eq_true (c.trans ex), Bool.true_and]
        · rw [if_neg (by rw [q_eq (by omega) (by omega)]; exact c), qt1, decide_eq_false (fun g => c (g.trans ex.symm)), Bool.false_and, if_neg (by decide)]
          obtain ⟨m2, rfl⟩ : ∃ m2, m = m2 + 1 := ⟨m - 1, by omega⟩
          rw [f_X9_isNameOf_L22]
          by_cases c8 : (8 : Int32) ≤ nI (j + 1)
          · rw [if_pos c8, qcB0]
          · rw [if_neg c8, if_pos rfl, qcB0]
      by_cases c1 : e ≤ q + j
      · rw [if_pos (nI_le c1 (by omega))]
        exact fin 32 (by decide) (if_pos c1).symm
      · rw [if_neg (nI_ge (by omega) (by omega)), e9_byteAt hn ht (by omega), qb1, if_pos (show q + j < n by omega)]
        exact fin _ (ht _ (by omega)).2 (if_neg c1).symm
  have key : e - q ≤ 8 → ((∀ k, 0 ≤ k → k < 0 + 8 → lt9 v k = chR t e q k) ↔ mB t q (e - q) (mp v) = true) := by
    intro h8
    constructor
    · intro h
      have len : wL (mp v) = e - q := by
        rcases Nat.lt_trichotomy (wL (mp v)) (e - q) with c | c | c
        · have := h (wL (mp v)) (Nat.zero_le _) (by omega)
          unfold lt9 chR at this
          rw [if_neg (Nat.lt_irrefl _), if_neg (by omega)] at this
          have := hlt (q + wL (mp v)) (by omega) (by omega)
          omega
        · exact c
        · have := h (e - q) (Nat.zero_le _) (by omega)
          unfold lt9 chR at this
          rw [if_pos c, if_pos (by omega)] at this
          have := (w4 (e - q) c).2.1
          omega
      refine decide_eq_true ⟨len, fun j hj => ?_⟩
      have := h j (Nat.zero_le _) (by omega)
      unfold lt9 chR at this
      rw [if_pos (by omega), if_neg (by omega)] at this
      exact this
    · intro h k _ hk
      obtain ⟨h1, h2⟩ := of_decide_eq_true h
      unfold lt9 chR
      by_cases c : k < wL (mp v)
      · rw [if_pos c, if_neg (by omega)]; exact h2 k (by omega)
      · rw [if_neg c, if_pos (by omega)]
  unfold f_X9_isNameOf f_X9_isNameOf_b19
  rw [q_sub hq]
  by_cases c : e - q ≤ 8
  · rw [if_neg (by rw [ql8, q_lt (by decide) (by omega)]; omega)]
    have e1 := loop 8 0 1000 (by omega) (by omega)
    rw [show (nI 0) = (0 : Int32) from rfl] at e1
    rw [e1]
    congr 1
    by_cases g : mB t q (e - q) (mp v) = true
    · rw [if_pos g, if_pos ((nmE_iff 8 0).mpr ((key c).mpr g))]
    · rw [if_neg g, if_neg (fun z => g ((key c).mp ((nmE_iff 8 0).mp z)))]
  · rw [if_pos (by rw [ql8, q_lt (by decide) (by omega)]; omega), f_X9_isNameOf_L22, if_neg (by decide), if_pos rfl, qcB0, if_neg (fun g => by have := (of_decide_eq_true g).1; omega)]
end EM4
