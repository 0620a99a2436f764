/-! ===== E: what stands next in the text, the class ===== -/
abbrev isLt (b : Nat) : Prop := 97 ≤ b ∧ b ≤ 122
abbrev isDg (b : Nat) : Prop := 48 ≤ b ∧ b ≤ 57
def run (P : Nat → Bool) (t : Nat → Nat) (n : Nat) : Nat → Nat → Nat
  | 0, p => p
  | d + 1, p => if p < n ∧ P (t p) = true then run P t n d (p + 1) else p
theorem run_le {P : Nat → Bool} {t : Nat → Nat} {n : Nat} : ∀ d p, p ≤ n → p ≤ run P t n d p ∧ run P t n d p ≤ n := by
  intro d
  induction d with
  | zero => intro p h; exact ⟨Nat.le_refl _, h⟩
  | succ d ih =>
    intro p h
    rw [run]
    split
    · rename_i c
      have := ih (p + 1) (by omega)
      omega
    · exact ⟨Nat.le_refl _, h⟩
def pS (b : Nat) : Bool := decide (b = 32)
def pL (b : Nat) : Bool := decide (isLt b)
def pD (b : Nat) : Bool := decide (isDg b)
def numV (t : Nat → Nat) : Nat → Nat → Nat → Nat
  | 0, _, v => v
  | d + 1, p, v => numV t d (p + 1) (v * 10 + (t p - 48))
/-- token, where it begins, what stands behind it, its number -/
def lexT (t : Nat → Nat) (n p : Nat) : Nat × Nat × Nat × Nat :=
  let q := run pS t n n p
  if n ≤ q then (19, q, q, 0)
  else if pL (t q) = true then (wF t q (run pL t n n q - q) 18 0, q, run pL t n n q, 0)
  else if pD (t q) = true then ((if 4 < run pD t n n q - q then 20 else 18), q, run pD t n n q, numV t (run pD t n n q - q) q 0)
  else (256 + t q, q, q + 1, 0)
theorem run_yes {P : Nat → Bool} {t : Nat → Nat} {n d p : Nat} (h : p < n) (h2 : P (t p) = true) : run P t n (d + 1) p = run P t n d (p + 1) := by rw [run, if_pos ⟨h, h2⟩]
theorem run_end {P : Nat → Bool} {t : Nat → Nat} {n d p : Nat} (h : n ≤ p) : run P t n d p = p := by
  cases d with
  | zero => rfl
  | succ d => rw [run, if_neg (fun g => absurd g.1 (Nat.not_lt.mpr h))]
theorem run_no {P : Nat → Bool} {t : Nat → Nat} {n d p : Nat} (h : ¬ P (t p) = true) : run P t n d p = p := by
  cases d with
  | zero => rfl
  | succ d => rw [run, if_neg (fun g => h g.2)]
theorem run_stop {P : Nat → Bool} {t : Nat → Nat} {n : Nat} : ∀ d p, n ≤ p + d → p ≤ n → ¬ (run P t n d p < n ∧ P (t (run P t n d p)) = true) := by
  intro d
  induction d with
  | zero => intro p h1 h2 g; rw [run] at g; omega
  | succ d ih =>
    intro p h1 h2
    rw [run]
    split
    · exact ih (p + 1) (by omega) (by omega)
    · assumption
section EM3
variable {tp : Nat → Int32} {t : Nat → Nat} {n : Nat}
theorem e8_isLetter {b : Nat} (hb : b < 256) : f_X4_isLetter (nI b) = some (if pL b = true then 1 else 0) := by
  have tab : ∀ b, b < 256 → f_X4_isLetter (nI b) = some (if pL b = true then 1 else 0) := by decide +kernel
  exact tab b hb
theorem e8_isDigit {b : Nat} (hb : b < 256) : f_X4_isDigit (nI b) = some (if pD b = true then 1 else 0) := by
  have tab : ∀ b, b < 256 → f_X4_isDigit (nI b) = some (if pD b = true then 1 else 0) := by decide +kernel
  exact tab b hb
theorem e8_digits (hn : n ≤ 200) (ht : ∀ k, k < n → tp k = nI (t k) ∧ t k < 256) {q : Nat} : ∀ (d p fuel c : Nat) (v : Int32), n ≤ p + d → p ≤ n → d < fuel → q ≤ p → (p - q ≤ 4 → v = nI c) → ∃ v', f_X4_advanceDigits_L5 (nI n) 200 tp (nI q) fuel v (nI p) = some (nI (if 4 < run pD t n d p - q then 20 else 18), v', nI (run pD t n d p)) ∧ (run pD t n d p - q ≤ 4 → v' = nI (numV t (run pD t n d p - p) p c)) := by
  intro d
  induction d with
  | zero =>
    intro p fuel c v h1 h2 hf hq hv
    obtain ⟨m, rfl⟩ : ∃ m, fuel = m + 1 := ⟨fuel - 1, by omega⟩
    rw [f_X4_advanceDigits_L5, if_pos (nI_le (by omega) (by omega)), run_end (show n ≤ p by omega)]
    unfold f_X4_advanceDigits_b59
    rw [q_sub hq]
    refine ⟨v, ?_, fun h => by rw [Nat.sub_self]; exact hv h⟩
    by_cases c4 : 4 < p - q
    · rw [if_pos (show (4 : Int32) < nI (p - q) by rw [ql4, q_lt (by decide) (by omega)]; exact c4), if_pos c4]; rfl
    · rw [if_neg (show ¬ (4 : Int32) < nI (p - q) by rw [ql4, q_lt (by decide) (by omega)]; exact c4), if_neg c4]; rfl
  | succ d ih =>
    intro p fuel c v h1 h2 hf hq hv
    obtain ⟨m, rfl⟩ : ∃ m, fuel = m + 1 := ⟨fuel - 1, by omega⟩
    have stop : f_X4_advanceDigits_b59 (nI q) v (nI p) = some (nI (if 4 < p - q then 20 else 18), v, nI p) := by
      unfold f_X4_advanceDigits_b59
      rw [q_sub hq]
      by_cases c4 : 4 < p - q
      · rw [if_pos (show (4 : Int32) < nI (p - q) by rw [ql4, q_lt (by decide) (by omega)]; exact c4), if_pos c4]; rfl
      · rw [if_neg (show ¬ (4 : Int32) < nI (p - q) by rw [ql4, q_lt (by decide) (by omega)]; exact c4), if_neg c4]; rfl
    rw [f_X4_advanceDigits_L5]
    by_cases c1 : n ≤ p
    · rw [if_pos (nI_le c1 (by omega)), run_end c1, stop]
      exact ⟨v, rfl, fun h => by rw [Nat.sub_self]; exact hv h⟩
    · obtain ⟨g1, g2⟩ := ht p (by omega)
      rw [if_neg (nI_ge (by omega) (by omega)), qcI (show p < 200 by omega) (by decide), q_cl (by omega), g1, e8_isDigit g2, qb1]
      by_cases c2 : pD (t p) = true
      · have hd := of_decide_eq_true c2
        rw [if_pos c2, if_neg n10, run_yes (show p < n by omega) c2, qcI (show p < 200 by omega) (by decide), qt1, qt1, show nI p + 1 = nI (p + 1) from q_add p 1]
        obtain ⟨v', e, hv'⟩ := ih (p + 1) m (c * 10 + (t p - 48)) (v * 10 + nI (t p) - 48) (by omega) (by omega) (by omega) (by omega) (fun h => by
          rw [hv (by omega), ql10, q_mul, q_add, show (48 : Int32) = nI 48 from rfl, q_sub (by omega)]
          congr 1
          omega)
        refine ⟨v', e, fun h => ?_⟩
        have hr := run_le (P := pD) (t := t) d (p + 1) (show p + 1 ≤ n by omega)
        rw [hv' h, show run pD t n d (p + 1) - p = run pD t n d (p + 1) - (p + 1) + 1 by omega, numV]
      · rw [if_neg c2, if_pos rfl, run_no c2, stop]
        exact ⟨v, rfl, fun h => by rw [Nat.sub_self]; exact hv h⟩
theorem e8_advance (hn : n ≤ 200) (ht : ∀ k, k < n → tp k = nI (t k) ∧ t k < 256) (num : Int32) {p : Nat} (hp : p ≤ n) : ∃ num', f_X4_advance (nI n) 200 tp num (nI p) = some (nI (lexT t n p).1, nI (lexT t n p).2.1, num', nI (lexT t n p).2.2.1) ∧ ((lexT t n p).1 = 18 → num' = nI (lexT t n p).2.2.2) := by
  have hq := run_le (P := pS) (t := t) n p hp
  have b32 : ∃ num', f_X4_advance_b32 (nI n) 200 tp num (nI (run pS t n n p)) = some (nI (lexT t n p).1, nI (lexT t n p).2.1, num', nI (lexT t n p).2.2.1) ∧ ((lexT t n p).1 = 18 → num' = nI (lexT t n p).2.2.2) := by
    unfold f_X4_advance_b32 lexT
    obtain ⟨q, eq⟩ : ∃ q, run pS t n n p = q := ⟨_, rfl⟩
    rw [eq] at hq ⊢
    dsimp only
    by_cases c1 : n ≤ q
    · rw [if_neg (fun g => by have := (q_lt (by omega) (by omega)).mp g; omega), if_pos c1]
      exact ⟨_, rfl, fun h => absurd (show (19 : Nat) = 18 from h) (by decide)⟩
    · obtain ⟨g1, g2⟩ := ht q (by omega)
      rw [if_pos ((q_lt (by omega) (by omega)).mpr (by omega)), if_neg c1, qcI (show q < 200 by omega) (by decide), q_cl (by omega), g1, e8_isLetter g2, qb1]
      by_cases c2 : pL (t q) = true
      · rw [if_pos c2, if_neg n10, if_pos c2]
        have loop : ∀ (d r fuel : Nat), n ≤ r + d → r ≤ n → q ≤ r → d < fuel → f_X4_advance_L69 (nI n) 200 tp num fuel (nI q) (nI r) = some (nI (wF t q (run pL t n d r - q) 18 0), nI q, num, nI (run pL t n d r)) := by
          intro d
          induction d with
          | zero =>
            intro r fuel h1 h2 h3 hf
            obtain ⟨m, rfl⟩ : ∃ m, fuel = m + 1 := ⟨fuel - 1, by omega⟩
            rw [f_X4_advance_L69, if_pos (nI_le (by omega) (by omega)), run_end (show n ≤ r by omega)]
            unfold f_X4_advance_b102
            rw [q_sub h3, e8_wordOf hn ht (by omega), qb1]
          | succ d ih =>
            intro r fuel h1 h2 h3 hf
            obtain ⟨m, rfl⟩ : ∃ m, fuel = m + 1 := ⟨fuel - 1, by omega⟩
            have stop : f_X4_advance_b102 200 tp num (nI q) (nI r) = some (nI (wF t q (r - q) 18 0), nI q, num, nI r) := by
              unfold f_X4_advance_b102
              rw [q_sub h3, e8_wordOf hn ht (by omega), qb1]
            rw [f_X4_advance_L69]
            by_cases d1 : n ≤ r
            · rw [if_pos (nI_le d1 (by omega)), run_end d1, stop]
            · obtain ⟨k1, k2⟩ := ht r (by omega)
              rw [if_neg (nI_ge (by omega) (by omega)), qcI (show r < 200 by omega) (by decide), q_cl (by omega), k1, e8_isLetter k2, qb1]
              by_cases d2 : pL (t r) = true
              · rw [if_pos d2, if_neg n10, run_yes (show r < n by omega) d2, qt1, show nI r + 1 = nI (r + 1) from q_add r 1]
                exact ih (r + 1) m (by omega) (by omega) (by omega) (by omega)
              · rw [if_neg d2, if_pos rfl, run_no d2, stop]
        have wl : ∀ (d i m : Nat), i + d = 18 → wF t q m d i ≠ 18 := by
          intro d
          induction d with
          | zero => intro i m _; rw [wF]; decide
          | succ d ih =>
            intro i m hi
            rw [wF]
            split
            · omega
            · exact ih (i + 1) m (by omega)
        exact ⟨num, loop n q 1000 (by omega) (by omega) (Nat.le_refl _) (by omega), fun h => absurd h (wl 18 0 _ (by omega))⟩
      · rw [if_neg c2, if_pos rfl, if_neg c2, qcI (show q < 200 by omega) (by decide), e8_isDigit g2, qb1]
        by_cases c3 : pD (t q) = true
        · obtain ⟨v', e, hv⟩ := e8_digits hn ht (q := q) n q 1000 0 0 (by omega) (by omega) (by omega) (Nat.le_refl _) (fun _ => rfl)
          have e' : f_X4_advanceDigits (nI n) 200 tp (nI q) (nI q) = _ := e
          rw [if_pos c3, if_neg n10, if_pos c3, e', qb3]
          refine ⟨v', rfl, fun h => hv ?_⟩
          dsimp only at h
          by_cases c4 : 4 < run pD t n n q - q
          · rw [if_pos c4] at h; exact absurd h (by decide)
          · omega
        · rw [if_neg c3, if_pos rfl, if_neg c3, qcI (show q < 200 by omega) (by decide), ql256, q_add, qt1, qt1, show nI q + 1 = nI (q + 1) from q_add q 1]
          exact ⟨_, rfl, fun h => by dsimp only at h; omega⟩
  obtain ⟨num', e, h⟩ := b32
  refine ⟨num', ?_, h⟩
  have loop : ∀ (d r fuel : Nat), n ≤ r + d → r ≤ n → d < fuel → f_X4_advance_L0 (nI n) 200 tp num fuel (nI r) = f_X4_advance_b32 (nI n) 200 tp num (nI (run pS t n d r)) := by
    intro d
    induction d with
    | zero =>
      intro r fuel h1 h2 hf
      obtain ⟨m, rfl⟩ : ∃ m, fuel = m + 1 := ⟨fuel - 1, by omega⟩
      rw [f_X4_advance_L0, if_pos (nI_le (by omega) (by omega)), run_end (show n ≤ r by omega)]
    | succ d ih =>
      intro r fuel h1 h2 hf
      obtain ⟨m, rfl⟩ : ∃ m, fuel = m + 1 := ⟨fuel - 1, by omega⟩
      rw [f_X4_advance_L0]
      by_cases d1 : n ≤ r
      · rw [if_pos (nI_le d1 (by omega)), run_end d1]
      · obtain ⟨k1, k2⟩ := ht r (by omega)
        rw [if_neg (nI_ge (by omega) (by omega)), qcI (show r < 200 by omega) (by decide), q_cl (by omega), k1]
        by_cases d2 : t r = 32
        · rw [if_pos (show nI (t r) = 32 by rw [d2]; rfl), run_yes (show r < n by omega) (show pS (t r) = true from decide_eq_true d2), qt1, show nI r + 1 = nI (r + 1) from q_add r 1]
          exact ih (r + 1) m (by omega) (by omega) (by omega)
        · rw [if_neg (show ¬ nI (t r) = 32 by rw [ql32, q_eq (by omega) (by decide)]; exact d2), run_no (show ¬ pS (t r) = true from fun g => d2 (of_decide_eq_true g))]
  unfold f_X4_advance
  rw [loop n p 1000 (by omega) hp (by omega)]
  exact e
end EM3
