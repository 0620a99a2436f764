/-! ===== E: the rest ===== -/
/-- whom the rest tells, and 1 more; 0: none -/
def fmay (a : Nat → Nat) (RL : List RRul) : Nat → Nat → Nat
  | 0, _ => 0
  | d + 1, j => if may a RL j = true then j + 1 else fmay a RL d (j + 1)
def rAct (a : Nat → Nat) (RL : List RRul) : Nat := fmay a RL (a 4) 0
def rsA (RL : List RRul) : Nat → (Nat → Nat) → (Nat → Nat)
  | 0, a => a
  | n + 1, a => if a 0 < a 1 then rsA RL n (goA a RL (rAct a RL)) else a
def rsW (RL : List RRul) : Nat → (Nat → Nat) → Nat
  | 0, _ => 0
  | n + 1, a => if a 0 < a 1 then goW a RL (rAct a RL) + rsW RL n (goA a RL (rAct a RL)) else 0
theorem fmay_le {a : Nat → Nat} {RL : List RRul} : ∀ d j, fmay a RL d j ≤ d + j := by
  intro d
  induction d with
  | zero => intro j; exact Nat.zero_le _
  | succ d ih =>
    intro j
    have := ih (j + 1)
    unfold fmay
    split <;> omega
theorem rAct_le {a : Nat → Nat} {RL : List RRul} : rAct a RL ≤ a 4 := fmay_le _ 0
theorem goA_0 {a : Nat → Nat} {RL : List RRul} {act : Nat} : goA a RL act 0 = a 0 + 1 := updN_at _ _ _
theorem goA_1 {a : Nat → Nat} {RL : List RRul} {act : Nat} (hB : BA a) : goA a RL act 1 = a 1 := goA_oth (by decide) (by decide) hB.1
theorem goA_4 {a : Nat → Nat} {RL : List RRul} {act : Nat} (hB : BA a) : goA a RL act 4 = a 4 := goA_oth (by decide) (by decide) hB.1
theorem rsA_s {RL : List RRul} {n : Nat} {a : Nat → Nat} : rsA RL (n + 1) a = if a 0 < a 1 then rsA RL n (goA a RL (rAct a RL)) else a := rfl
theorem rsW_s {RL : List RRul} {n : Nat} {a : Nat → Nat} : rsW RL (n + 1) a = if a 0 < a 1 then goW a RL (rAct a RL) + rsW RL n (goA a RL (rAct a RL)) else 0 := rfl
theorem BA_rsA {RL : List RRul} : ∀ (n : Nat) {a : Nat → Nat}, BA a → BA (rsA RL n a) := by
  intro n
  induction n with
  | zero => intro a h; exact h
  | succ n ih =>
    intro a h
    rw [rsA_s]
    split
    · exact ih (BA_goA h (by assumption))
    · exact h
theorem rsW_le {RL : List RRul} : ∀ (n : Nat) {a : Nat → Nat}, BA a → rsW RL n a ≤ 21 * n := by
  intro n
  induction n with
  | zero => intro a h; exact Nat.le_refl 0
  | succ n ih =>
    intro a h
    rw [rsW_s]
    split
    · have h1 := goW_le (RL := RL) h (rAct a RL)
      have h2 := ih (BA_goA (RL := RL) (act := rAct a RL) h (by assumption))
      omega
    · exact Nat.zero_le _
theorem rsA_oth {RL : List RRul} : ∀ (n : Nat) {a : Nat → Nat} {x : Nat}, BA a → x ≠ 0 → (x < 35 ∨ 65 ≤ x ∨ (x % 5 ≠ 1 ∧ x % 5 ≠ 4)) → rsA RL n a x = a x := by
  intro n
  induction n with
  | zero => intro a x _ _ _; rfl
  | succ n ih =>
    intro a x h h0 h1
    rw [rsA_s]
    split
    · rw [ih (BA_goA h (by assumption)) h0 h1, goA_oth h0 h1 h.1]
    · rfl
