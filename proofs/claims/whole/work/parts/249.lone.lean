/-! ===== E: strangers ===== -/
def wm (P : Nat → Bool) : Nat → Nat
  | 0 => 0
  | n + 1 => wm P n + if P n = true then 2 ^ n else 0
theorem wm_lt (P : Nat → Bool) : ∀ n, wm P n < 2 ^ n := by
  intro n
  induction n with
  | zero => exact Nat.one_pos
  | succ n ih =>
    rw [wm, Nat.pow_succ]
    split <;> omega
theorem wm_tab : ∀ n, n < 6 → ∀ W, W < 2 ^ n → ∀ k, k < 6 → (W + 2 ^ n) / 2 ^ k % 2 = (if k = n then 1 else W / 2 ^ k % 2) ∧ (n ≤ k → W / 2 ^ k % 2 = 0) := by decide +kernel
theorem wm_bit (P : Nat → Bool) : ∀ n, n ≤ 6 → ∀ k, k < 6 → wm P n / 2 ^ k % 2 = if k < n ∧ P k = true then 1 else 0 := by
  intro n
  induction n with
  | zero =>
    intro _ k _
    rw [wm, if_neg (fun h => absurd h.1 (Nat.not_lt_zero _)), Nat.zero_div]
  | succ n ih =>
    intro hn k hk
    have hw := wm_lt P n
    obtain ⟨t1, t2⟩ := wm_tab n (by omega) (wm P n) hw k hk
    have hi := ih (by omega) k hk
    rw [wm]
    by_cases c : P n = true
    · rw [if_pos c, t1]
      by_cases d : k = n
      · rw [if_pos d, if_pos ⟨by omega, by rw [d]; exact c⟩]
      · rw [if_neg d, hi]
        by_cases e : P k = true
        · by_cases f : k < n
          · rw [if_pos ⟨f, e⟩, if_pos ⟨by omega, e⟩]
          · rw [if_neg (fun h => f h.1), if_neg (fun h => f (by omega))]
        · rw [if_neg (fun h => e h.2), if_neg (fun h => e h.2)]
    · rw [if_neg c, Nat.add_zero, hi]
      by_cases e : P k = true
      · by_cases f : k < n
        · rw [if_pos ⟨f, e⟩, if_pos ⟨by omega, e⟩]
        · have ne : ¬ (k < n + 1 ∧ P k = true) := by
            intro h
            have e2 : k = n := by omega
            rw [e2] at e
            exact c e
          rw [if_neg (fun h => f h.1), if_neg ne]
      · rw [if_neg (fun h => e h.2), if_neg (fun h => e h.2)]
theorem wm_congr {P Q : Nat → Bool} : ∀ n, (∀ r, r < n → P r = Q r) → wm P n = wm Q n := by
  intro n
  induction n with
  | zero => intro _; rfl
  | succ n ih => intro h; rw [wm, wm, ih (fun r hr => h r (by omega)), h n (by omega)]
theorem ext6 {x y : Nat} (hx : x < 64) (hy : y < 64) (h : ∀ k, k < 6 → x / 2 ^ k % 2 = y / 2 ^ k % 2) : x = y := by
  have h0 := h 0 (by decide)
  have h1 := h 1 (by decide)
  have h2 := h 2 (by decide)
  have h3 := h 3 (by decide)
  have h4 := h 4 (by decide)
  have h5 := h 5 (by decide)
  simp only [Nat.reducePow] at h0 h1 h2 h3 h4 h5
  omega
theorem or_tab : ∀ x, x < 64 → ∀ y, y < 64 → nI x ||| nI y = nI (x ||| y) ∧ (x ||| y) < 64 ∧ ∀ k, k < 6 → (x ||| y) / 2 ^ k % 2 = if x / 2 ^ k % 2 = 1 ∨ y / 2 ^ k % 2 = 1 then 1 else 0 := by decide +kernel
theorem wm_64 (P : Nat → Bool) {n : Nat} (hn : n ≤ 6) : wm P n < 64 := by
  have := wm_lt P n
  have := p_le hn
  omega
theorem wm_or (P Q : Nat → Bool) {n : Nat} (hn : n ≤ 6) : nI (wm P n) ||| nI (wm Q n) = nI (wm (fun r => P r || Q r) n) := by
  obtain ⟨t1, t2, t3⟩ := or_tab _ (wm_64 P hn) _ (wm_64 Q hn)
  rw [t1]
  congr 1
  refine ext6 t2 (wm_64 _ hn) (fun k hk => ?_)
  rw [t3 k hk, wm_bit _ n hn k hk, wm_bit _ n hn k hk, wm_bit _ n hn k hk]
  by_cases c : k < n
  · cases hp : P k <;> cases hq : Q k <;> simp [c]
  · simp [c]
theorem q_pc : ∀ V, V < 64 → f_J6_bitCount_0f7a4 (nI V) = some (nI (pc V)) ∧ pc V < 7 ∧ (pc V = 1 ↔ ∃ r, r < 6 ∧ V = 2 ^ r) := by decide +kernel
def cnF (F : Nat → Bool) : Nat → Nat → Nat
  | 0, _ => 0
  | d + 1, x => (if F x = true then 1 else 0) + cnF F d (x + 1)
def fsN (F : Nat → Bool) : Nat → Nat → Option Nat
  | 0, _ => none
  | d + 1, x => if F x = true then some x else fsN F d (x + 1)
theorem cnF_le (F : Nat → Bool) : ∀ d x, cnF F d x ≤ d := by
  intro d
  induction d with
  | zero => intro x; exact Nat.le_refl _
  | succ d ih =>
    intro x
    have := ih (x + 1)
    rw [cnF]
    split <;> omega
theorem fsN_cn (F : Nat → Bool) : ∀ d x, (fsN F d x = none ↔ cnF F d x = 0) := by
  intro d
  induction d with
  | zero => intro x; exact ⟨fun _ => rfl, fun _ => rfl⟩
  | succ d ih =>
    intro x
    rw [fsN, cnF]
    by_cases c : F x = true
    · rw [if_pos c, if_pos c]; exact ⟨fun h => (nomatch h), fun h => absurd h (by omega)⟩
    · rw [if_neg c, if_neg c, Nat.zero_add]; exact ih (x + 1)
theorem fsN_lt (F : Nat → Bool) : ∀ d x y, fsN F d x = some y → y < x + d ∧ F y = true := by
  intro d
  induction d with
  | zero => intro x y h; exact (nomatch h)
  | succ d ih =>
    intro x y h
    rw [fsN] at h
    by_cases c : F x = true
    · rw [if_pos c] at h
      cases h
      exact ⟨by omega, c⟩
    · rw [if_neg c] at h
      have := ih (x + 1) y h
      exact ⟨by omega, this.2⟩
theorem cnF_0 (F : Nat → Bool) : ∀ d x, cnF F d x = 0 ↔ ∀ y, x ≤ y → y < x + d → F y = false := by
  intro d
  induction d with
  | zero => intro x; exact ⟨fun _ y h1 h2 => absurd h2 (by omega), fun _ => rfl⟩
  | succ d ih =>
    intro x
    rw [cnF]
    by_cases c : F x = true
    · rw [if_pos c]
      exact ⟨fun h => absurd h (by omega), fun h => by rw [h x (by omega) (by omega)] at c; exact absurd c (by decide)⟩
    · rw [if_neg c, Nat.zero_add, ih (x + 1)]
      constructor
      · intro h y h1 h2
        by_cases e : y = x
        · rw [e]; exact Bool.eq_false_iff.mpr c
        · exact h y (by omega) (by omega)
      · intro h y h1 h2
        exact h y (by omega) (by omega)
/-- a stranger's way: off and how often paid, behind so many watches -/
def snA (a : Nat → Nat) (x : Nat) : Nat → Nat × Nat
  | 0 => (9 * (x % 10) + 9, 0)
  | w + 1 => ((snA a x w).1 - nearA (1 + x / 100) (a (7 + w)) w, (snA a x w).2 + if 0 < (snA a x w).1 ∧ (snA a x w).1 ≤ reachA (1 + x / 100) (x / 10 % 10) (a (7 + w)) then 1 else 0)
theorem snA_le (a : Nat → Nat) (x : Nat) : ∀ w, (snA a x w).1 ≤ 90 ∧ (snA a x w).2 ≤ w := by
  intro w
  induction w with
  | zero => exact ⟨by show 9 * (x % 10) + 9 ≤ 90; omega, Nat.le_refl _⟩
  | succ w ih =>
    rw [snA]
    refine ⟨by show _ - _ ≤ 90; omega, ?_⟩
    show _ + _ ≤ w + 1
    split <;> omega
def wrV (a : Nat → Nat) (r o p : Nat) : Bool := decide ((if a (66 + 4 * r) = 0 then o else p) < a (67 + 4 * r) ∨ a (68 + 4 * r) < (if a (66 + 4 * r) = 0 then o else p))
def wrG (a : Nat → Nat) (x r : Nat) : Bool := wrV a r (snA a x (a (65 + 4 * r))).1 (snA a x (a (65 + 4 * r))).2
def maskX (a : Nat → Nat) (x : Nat) : Nat := wm (wrG a x) (a 6)
theorem snT {x : Nat} (hx : x < 500) : (nI x / 10 - nI x / 10 / 10 * 10 = nI (x / 10 % 10)) ∧ 1 + nI x / 100 = nI (1 + x / 100) ∧ nI x - nI x / 10 * 10 = nI (x % 10) := by
  refine ⟨?_, ?_, ?_⟩
  · rw [ql10, q_div (by omega) (by decide) (by decide), q_rem (by omega) (by decide) (by decide)]
  · rw [ql100, q_div (by omega) (by decide) (by decide), show (1 : Int32) = nI 1 from rfl, q_add]
  · rw [ql10, q_rem (by omega) (by decide) (by decide)]
