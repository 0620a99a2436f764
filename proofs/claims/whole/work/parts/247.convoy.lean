/-! ===== E: convoys ===== -/
def adA (x y : Nat) : Nat := if y ≤ x then x - y else y - x
theorem q_abs : ∀ x, x < 100 → ∀ y, y < 100 → iabs (nI x - nI y) = nI (adA x y) := by decide +kernel
abbrev clA (a : Nat → Nat) (i j : Nat) : Prop := a (39 + 5 * i) = 0 ∧ a (39 + 5 * j) = 0 ∧ (a (38 + 5 * i) = a (38 + 5 * j) ∨ adA (a (36 + 5 * i)) (a (36 + 5 * j)) ≤ 4)
def orB (S j : Nat) : Nat := if S / 2 ^ j % 2 = 1 then S else S + 2 ^ j
theorem orB_q : ∀ j, j < 6 → ∀ S, S < 64 → nI S ||| ((1 : Int32) <<< (nI j &&& 31)) = nI (orB S j) ∧ orB S j < 64 := by decide +kernel
theorem orB_n : ∀ n, n < 7 → ∀ j, j < n → ∀ S, S < 2 ^ n → orB S j < 2 ^ n := by decide +kernel
def pc (S : Nat) : Nat := S % 2 + S / 2 % 2 + S / 4 % 2 + S / 8 % 2 + S / 16 % 2 + S / 32 % 2
theorem orB_pc : ∀ j, j < 6 → ∀ S, S < 64 → orB S j = S ∨ pc S < pc (orB S j) := by decide +kernel
theorem orB_bit : ∀ j, j < 6 → ∀ S, S < 64 → ∀ k, k < 6 → S / 2 ^ k % 2 = 1 → orB S j / 2 ^ k % 2 = 1 := by decide +kernel
theorem pc_full : ∀ n, n < 7 → ∀ S, S < 2 ^ n → n ≤ pc S → S = 2 ^ n - 1 := by decide +kernel
theorem pc_one : ∀ k, k < 6 → pc (2 ^ k) = 1 ∧ 2 ^ k < 64 ∧ 2 ^ k / 2 ^ k % 2 = 1 ∧ (1 : Int32) <<< (nI k &&& 31) = nI (2 ^ k) := by decide +kernel
theorem pc_low : ∀ n, n < 7 → ∀ k, k < n → 2 ^ k < 2 ^ n := by decide +kernel
def swJ (a : Nat → Nat) (i : Nat) : Nat → Nat → Nat → Nat
  | 0, _, S => S
  | d + 1, j, S => swJ a i d (j + 1) (if S / 2 ^ i % 2 = 1 ∧ clA a i j then orB S j else S)
def swI (a : Nat → Nat) (n : Nat) : Nat → Nat → Nat → Nat
  | 0, _, S => S
  | d + 1, i, S => swI a n d (i + 1) (swJ a i n 0 S)
def swR (a : Nat → Nat) (n : Nat) : Nat → Nat → Nat
  | 0, S => S
  | d + 1, S => swR a n d (swI a n n 0 S)
/-- what a step of the closing keeps: within n, and more if other -/
def stK (n S T : Nat) : Prop := T < 2 ^ n ∧ (T = S ∨ pc S < pc T) ∧ ∀ k, k < 6 → S / 2 ^ k % 2 = 1 → T / 2 ^ k % 2 = 1
theorem stK_tr {n S T U : Nat} (h1 : stK n S T) (h2 : stK n T U) : stK n S U := by
  obtain ⟨_, b1, c1⟩ := h1
  obtain ⟨a2, b2, c2⟩ := h2
  refine ⟨a2, ?_, fun k hk h => c2 k hk (c1 k hk h)⟩
  rcases b1 with rfl | b1
  · exact b2
  · rcases b2 with rfl | b2
    · exact Or.inr b1
    · exact Or.inr (Nat.lt_trans b1 b2)
theorem p_le {n : Nat} (hn : n ≤ 6) : 2 ^ n ≤ 64 := Nat.pow_le_pow_right (by decide) hn
theorem swJ_K {a : Nat → Nat} {n i : Nat} (hn : n ≤ 6) : ∀ (d j S : Nat), j + d = n → S < 2 ^ n → stK n S (swJ a i d j S) := by
  intro d
  induction d with
  | zero => intro j S _ h; exact ⟨h, Or.inl rfl, fun _ _ h => h⟩
  | succ d ih =>
    intro j S hj h
    have hp := p_le hn
    rw [swJ]
    split
    · have h2 := orB_n n (by omega) j (by omega) S h
      exact stK_tr ⟨h2, orB_pc j (by omega) S (by omega), orB_bit j (by omega) S (by omega)⟩ (ih (j + 1) _ (by omega) h2)
    · exact ih (j + 1) S (by omega) h
theorem swI_K {a : Nat → Nat} {n : Nat} (hn : n ≤ 6) : ∀ (d i S : Nat), i + d = n → S < 2 ^ n → stK n S (swI a n d i S) := by
  intro d
  induction d with
  | zero => intro i S _ h; exact ⟨h, Or.inl rfl, fun _ _ h => h⟩
  | succ d ih =>
    intro i S hi h
    rw [swI]
    have h2 := swJ_K hn (a := a) (i := i) n 0 S (by omega) h
    exact stK_tr h2 (ih (i + 1) _ (by omega) h2.1)
theorem swR_K {a : Nat → Nat} {n : Nat} (hn : n ≤ 6) : ∀ (d S : Nat), S < 2 ^ n → stK n S (swR a n d S) := by
  intro d
  induction d with
  | zero => intro S h; exact ⟨h, Or.inl rfl, fun _ _ h => h⟩
  | succ d ih =>
    intro S h
    rw [swR]
    have h2 := swI_K hn (a := a) n 0 S (by omega) h
    exact stK_tr h2 (ih _ h2.1)
theorem swR_s {a : Nat → Nat} {n S : Nat} (h : swI a n n 0 S = S) : ∀ d, swR a n d S = S := by
  intro d
  induction d with
  | zero => rfl
  | succ d ih => rw [swR, h]; exact ih
/-- one round fewer is enough -/
theorem swR_1 {a : Nat → Nat} {n : Nat} (hn : n ≤ 6) : ∀ (d S : Nat), S < 2 ^ n → n ≤ pc S + d → swR a n (d + 1) S = swR a n d S := by
  intro d
  induction d with
  | zero =>
    intro S h h2
    have e := pc_full n (by omega) S h (by omega)
    have k := swI_K hn (a := a) n 0 S (by omega) h
    rw [swR, swR, swR]
    rcases k.2.1 with e2 | e2
    · exact e2
    · have := pc_full n (by omega) _ k.1 (by omega)
      rw [this, e]
  | succ d ih =>
    intro S h h2
    have k := swI_K hn (a := a) n 0 S (by omega) h
    rcases k.2.1 with e2 | e2
    · rw [swR_s e2, swR_s e2]
    · show swR a n (d + 1) (swI a n n 0 S) = swR a n d (swI a n n 0 S)
      exact ih _ k.1 (by omega)
section EC
variable {a : Nat → Nat} {kd tr ln li cu bu of s : Nat → Int32} {cnt wa ho : Int32}
theorem e8_areClose (hB : BA a) (hE : CE cnt kd tr ln li cu bu a) (hS : CS wa ho of a) {i j : Nat} (hi : i < 6) (hj : j < 6) : f_X3_areClose (nI i) (nI j) ln ho of = some (if clA a i j then 1 else 0) := by
  have b1 := hB.2.2.2.1 i hi
  have b2 := hB.2.2.2.1 j hj
  unfold f_X3_areClose
  rw [hS.2.1, e8_isHome hB hi, qb1]
  by_cases c1 : a (39 + 5 * i) = 0
  · rw [if_pos (show nI (a (39 + 5 * i)) = 0 by rw [c1]; rfl), e8_isHome hB hj, qb1]
    by_cases c2 : a (39 + 5 * j) = 0
    · rw [if_pos (show nI (a (39 + 5 * j)) = 0 by rw [c2]; rfl), qcI hi (by decide), qcI hj (by decide), qcI hi (by decide), qcI hj (by decide), q_cl (by omega), q_cl (by omega), hE.eln i hi, hE.eln j hj, hS.2.2 i hi, hS.2.2 j hj, q_abs _ (by omega) _ (by omega)]
      by_cases c3 : a (38 + 5 * i) = a (38 + 5 * j)
      · rw [if_pos (by rw [c3]), if_pos ⟨c1, c2, Or.inl c3⟩]
      · rw [if_neg (by rw [q_eq (by omega) (by omega)]; exact c3)]
        have : adA (a (36 + 5 * i)) (a (36 + 5 * j)) < 100 := by unfold adA; split <;> omega
        by_cases c4 : adA (a (36 + 5 * i)) (a (36 + 5 * j)) ≤ 4
        · rw [if_neg (by rw [ql4, q_lt (by decide) (by omega)]; omega), if_pos ⟨c1, c2, Or.inr c4⟩]
        · rw [if_pos (by rw [ql4, q_lt (by decide) (by omega)]; omega), if_neg (fun h => h.2.2.elim c3 c4)]
    · rw [if_neg (nI_ne0 (by omega) (by omega)), if_neg (fun h => c2 h.2.1)]
  · rw [if_neg (nI_ne0 (by omega) (by omega)), if_neg (fun h => c1 h.1)]
theorem e9_areClose (hB : BA a) (hR : RM s a) {i j : Nat} (hi : i < 6) (hj : j < 6) : f_X9_areClose (nI i) (nI j) s = some (if clA a i j then 1 else 0) := by
  have b1 := hB.2.2.2.1 i hi
  have b2 := hB.2.2.2.1 j hj
  unfold f_X9_areClose f_X9_areClose_b34 f_X9_apart
  rw [e9_lane hR hi, e9_lane hR hj, qb1, qb1, e9_off hR hi, e9_off hR hj, qb1, qb1]
  have fin : ∀ t : Int32, f_X9_areClose_b39 (nI i) (nI j) s t = some (if a (39 + 5 * i) = 0 ∧ a (39 + 5 * j) = 0 ∧ t ≠ 0 then 1 else 0) := by
    intro t
    unfold f_X9_areClose_b39
    rw [e9_home hR hi, e9_home hR hj, qb1, qb1]
    by_cases c1 : a (39 + 5 * i) = 0
    · rw [if_pos (show nI (a (39 + 5 * i)) = 0 by rw [c1]; rfl)]
      by_cases c2 : a (39 + 5 * j) = 0
      · rw [if_pos (show nI (a (39 + 5 * j)) = 0 by rw [c2]; rfl)]
        by_cases c3 : t = 0
        · rw [if_pos c3, if_neg (fun h => h.2.2 c3)]
        · rw [if_neg c3, if_pos ⟨c1, c2, c3⟩]
      · rw [if_neg (nI_ne0 (by omega) (by omega)), if_neg (fun h => c2 h.2.1)]
    · rw [if_neg (nI_ne0 (by omega) (by omega)), if_neg (fun h => c1 h.1)]
  rw [fin, fin]
  by_cases c3 : a (38 + 5 * i) = a (38 + 5 * j)
  · rw [if_pos (by rw [c3])]
    by_cases c4 : a (39 + 5 * i) = 0 ∧ a (39 + 5 * j) = 0
    · rw [if_pos ⟨c4.1, c4.2, by decide⟩, if_pos ⟨c4.1, c4.2, Or.inl c3⟩]
    · rw [if_neg (fun h => c4 ⟨h.1, h.2.1⟩), if_neg (fun h => c4 ⟨h.1, h.2.1⟩)]
  · rw [if_neg (by rw [q_eq (by omega) (by omega)]; exact c3)]
    have ea : (if nI (a (36 + 5 * j)) ≤ nI (a (36 + 5 * i)) then some (nI (a (36 + 5 * i)) - nI (a (36 + 5 * j))) else some (nI (a (36 + 5 * j)) - nI (a (36 + 5 * i)))) = some (nI (adA (a (36 + 5 * i)) (a (36 + 5 * j)))) := by
      unfold adA
      by_cases c : a (36 + 5 * j) ≤ a (36 + 5 * i)
      · rw [if_pos ((q_le (by omega) (by omega)).mpr c), if_pos c, q_sub c]
      · rw [if_neg (fun h => c ((q_le (by omega) (by omega)).mp h)), if_neg c, q_sub (by omega)]
    have : adA (a (36 + 5 * i)) (a (36 + 5 * j)) < 100 := by unfold adA; split <;> omega
    rw [ea, qb1]
    by_cases c4 : adA (a (36 + 5 * i)) (a (36 + 5 * j)) ≤ 4
    · rw [if_neg (by rw [ql4, q_lt (by decide) (by omega)]; omega)]
      by_cases c5 : a (39 + 5 * i) = 0 ∧ a (39 + 5 * j) = 0
      · rw [if_pos ⟨c5.1, c5.2, by decide⟩, if_pos ⟨c5.1, c5.2, Or.inr c4⟩]
      · rw [if_neg (fun h => c5 ⟨h.1, h.2.1⟩), if_neg (fun h => c5 ⟨h.1, h.2.1⟩)]
    · rw [if_pos (by rw [ql4, q_lt (by decide) (by omega)]; omega), if_neg (fun h => h.2.2 rfl), if_neg (fun h => h.2.2.elim c3 c4)]
end EC
