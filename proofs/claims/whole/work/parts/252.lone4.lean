/-! ===== E: strangers, the doors ===== -/
section EH
variable {a : Nat → Nat} {s : Nat → Int32} {pn : Int32} {ph pa pl pm : Nat → Int32}
theorem e9_fitJ (hP : RP pn ph pa pl pm a) (hR : RM s a) {x : Nat} {h1 h2 : Nat → Int32} (h : ∀ w, w < 16 → h1 w = nI (snA a x w).1 ∧ h2 w = nI (snA a x w).2) (rec9 : Int32 → Int32 → Int32 → (Nat → Int32) → (Nat → Int32) → Option (Int32 × Int32 × (Nat → Int32) × (Nat → Int32))) (p c v y : Int32) : ∀ (d fuel r : Nat), r + d = a 6 → d < fuel → (∀ q, q < r → nI q = p ∨ wrG a x q = false) → f_X9_fitting_L49 rec9 p s fuel c v 1 (nI r) y h1 h2 = f_X9_fitting_b94 rec9 c v (if fitB a p x = true then 1 else 0) y h1 h2 := by
  have h6 := hP.2.1
  have e6 := hR 6 (by decide) (by decide) (by decide)
  intro d
  induction d with
  | zero =>
    intro fuel r hr hf hq
    obtain ⟨n, rfl⟩ : ∃ n, fuel = n + 1 := ⟨fuel - 1, by omega⟩
    rw [f_X9_fitting_L49, e6, if_pos (nI_le (by omega) (by omega))]
    have : fitB a p x = true := decide_eq_true (fun q hq2 => hq q (by omega))
    rw [if_pos this]
  | succ d ih =>
    intro fuel r hr hf hq
    obtain ⟨n, rfl⟩ : ∃ n, fuel = n + 1 := ⟨fuel - 1, by omega⟩
    rw [f_X9_fitting_L49, e6, if_neg (nI_ge (by omega) (by omega)), if_neg n10, show nI r + 1 = nI (r + 1) from q_add r 1, qt1]
    by_cases c1 : nI r = p
    · rw [if_pos c1]
      exact ih n (r + 1) (by omega) (by omega) (fun q hq2 => by
        by_cases c : q = r
        · rw [c]; exact Or.inl c1
        · exact hq q (by omega))
    · rw [if_neg c1, e9_isSo hP hR (show r < a 6 by omega) h, qb1]
      by_cases c2 : wrG a x r = true
      · rw [if_pos c2, if_pos rfl, qt1]
        have no : ¬ fitB a p x = true := by
          intro g
          rcases (of_decide_eq_true g) r (by omega) with e | e
          · exact c1 e
          · rw [e] at c2; exact absurd c2 (by decide)
        rw [if_neg no]
        obtain ⟨m, rfl⟩ : ∃ m, n = m + 1 := ⟨n - 1, by omega⟩
        rw [f_X9_fitting_L49]
        by_cases c3 : s 6 ≤ nI (r + 1)
        · rw [if_pos c3]
        · rw [if_neg c3, if_pos rfl]
      · rw [if_neg c2, if_neg n10]
        exact ih n (r + 1) (by omega) (by omega) (fun q hq2 => by
          by_cases c : q = r
          · rw [c]; exact Or.inr (Bool.eq_false_iff.mpr c2)
          · exact hq q (by omega))
def oI : Option Nat → Int32
  | none => -1
  | some y => nI y
theorem e9_fit (hB : BA a) (hP : RP pn ph pa pl pm a) (hR : RM s a) (p : Int32) (g1 g2 : Nat → Int32) : ∃ h1 h2, f_X9_fitting p g1 g2 s = some (nI (cnF (fitB a p) 500 0), oI (fsN (fitB a p) 500 0), h1, h2) := by
  have loop : ∀ (d fuel x c : Nat) (o : Option Nat) (g1 g2 : Nat → Int32), x + d = 500 → d < fuel → c ≤ x → (∀ y, o = some y → y < 500) → ∃ h1 h2, f_X9_fitting_L9 p s fuel (nI c) (nI x) (oI o) g1 g2 = some (nI (c + cnF (fitB a p) d x), oI (match o with | some y => some y | none => fsN (fitB a p) d x), h1, h2) := by
    intro d
    induction d with
    | zero =>
      intro fuel x c o g1 g2 hx hf hc ho
      obtain ⟨n, rfl⟩ : ∃ n, fuel = n + 1 := ⟨fuel - 1, by omega⟩
      rw [f_X9_fitting_L9, ql500, if_pos (nI_le (by omega) (by omega))]
      cases o with
      | none => exact ⟨_, _, rfl⟩
      | some y => exact ⟨_, _, rfl⟩
    | succ d ih =>
      intro fuel x c o g1 g2 hx hf hc ho
      obtain ⟨n, rfl⟩ : ∃ n, fuel = n + 1 := ⟨fuel - 1, by omega⟩
      obtain ⟨t1, t2, t3⟩ := snT (show x < 500 by omega)
      obtain ⟨h1, h2, e, hh⟩ := e9_tells hB hR (show x < 500 by omega) g1 g2
      rw [f_X9_fitting_L9, ql500, if_neg (nI_ge (by omega) (by omega)), t1, t2, t3, ql9, q_mul, q_add, e, qb2]
      rw [show (0 : Int32) = nI 0 from rfl, e9_fitJ hP hR hh _ p (nI c) (nI x) (oI o) (a 6) 1000 0 (by omega) (by have := hP.2.1; omega) (fun q hq => absurd hq (Nat.not_lt_zero _))]
      unfold f_X9_fitting_b94 f_X9_fitting_b105
      rw [cnF, fsN]
      by_cases k : fitB a p x = true
      · rw [if_pos k, if_pos k, if_pos k, if_neg n10, qt1, if_neg n10, show nI c + 1 = nI (c + 1) from q_add c 1, show nI x + 1 = nI (x + 1) from q_add x 1, ← Nat.add_assoc]
        cases o with
        | none =>
          rw [if_neg (show ¬ (0 : Int32) ≤ oI none from (by decide)), qt1]
          exact ih n (x + 1) (c + 1) (some x) h1 h2 (by omega) (by omega) (by omega) (fun y hy => by cases hy; omega)
        | some y =>
          have := ho y rfl
          rw [if_pos (show (0 : Int32) ≤ oI (some y) from nI_pos' (by omega)), qt1]
          exact ih n (x + 1) (c + 1) (some y) h1 h2 (by omega) (by omega) (by omega) ho
      · rw [if_neg k, if_neg k, if_neg k, if_pos rfl, Int32.add_zero, qt1, if_pos rfl, qt1, show nI x + 1 = nI (x + 1) from q_add x 1, Nat.zero_add]
        exact ih n (x + 1) c o h1 h2 (by omega) (by omega) (by omega) ho
  obtain ⟨h1, h2, e⟩ := loop 500 1000 0 0 none g1 g2 (by omega) (by omega) (by omega) (fun y hy => (nomatch hy))
  refine ⟨h1, h2, ?_⟩
  unfold f_X9_fitting
  rw [Nat.zero_add] at e
  exact e
end EH
