/-! ===== E: the reference's next ===== -/
/-- the reference's token of the class's -/
def t9 (T : Nat) : Int32 := if T = 19 then -1 else if T = 18 then 100 else if T = 20 then 101 else if 256 ≤ T then nI (T - 56) else nI (im T)
section EM5
variable {tp le : Nat → Int32} {t : Nat → Nat} {n : Nat}
theorem e9_in1 {b lo hi : Nat} (hb : b < 256) (hl : lo < 256) (hh : hi < 256) : f_X9_in1 (nI b) (nI lo) (nI hi) = some (if lo ≤ b ∧ b ≤ hi then 1 else 0) := by
  unfold f_X9_in1
  by_cases c : b < lo
  · rw [if_pos ((q_lt (by omega) (by omega)).mpr c), if_neg (fun g => by omega)]
  · rw [if_neg (fun g => c ((q_lt (by omega) (by omega)).mp g))]
    by_cases d : hi < b
    · rw [if_pos ((q_lt (by omega) (by omega)).mpr d), if_neg (fun g => by omega)]
    · rw [if_neg (fun g => d ((q_lt (by omega) (by omega)).mp g)), if_pos ⟨by omega, by omega⟩]
theorem mB_one {p m i k : Nat} (hi : i < 18) (hk : k < 18) (h1 : mB t p m i = true) (h2 : mB t p m k = true) : i = k := by
  obtain ⟨a1, a2⟩ := of_decide_eq_true h1
  obtain ⟨b1, b2⟩ := of_decide_eq_true h2
  exact wd_one i hi k hk ⟨by omega, fun j hj => by rw [a2 j (by omega), b2 j (by omega)]⟩
theorem wF_in {p m : Nat} : ∀ (d i : Nat), i + d = 18 → (wF t p m d i = 20 ∧ ∀ k, i ≤ k → k < 18 → ¬ mB t p m k = true) ∨ (wF t p m d i < 18 ∧ mB t p m (wF t p m d i) = true) := by
  intro d
  induction d with
  | zero => intro i hi; exact Or.inl ⟨rfl, fun k h1 h2 => absurd h2 (by omega)⟩
  | succ d ih =>
    intro i hi
    rw [wF]
    by_cases c : mB t p m i = true
    · rw [if_pos c]; exact Or.inr ⟨by omega, c⟩
    · rw [if_neg c]
      rcases ih (i + 1) (by omega) with ⟨h1, h2⟩ | h
      · refine Or.inl ⟨h1, fun k h3 h4 => ?_⟩
        by_cases e : k = i
        · rw [e]; exact c
        · exact h2 k (by omega) h4
      · exact Or.inr h
theorem e9_names (hn : n ≤ 200) (ht : ∀ k, k < n → tp k = nI (t k) ∧ t k < 256) (hl : InL le) {q e : Nat} (hq : q ≤ e) (he : e ≤ n) (hlt : ∀ k, q ≤ k → k < e → 97 ≤ t k) : f_X9_readsName_b31 (nI n) (nI q) le tp (nI e) = some (nI e, t9 (wF t q (e - q) 18 0)) := by
  have loop : ∀ (d v fuel : Nat) (tok : Int32), v + d = 18 → d < fuel → ∃ tok', f_X9_readsName_L39 (nI n) (nI q) le tp fuel (nI v) (nI e) tok = some (nI e, tok') ∧ ((∃ u, v ≤ u ∧ u < 18 ∧ mB t q (e - q) (mp u) = true) → tok' = nI (im (wF t q (e - q) 18 0))) ∧ ((∀ u, v ≤ u → u < 18 → ¬ mB t q (e - q) (mp u) = true) → tok' = tok) := by
    intro d
    induction d with
    | zero =>
      intro v fuel tok hv hf
      obtain ⟨m, rfl⟩ : ∃ m, fuel = m + 1 := ⟨fuel - 1, by omega⟩
      rw [f_X9_readsName_L39, ql18, if_pos (nI_le (by omega) (by omega))]
      exact ⟨tok, rfl, fun ⟨u, h1, h2, _⟩ => absurd h2 (by omega), fun _ => rfl⟩
    | succ d ih =>
      intro v fuel tok hv hf
      obtain ⟨m, rfl⟩ : ∃ m, fuel = m + 1 := ⟨fuel - 1, by omega⟩
      rw [f_X9_readsName_L39, ql18, if_neg (nI_ge (by omega) (by decide)), e9_isNameOf hn ht hl hq he hlt (show v < 18 by omega), qb1, show nI v + 1 = nI (v + 1) from q_add v 1, qt1, qt1]
      by_cases c : mB t q (e - q) (mp v) = true
      · obtain ⟨tok', e1, e2, e3⟩ := ih (v + 1) m (nI v) (by omega) (by omega)
        obtain ⟨m1, m2, -, -⟩ := mp_tab v (by omega)
        have ew : wF t q (e - q) 18 0 = mp v := by
          rcases wF_in (t := t) (p := q) (m := e - q) 18 0 rfl with ⟨-, h2⟩ | ⟨h1, h2⟩
          · exact absurd c (h2 _ (Nat.zero_le _) m1)
          · exact mB_one h1 m1 h2 c
        rw [if_pos c, if_neg n10]
        refine ⟨tok', e1, fun _ => ?_, fun h => absurd c (h v (Nat.le_refl _) (by omega))⟩
        by_cases g : ∀ u, v + 1 ≤ u → u < 18 → ¬ mB t q (e - q) (mp u) = true
        · rw [e3 g, ew, m2]
        · refine e2 (Classical.byContradiction (fun z => g (fun u h1 h2 h3 => z ⟨u, h1, h2, h3⟩)))
      · obtain ⟨tok', e1, e2, e3⟩ := ih (v + 1) m tok (by omega) (by omega)
        rw [if_neg c, if_pos rfl]
        refine ⟨tok', e1, fun ⟨u, h1, h2, h3⟩ => e2 ⟨u, ?_, h2, h3⟩, fun h => e3 (fun u h1 h2 => h u (by omega) h2)⟩
        by_cases d : u = v
        · rw [d] at h3; exact absurd h3 c
        · omega
  unfold f_X9_readsName_b31
  obtain ⟨tok', e1, e2, e3⟩ := loop 18 0 1000 101 (by omega) (by omega)
  rw [show (nI 0) = (0 : Int32) from rfl] at e1
  rw [e1]
  rcases wF_in (t := t) (p := q) (m := e - q) 18 0 rfl with ⟨h1, h2⟩ | ⟨h1, h2⟩
  · rw [e3 (fun u _ h4 h5 => h2 _ (Nat.zero_le _) (mp_tab u h4).1 h5), h1]; rfl
  · obtain ⟨-, -, m3, m4⟩ := mp_tab _ h1
    rw [e2 ⟨im (wF t q (e - q) 18 0), Nat.zero_le _, m3, by rw [m4]; exact h2⟩]
    unfold t9
    rw [if_neg (by omega), if_neg (by omega), if_neg (by omega), if_neg (by omega)]
end EM5
