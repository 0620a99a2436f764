/-! ===== E: the reference's next, whole ===== -/
section EM6
variable {tp le : Nat → Int32} {t : Nat → Nat} {n : Nat}
theorem e9_letter (hn : n ≤ 200) (ht : ∀ k, k < n → tp k = nI (t k) ∧ t k < 256) {r : Nat} (hr : r ≤ n) : bd1 (f_X9_byteAt (nI r) (nI n) tp) (fun x => f_X9_in1 x 97 122) = some (if r < n ∧ pL (t r) = true then 1 else 0) := by
  rw [e9_byteAt hn ht (by omega), qb1]
  by_cases c : r < n
  · rw [if_pos c]
    have := e9_in1 (ht r c).2 (show 97 < 256 by decide) (show 122 < 256 by decide)
    have e : f_X9_in1 (nI (t r)) 97 122 = _ := this
    rw [e]
    by_cases d : 97 ≤ t r ∧ t r ≤ 122
    · rw [if_pos d, if_pos ⟨c, decide_eq_true d⟩]
    · rw [if_neg d, if_neg (fun g => d (of_decide_eq_true g.2))]
  · rw [if_neg c, if_neg (fun g => c g.1)]; decide
theorem e9_digit (hn : n ≤ 200) (ht : ∀ k, k < n → tp k = nI (t k) ∧ t k < 256) {r : Nat} (hr : r ≤ n) : bd1 (f_X9_byteAt (nI r) (nI n) tp) (fun x => f_X9_in1 x 48 57) = some (if r < n ∧ pD (t r) = true then 1 else 0) := by
  rw [e9_byteAt hn ht (by omega), qb1]
  by_cases c : r < n
  · rw [if_pos c]
    have := e9_in1 (ht r c).2 (show 48 < 256 by decide) (show 57 < 256 by decide)
    have e : f_X9_in1 (nI (t r)) 48 57 = _ := this
    rw [e]
    by_cases d : 48 ≤ t r ∧ t r ≤ 57
    · rw [if_pos d, if_pos ⟨c, decide_eq_true d⟩]
    · rw [if_neg d, if_neg (fun g => d (of_decide_eq_true g.2))]
  · rw [if_neg c, if_neg (fun g => c g.1)]; decide
theorem bd1_as {α β γ : Type} (x : Option α) (f : α → Option β) (k : β → Option γ) : bd1 x (fun a => bd1 (f a) k) = bd1 (bd1 x f) k := by cases x <;> rfl
theorem e9_readsName (hn : n ≤ 200) (ht : ∀ k, k < n → tp k = nI (t k) ∧ t k < 256) (hl : InL le) {q : Nat} (hq : q ≤ n) : f_X9_readsName (nI n) (nI q) (nI q) le tp = some (nI (run pL t n n q), t9 (wF t q (run pL t n n q - q) 18 0)) := by
  have loop : ∀ (d r fuel : Nat), n ≤ r + d → r ≤ n → q ≤ r → d < fuel → (∀ k, q ≤ k → k < r → 97 ≤ t k) → f_X9_readsName_L0 (nI n) (nI q) le tp fuel (nI r) = some (nI (run pL t n d r), t9 (wF t q (run pL t n d r - q) 18 0)) := by
    intro d
    induction d with
    | zero =>
      intro r fuel h1 h2 h3 hf h4
      obtain ⟨m, rfl⟩ : ∃ m, fuel = m + 1 := ⟨fuel - 1, by omega⟩
      rw [f_X9_readsName_L0, bd1_as, e9_letter hn ht h2, qb1, if_neg (show ¬ (r < n ∧ pL (t r) = true) from fun g => by omega), if_pos rfl, run_end (show n ≤ r by omega), e9_names hn ht hl h3 h2 h4]
    | succ d ih =>
      intro r fuel h1 h2 h3 hf h4
      obtain ⟨m, rfl⟩ : ∃ m, fuel = m + 1 := ⟨fuel - 1, by omega⟩
      rw [f_X9_readsName_L0, bd1_as, e9_letter hn ht h2, qb1]
      by_cases c : r < n ∧ pL (t r) = true
      · rw [if_pos c, if_neg n10, qt1, show nI r + 1 = nI (r + 1) from q_add r 1, run_yes c.1 c.2]
        exact ih (r + 1) m (by omega) (by omega) (by omega) (by omega) (fun k k1 k2 => by
          by_cases e : k = r
          · rw [e]; exact (of_decide_eq_true c.2).1
          · exact h4 k k1 (by omega))
      · have er : run pL t n (d + 1) r = r := by
          by_cases c1 : r < n
          · exact run_no (fun g => c ⟨c1, g⟩)
          · exact run_end (by omega)
        rw [if_neg c, if_pos rfl, er, e9_names hn ht hl h3 h2 h4]
  unfold f_X9_readsName
  exact loop n q 1000 (by omega) hq (Nat.le_refl _) (by omega) (fun k k1 k2 => absurd k2 (by omega))
theorem e9_readsNumber (hn : n ≤ 200) (ht : ∀ k, k < n → tp k = nI (t k) ∧ t k < 256) {q : Nat} (hq : q ≤ n) : ∃ v', f_X9_readsNumber (nI n) (nI q) (nI q) tp = some (nI (run pD t n n q), (if 4 < run pD t n n q - q then 101 else 100), v') ∧ (run pD t n n q - q ≤ 4 → v' = nI (numV t (run pD t n n q - q) q 0)) := by
  have loop : ∀ (d r fuel c : Nat) (v : Int32), n ≤ r + d → r ≤ n → q ≤ r → d < fuel → (r - q ≤ 4 → v = nI c) → ∃ v', f_X9_readsNumber_L5 (nI n) (nI q) tp fuel (nI r) v = some (nI (run pD t n d r), (if 4 < run pD t n d r - q then 101 else 100), v') ∧ (run pD t n d r - q ≤ 4 → v' = nI (numV t (run pD t n d r - r) r c)) := by
    intro d
    induction d with
    | zero =>
      intro r fuel c v h1 h2 h3 hf hv
      obtain ⟨m, rfl⟩ : ∃ m, fuel = m + 1 := ⟨fuel - 1, by omega⟩
      rw [f_X9_readsNumber_L5, bd1_as, e9_digit hn ht h2, qb1, if_neg (show ¬ (r < n ∧ pD (t r) = true) from fun g => by omega), if_pos rfl, run_end (show n ≤ r by omega)]
      unfold f_X9_readsNumber_b79
      rw [q_sub h3]
      refine ⟨v, ?_, fun h => by rw [Nat.sub_self]; exact hv h⟩
      by_cases c4 : r - q ≤ 4
      · rw [if_pos (show nI (r - q) ≤ (4 : Int32) by rw [ql4]; exact nI_le c4 (by decide)), if_neg (by omega)]
      · rw [if_neg (show ¬ nI (r - q) ≤ (4 : Int32) by rw [ql4]; exact nI_ge (by omega) (by omega)), if_pos (by omega)]
    | succ d ih =>
      intro r fuel c v h1 h2 h3 hf hv
      obtain ⟨m, rfl⟩ : ∃ m, fuel = m + 1 := ⟨fuel - 1, by omega⟩
      rw [f_X9_readsNumber_L5, bd1_as, e9_digit hn ht h2, qb1]
      by_cases k : r < n ∧ pD (t r) = true
      · have hd := of_decide_eq_true k.2
        have hr := run_le (P := pD) (t := t) d (r + 1) (show r + 1 ≤ n by omega)
        rw [if_pos k, if_neg n10, run_yes k.1 k.2, q_sub h3]
        unfold f_X9_readsNumber_b63
        rw [show nI r + 1 = nI (r + 1) from q_add r 1, qt1]
        by_cases c4 : 4 ≤ r - q
        · rw [if_pos (show (4 : Int32) ≤ nI (r - q) by rw [ql4]; exact nI_le c4 (by omega))]
          obtain ⟨v', e, _⟩ := ih (r + 1) m (c * 10 + (t r - 48)) v (by omega) (by omega) (by omega) (by omega) (fun h => absurd h (by omega))
          exact ⟨v', e, fun h => absurd h (by omega)⟩
        · rw [if_neg (show ¬ (4 : Int32) ≤ nI (r - q) by rw [ql4]; exact nI_ge (by omega) (by decide)), e9_byteAt hn ht (by omega), qb1, if_pos k.1, qt1]
          obtain ⟨v', e, hv'⟩ := ih (r + 1) m (c * 10 + (t r - 48)) (10 * v + nI (t r) - 48) (by omega) (by omega) (by omega) (by omega) (fun h => by
            rw [hv (by omega), ql10, q_mul, q_add, show (48 : Int32) = nI 48 from rfl, q_sub (by omega)]
            congr 1
            omega)
          refine ⟨v', e, fun h => ?_⟩
          rw [hv' h, show run pD t n d (r + 1) - r = run pD t n d (r + 1) - (r + 1) + 1 by omega, numV]
      · have er : run pD t n (d + 1) r = r := by
          by_cases c1 : r < n
          · exact run_no (fun g => k ⟨c1, g⟩)
          · exact run_end (by omega)
        rw [if_neg k, if_pos rfl, er]
        unfold f_X9_readsNumber_b79
        rw [q_sub h3]
        refine ⟨v, ?_, fun h => by rw [Nat.sub_self]; exact hv h⟩
        by_cases c4 : r - q ≤ 4
        · rw [if_pos (show nI (r - q) ≤ (4 : Int32) by rw [ql4]; exact nI_le c4 (by decide)), if_neg (by omega)]
        · rw [if_neg (show ¬ nI (r - q) ≤ (4 : Int32) by rw [ql4]; exact nI_ge (by omega) (by omega)), if_pos (by omega)]
  unfold f_X9_readsNumber
  exact loop n q 1000 0 0 (by omega) hq (Nat.le_refl _) (by omega) (fun _ => rfl)
theorem e9_next (hn : n ≤ 200) (ht : ∀ k, k < n → tp k = nI (t k) ∧ t k < 256) (hl : InL le) (val : Int32) {p : Nat} (hp : p ≤ n) : ∃ val', f_X9_next (nI n) (nI p) val le tp = some (nI (lexT t n p).2.2.1, nI (lexT t n p).2.1, t9 (lexT t n p).1, val') ∧ ((lexT t n p).1 = 18 → val' = nI (lexT t n p).2.2.2) := by
  have hq := run_le (P := pS) (t := t) n p hp
  have b26 : ∃ val', f_X9_next_b26 (nI n) val le tp (nI (run pS t n n p)) = some (nI (lexT t n p).2.2.1, nI (lexT t n p).2.1, t9 (lexT t n p).1, val') ∧ ((lexT t n p).1 = 18 → val' = nI (lexT t n p).2.2.2) := by
    unfold f_X9_next_b26 lexT
    obtain ⟨q, eq⟩ : ∃ q, run pS t n n p = q := ⟨_, rfl⟩
    rw [eq] at hq ⊢
    dsimp only
    rw [e9_byteAt hn ht (show q < 1000 by omega), qb1]
    by_cases c1 : n ≤ q
    · rw [if_neg (show ¬ q < n by omega), if_neg (by decide), if_pos c1]
      exact ⟨_, rfl, fun h => absurd (show (19 : Nat) = 18 from h) (by decide)⟩
    · obtain ⟨g1, g2⟩ := ht q (by omega)
      have e1 : f_X9_in1 (nI (t q)) 97 122 = _ := e9_in1 g2 (show 97 < 256 by decide) (show 122 < 256 by decide)
      have e2 : f_X9_in1 (nI (t q)) 48 57 = _ := e9_in1 g2 (show 48 < 256 by decide) (show 57 < 256 by decide)
      rw [if_pos (show q < n by omega), if_pos (nI_pos' (show t q < 2 ^ 31 by omega)), if_neg c1, e1, qb1]
      by_cases c2 : pL (t q) = true
      · rw [if_pos (show 97 ≤ t q ∧ t q ≤ 122 from of_decide_eq_true c2), if_neg n10, if_pos c2, e9_readsName hn ht hl (show q ≤ n by omega), qb2]
        refine ⟨val, rfl, fun h => ?_⟩
        dsimp only at h
        rcases wF_in (t := t) (p := q) (m := run pL t n n q - q) 18 0 rfl with ⟨h1, _⟩ | ⟨h1, _⟩ <;> omega
      · rw [if_neg (show ¬ (97 ≤ t q ∧ t q ≤ 122) from fun g => c2 (decide_eq_true g)), if_pos rfl, if_neg c2, e2, qb1]
        by_cases c3 : pD (t q) = true
        · obtain ⟨v', e, hv⟩ := e9_readsNumber hn ht (q := q) (by omega)
          rw [if_pos (show 48 ≤ t q ∧ t q ≤ 57 from of_decide_eq_true c3), if_neg n10, if_pos c3, e, qb3]
          by_cases c4 : 4 < run pD t n n q - q
          · rw [if_pos c4, if_pos c4]
            exact ⟨v', rfl, fun h => absurd (show (20 : Nat) = 18 from h) (by decide)⟩
          · rw [if_neg c4, if_neg c4]
            exact ⟨v', rfl, fun _ => hv (by omega)⟩
        · rw [if_neg (show ¬ (48 ≤ t q ∧ t q ≤ 57) from fun g => c3 (decide_eq_true g)), if_pos rfl, if_neg c3, qt1, qt1, show nI q + 1 = nI (q + 1) from q_add q 1, ql200, q_add]
          refine ⟨val, ?_, fun h => by dsimp only at h; omega⟩
          have et : t9 (256 + t q) = nI (200 + t q) := by
            unfold t9
            rw [if_neg (by omega), if_neg (by omega), if_neg (by omega), if_pos (by omega)]
            congr 1
            omega
          rw [et]
  obtain ⟨val', e, h⟩ := b26
  refine ⟨val', ?_, h⟩
  have loop : ∀ (d r fuel : Nat), n ≤ r + d → r ≤ n → d < fuel → f_X9_next_L0 (nI n) val le tp fuel (nI r) = f_X9_next_b26 (nI n) val le tp (nI (run pS t n d r)) := by
    intro d
    induction d with
    | zero =>
      intro r fuel h1 h2 hf
      obtain ⟨m, rfl⟩ : ∃ m, fuel = m + 1 := ⟨fuel - 1, by omega⟩
      rw [f_X9_next_L0, e9_byteAt hn ht (by omega), qb1, if_neg (show ¬ r < n by omega), if_neg (by decide), run_end (show n ≤ r by omega)]
    | succ d ih =>
      intro r fuel h1 h2 hf
      obtain ⟨m, rfl⟩ : ∃ m, fuel = m + 1 := ⟨fuel - 1, by omega⟩
      rw [f_X9_next_L0, e9_byteAt hn ht (by omega), qb1]
      by_cases d1 : n ≤ r
      · rw [if_neg (show ¬ r < n by omega), if_neg (by decide), run_end d1]
      · have k2 := (ht r (by omega)).2
        rw [if_pos (show r < n by omega)]
        by_cases d2 : t r = 32
        · rw [if_pos (show nI (t r) = 32 by rw [d2]; rfl), run_yes (show r < n by omega) (show pS (t r) = true from decide_eq_true d2), qt1, show nI r + 1 = nI (r + 1) from q_add r 1]
          exact ih (r + 1) m (by omega) (by omega) (by omega)
        · rw [if_neg (show ¬ nI (t r) = 32 by rw [ql32, q_eq (by omega) (by decide)]; exact d2), run_no (show ¬ pS (t r) = true from fun g => d2 (of_decide_eq_true g))]
  unfold f_X9_next
  rw [loop n p 1000 (by omega) hp (by omega)]
  exact e
end EM6
