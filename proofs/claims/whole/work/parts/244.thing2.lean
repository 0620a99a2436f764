/-! ===== E: acts of things, landing ===== -/
theorem app_app : ∀ (L M : List Int32) (c : Nat) (g : Nat → Int32), app (app g c L) (c + L.length) M = app g c (L ++ M) := by
  intro L
  induction L with
  | nil => intro M c g; rfl
  | cons b L ih =>
    intro M c g
    show app (app (upd g c b) (c + 1) L) (c + (L.length + 1)) M = app (upd g c b) (c + 1) (L ++ M)
    rw [← ih M (c + 1), show c + (L.length + 1) = c + 1 + L.length by omega]
def slL (k : Nat) (p : Prop) [Decidable p] : List Int32 := 13 :: (tkL k ++ sdL k p)
def lnL (k : Nat) (p : Prop) [Decidable p] : List Int32 := if k = 3 then (if p then 51 :: slL 3 p else (51 :: slL 3 p) ++ tkL 3) else slL k p
theorem slL_len (k : Nat) (p : Prop) [Decidable p] (c : Nat) : c + (slL k p).length = c + 1 + (tkL k).length + (sdL k p).length := by
  unfold slL
  rw [List.length_cons, List.length_append]; omega
theorem slL_app (k : Nat) (p : Prop) [Decidable p] (c : Nat) (g : Nat → Int32) : app (app (upd g c 13) (c + 1) (tkL k)) (c + 1 + (tkL k).length) (sdL k p) = app g c (slL k p) := by
  rw [app_app]; rfl
theorem slL_le (k : Nat) (p : Prop) [Decidable p] : (slL k p).length ≤ 10 := by
  have := slL_len k p 0
  have := tkL_le k
  have := sdL_le k p
  omega
theorem e8_shipLands {k c : Nat} (hk : k < 6) (hc : c + 10 ≤ 30) (x n a : Int32) (g : Nat → Int32) : ∃ r, f_X7_shipLands x (nI c) 0 (nI k) n a g = some (r, nI (c + (slL k (n + a - 5 = 0)).length), if n + a - 5 = 0 then 1 else 0, app g c (slL k (n + a - 5 = 0))) ∧ (¬ n + a - 5 = 0 → r = tkV k x n a + sdV k x n (n + a - 5)) := by
  have l1 := tkL_le k
  obtain ⟨r, h1, h2⟩ := e8_sounds hk (c := c + 1 + (tkL k).length) (by omega) x n a (app (upd g c 13) (c + 1) (tkL k))
  unfold f_X7_shipLands
  rw [e8_beg (by omega), qb2, e8_tacks hk (by omega), qb3, h1, qb4, slL_app, ← slL_len]
  exact ⟨_, rfl, fun h => by rw [h2 h]⟩
theorem e8_lands {k c : Nat} (hk : k < 6) (hc : c + 15 ≤ 30) (x n a : Int32) (g : Nat → Int32) : ∃ r, f_X7_lands x (nI c) 0 (nI k) n a g = some (r, nI (c + (lnL k (n + a - 5 = 0)).length), if n + a - 5 = 0 then 1 else 0, app g c (lnL k (n + a - 5 = 0))) ∧ (¬ n + a - 5 = 0 → r = if k = 3 then tkV k x n a + sdV k x n (n + a - 5) - tkV k a n a else tkV k x n a + sdV k x n (n + a - 5)) := by
  unfold f_X7_lands
  by_cases c3 : k = 3
  · subst c3
    obtain ⟨r, h1, h2⟩ := e8_shipLands hk (c := c + 1) (by omega) x n a (upd g c 51)
    have l2 := slL_le 3 (n + a - 5 = 0)
    have l3 := tkL_le 3
    rw [if_pos (show nI 3 = 3 from rfl), if_pos (show (3 : Nat) = 3 from rfl), e8_beg (by omega), qb2, h1, qb4]
    unfold lnL
    rw [if_pos (show (3 : Nat) = 3 from rfl)]
    by_cases h : n + a - 5 = 0
    · obtain ⟨r2, h3⟩ := @e8_tacksP 3 (nI (c + 1 + (slL 3 (n + a - 5 = 0)).length)) a n a (app (upd g c 51) (c + 1) (slL 3 (n + a - 5 = 0)))
      rw [if_pos h, if_pos h, h3, qb3]
      exact ⟨_, by rw [show c + 1 + (slL 3 (n + a - 5 = 0)).length = c + (51 :: slL 3 (n + a - 5 = 0)).length by rw [List.length_cons]; omega]; rfl, fun z => absurd h z⟩
    · rw [if_neg h, if_neg h, e8_tacks hk (by omega), qb3, show c + 1 + (slL 3 (n + a - 5 = 0)).length = c + (51 :: slL 3 (n + a - 5 = 0)).length by rw [List.length_cons]; omega]
      refine ⟨_, ?_, fun _ => rfl⟩
      rw [show app (upd g c 51) (c + 1) (slL 3 (n + a - 5 = 0)) = app g c (51 :: slL 3 (n + a - 5 = 0)) from rfl, app_app, Nat.add_assoc, ← List.length_append, h2 h]
  · obtain ⟨r, h1, h2⟩ := e8_shipLands hk (c := c) (by omega) x n a g
    have e : ¬ nI k = 3 := by rw [ql3, q_eq (by omega) (by omega)]; exact c3
    rw [if_neg e, h1, qb4]
    unfold lnL
    rw [if_neg c3, if_neg c3]
    exact ⟨_, rfl, h2⟩
section EU
variable {a : Nat → Nat} {s : Nat → Int32}
theorem e9_lands0 (hB : BA a) (hR : RM s a) {o c : Nat} (ho : o < 6) (hc : c + 10 ≤ 30) {q : Int32} {d : Nat} (h3 : ¬ q = 3) (x : Int32) (g : Nat → Int32) : ∃ r, F_X9_landsAs (d + 1) q x (nI c) (nI o) 0 s g = some (r, nI (c + (slL (a (35 + 5 * o)) (nI o + nI (a (38 + 5 * o)) - 5 = 0)).length), if nI o + nI (a (38 + 5 * o)) - 5 = 0 then 1 else 0, app g c (slL (a (35 + 5 * o)) (nI o + nI (a (38 + 5 * o)) - 5 = 0))) ∧ (¬ nI o + nI (a (38 + 5 * o)) - 5 = 0 → r = tkV (a (35 + 5 * o)) x (nI o) (nI (a (38 + 5 * o))) + sdV (a (35 + 5 * o)) x (nI o) (nI o + nI (a (38 + 5 * o)) - 5)) := by
  have b1 := hB.2.2.2.1 o ho
  have l1 := tkL_le (a (35 + 5 * o))
  obtain ⟨r, h1, h2⟩ := e9_sounds hB hR ho (c := c + 1 + (tkL (a (35 + 5 * o))).length) (by omega) x (app (upd g c 13) (c + 1) (tkL (a (35 + 5 * o))))
  rw [F_X9_landsAs]
  unfold f_X9_landsAs
  rw [if_neg h3, e9_beg (by omega), qb2, e9_kind hR ho, qb1, e9_tacks hB hR ho (by omega), qb3, qb1, h1, qb4, slL_app, ← slL_len]
  exact ⟨_, rfl, fun h => by rw [h2 h]⟩
theorem e9_lands (hB : BA a) (hR : RM s a) {o c : Nat} (ho : o < 6) (hc : c + 15 ≤ 30) (x : Int32) (g : Nat → Int32) : ∃ r, F_X9_landsAs 4 (nI (a (35 + 5 * o))) x (nI c) (nI o) 0 s g = some (r, nI (c + (lnL (a (35 + 5 * o)) (nI o + nI (a (38 + 5 * o)) - 5 = 0)).length), if nI o + nI (a (38 + 5 * o)) - 5 = 0 then 1 else 0, app g c (lnL (a (35 + 5 * o)) (nI o + nI (a (38 + 5 * o)) - 5 = 0))) ∧ (¬ nI o + nI (a (38 + 5 * o)) - 5 = 0 → r = if a (35 + 5 * o) = 3 then tkV (a (35 + 5 * o)) x (nI o) (nI (a (38 + 5 * o))) + sdV (a (35 + 5 * o)) x (nI o) (nI o + nI (a (38 + 5 * o)) - 5) - tkV (a (35 + 5 * o)) (nI (a (38 + 5 * o))) (nI o) (nI (a (38 + 5 * o))) else tkV (a (35 + 5 * o)) x (nI o) (nI (a (38 + 5 * o))) + sdV (a (35 + 5 * o)) x (nI o) (nI o + nI (a (38 + 5 * o)) - 5)) := by
  have b1 := hB.2.2.2.1 o ho
  by_cases c3 : a (35 + 5 * o) = 3
  · obtain ⟨r, h1, h2⟩ := e9_lands0 hB hR ho (c := c + 1) (by omega) (q := 2) (d := 2) (by decide) x (upd g c 51)
    have key := fun (c : Nat) (hc : c + 4 ≤ 30) (g : Nat → Int32) => e9_tacks hB hR ho hc (nI (a (38 + 5 * o))) g
    obtain ⟨y, hy⟩ : ∃ y, nI o + nI (a (38 + 5 * o)) - 5 = y := ⟨_, rfl⟩
    rw [hy] at h1 h2
    rw [hy]
    have l2 := slL_le 3 (y = 0)
    have l3 := tkL_le 3
    have e3 : (3 : Int32) = nI (a (35 + 5 * o)) := by rw [c3]; rfl
    rw [F_X9_landsAs]
    unfold f_X9_landsAs
    rw [← e3, if_pos rfl, e9_beg (by omega), qb2, h1, qb4, if_pos c3, c3]
    rw [c3] at h2 key
    unfold lnL
    rw [if_pos rfl]
    by_cases h : y = 0
    · rw [if_pos h, if_neg n10, if_pos h]
      exact ⟨_, by rw [show c + 1 + (slL 3 (y = 0)).length = c + (51 :: slL 3 (y = 0)).length by rw [List.length_cons]; omega]; rfl, fun z => absurd h z⟩
    · rw [if_neg h, if_pos rfl, if_neg h, e9_lane hR ho, qb1, ql3, key _ (by omega), qb3, show c + 1 + (slL 3 (y = 0)).length = c + (51 :: slL 3 (y = 0)).length by rw [List.length_cons]; omega]
      refine ⟨_, ?_, fun _ => rfl⟩
      rw [show app (upd g c 51) (c + 1) (slL 3 (y = 0)) = app g c (51 :: slL 3 (y = 0)) from rfl, app_app, Nat.add_assoc, ← List.length_append, h2 h]
  · obtain ⟨r, h1, h2⟩ := e9_lands0 hB hR ho (c := c) (by omega) (q := nI (a (35 + 5 * o))) (d := 3) (by rw [ql3, q_eq (by omega) (by omega)]; exact c3) x g
    rw [h1]
    unfold lnL
    rw [if_neg c3, if_neg c3]
    exact ⟨_, rfl, h2⟩
end EU
