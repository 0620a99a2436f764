/-! ===== E: acts of things ===== -/
def InT (tc : Int32) (bo : Nat → Int32) (td : Int32) (tr : Nat → Int32) : Prop := ∃ t : Nat, t ≤ 30 ∧ tc = nI t ∧ td = nI t ∧ ∀ i, i < 30 → bo i = tr i
def app (g : Nat → Int32) : Nat → List Int32 → (Nat → Int32)
  | _, [] => g
  | c, b :: L => app (upd g c b) (c + 1) L
theorem app_eq {g h : Nat → Int32} : ∀ (L : List Int32) (c : Nat) (g h : Nat → Int32), (∀ i, i < 30 → g i = h i) → ∀ i, i < 30 → app g c L i = app h c L i := by
  intro L
  induction L with
  | nil => intro c g h H; exact H
  | cons b L ih =>
    intro c g h H
    refine ih (c + 1) _ _ (fun i hi => ?_)
    unfold upd
    split
    · rfl
    · exact H i hi
theorem e8_beg {c : Nat} (hc : c < 30) (b : Int32) (g : Nat → Int32) : f_X7_begin b (nI c) 0 g = some (nI (c + 1), upd g c b) := by
  unfold f_X7_begin
  rw [if_pos rfl, ql30, if_neg (nI_ge hc (by decide)), qcI hc (by decide), nI_1, qt1, q_cl (by omega)]
theorem e8_begP (c : Int32) (b : Int32) (g : Nat → Int32) : f_X7_begin b c 1 g = some (c, g) := if_neg n10
theorem e9_beg {c : Nat} (hc : c < 30) (b : Int32) (g : Nat → Int32) : f_X9_starts b (nI c) g = some (nI (c + 1), upd g c b) := by
  unfold f_X9_starts
  rw [ql30, if_neg (nI_ge hc (by decide)), qcI hc (by decide), nI_1, qt1, q_cl (by omega)]
def sgL (k : Nat) : List Int32 := if k = 1 then [20, 10] else if k = 3 then [50, 10] else [10]
def sgV (k : Nat) (x n : Int32) : Int32 := if k = 1 then (x * 9 - n) ^^^ 21 else if k = 3 then (x + 13) * 9 - n else x * 9 - n
def tkL (k : Nat) : List Int32 := if k = 2 ∨ k = 3 then 30 :: 11 :: sgL k else if k = 5 then 60 :: 11 :: sgL k else 11 :: sgL k
def tkV (k : Nat) (x n a : Int32) : Int32 := if k = 2 ∨ k = 3 then (sgV k x n - 3 * a) * 2 else if k = 5 then -(sgV k x n - 3 * a) else sgV k x n - 3 * a
theorem c6 {k : Nat} (h : k < 6) : k = 0 ∨ k = 1 ∨ k = 2 ∨ k = 3 ∨ k = 4 ∨ k = 5 := by omega
theorem e8_sights {k c : Nat} (hk : k < 6) (hc : c + 2 ≤ 30) (x n : Int32) (g : Nat → Int32) : f_X7_sights x (nI c) 0 (nI k) n g = some (sgV k x n, nI (c + (sgL k).length), app g c (sgL k)) := by
  unfold f_X7_sights f_X7_shipSights
  rcases c6 hk with rfl | rfl | rfl | rfl | rfl | rfl
  · rw [if_neg (by decide), if_neg (by decide), e8_beg (by omega)]; rfl
  · rw [if_pos (by decide), e8_beg (by omega), qb2, e8_beg (by omega)]; rfl
  · rw [if_neg (by decide), if_neg (by decide), e8_beg (by omega)]; rfl
  · rw [if_neg (by decide), if_pos (by decide), e8_beg (by omega), qb2, e8_beg (by omega)]; rfl
  · rw [if_neg (by decide), if_neg (by decide), e8_beg (by omega)]; rfl
  · rw [if_neg (by decide), if_neg (by decide), e8_beg (by omega)]; rfl
theorem e8_sightsP {k : Nat} (c x n : Int32) (g : Nat → Int32) : ∃ r, f_X7_sights x c 1 (nI k) n g = some (r, c, g) := by
  unfold f_X7_sights f_X7_shipSights
  simp only [e8_begP, qb2, qb3]
  repeat' split
  all_goals exact ⟨_, rfl⟩
theorem e9_sights {k c : Nat} (hk : k < 6) (hc : c + 2 ≤ 30) (x n : Int32) (g : Nat → Int32) : F_X9_sightsAs 4 (nI k) x (nI c) n g = some (sgV k x n, nI (c + (sgL k).length), app g c (sgL k)) := by
  rw [F_X9_sightsAs]
  unfold f_X9_sightsAs
  rcases c6 hk with rfl | rfl | rfl | rfl | rfl | rfl
  · rw [if_neg (by decide), if_neg (by decide), e9_beg (by omega)]; rfl
  · rw [if_pos (by decide), e9_beg (by omega), qb2, F_X9_sightsAs]
    unfold f_X9_sightsAs
    rw [if_neg (by decide), if_neg (by decide), e9_beg (by omega)]; rfl
  · rw [if_neg (by decide), if_neg (by decide), e9_beg (by omega)]; rfl
  · rw [if_neg (by decide), if_pos (by decide), e9_beg (by omega), qb2, F_X9_sightsAs]
    unfold f_X9_sightsAs
    rw [if_neg (by decide), if_neg (by decide), e9_beg (by omega)]; rfl
  · rw [if_neg (by decide), if_neg (by decide), e9_beg (by omega)]; rfl
  · rw [if_neg (by decide), if_neg (by decide), e9_beg (by omega)]; rfl
theorem sgL_le (k : Nat) : (sgL k).length ≤ 2 := by
  unfold sgL
  split
  · decide
  · split <;> decide
theorem e8_shipTacks {k c : Nat} (hk : k < 6) (hc : c + 3 ≤ 30) (x n a : Int32) (g : Nat → Int32) : f_X7_shipTacks x (nI c) 0 (nI k) n a g = some (sgV k x n - 3 * a, nI (c + 1 + (sgL k).length), app (upd g c 11) (c + 1) (sgL k)) := by
  unfold f_X7_shipTacks
  rw [e8_beg (by omega), qb2, e8_sights hk (by omega), qb3]
theorem e8_tacks {k c : Nat} (hk : k < 6) (hc : c + 4 ≤ 30) (x n a : Int32) (g : Nat → Int32) : f_X7_tacks x (nI c) 0 (nI k) n a g = some (tkV k x n a, nI (c + (tkL k).length), app g c (tkL k)) := by
  unfold f_X7_tacks
  rcases c6 hk with rfl | rfl | rfl | rfl | rfl | rfl
  · rw [if_neg (by decide), if_neg (by decide), if_neg (by decide), if_neg (by decide), e8_shipTacks (by omega) (by omega), qb3]
    show some (_, nI (c + 1 + (sgL 0).length), _) = some (_, nI (c + ((sgL 0).length + 1)), _)
    rw [Nat.add_assoc, Nat.add_comm 1]; rfl
  · rw [if_neg (by decide), if_neg (by decide), if_neg (by decide), if_neg (by decide), e8_shipTacks (by omega) (by omega), qb3]
    rfl
  · rw [if_pos (by decide), e8_beg (by omega), qb2, e8_shipTacks (by omega) (by omega), qb3]; rfl
  · rw [if_neg (by decide), if_pos (by decide), e8_beg (by omega), qb2, e8_shipTacks (by omega) (by omega), qb3]; rfl
  · rw [if_neg (by decide), if_neg (by decide), if_pos (by decide), e8_shipTacks (by omega) (by omega), qb3]; rfl
  · rw [if_neg (by decide), if_neg (by decide), if_neg (by decide), if_pos (by decide), e8_beg (by omega), qb2, e8_shipTacks (by omega) (by omega), qb3, Int32.zero_sub]; rfl
theorem e8_tacksP {k : Nat} (c x n a : Int32) (g : Nat → Int32) : ∃ r, f_X7_tacks x c 1 (nI k) n a g = some (r, c, g) := by
  obtain ⟨r, h⟩ := @e8_sightsP k c x n g
  unfold f_X7_tacks f_X7_shipTacks
  simp only [e8_begP, qb2, h, qb3]
  repeat' split
  all_goals exact ⟨_, rfl⟩
section ET
variable {a : Nat → Nat} {s : Nat → Int32}
theorem e9_tacks0 (hB : BA a) (hR : RM s a) {o c : Nat} (ho : o < 6) (hc : c + 3 ≤ 30) {q : Int32} {d : Nat} (h2 : ¬ q = 2) (h3 : ¬ q = 3) (h5 : ¬ q = 5) (x : Int32) (g : Nat → Int32) : F_X9_tacksAs (d + 1) q x (nI c) (nI o) s g = some (sgV (a (35 + 5 * o)) x (nI o) - 3 * nI (a (38 + 5 * o)), nI (c + 1 + (sgL (a (35 + 5 * o))).length), app (upd g c 11) (c + 1) (sgL (a (35 + 5 * o)))) := by
  have b1 := hB.2.2.2.1 o ho
  rw [F_X9_tacksAs]
  unfold f_X9_tacksAs
  rw [if_neg h2, if_neg h3, if_neg h5, e9_beg (by omega), qb2, e9_kind hR ho, qb1, e9_sights (by omega) (by omega), qb3, e9_lane hR ho, qb1]
theorem e9_tacks (hB : BA a) (hR : RM s a) {o c : Nat} (ho : o < 6) (hc : c + 4 ≤ 30) (x : Int32) (g : Nat → Int32) : F_X9_tacksAs 4 (nI (a (35 + 5 * o))) x (nI c) (nI o) s g = some (tkV (a (35 + 5 * o)) x (nI o) (nI (a (38 + 5 * o))), nI (c + (tkL (a (35 + 5 * o))).length), app g c (tkL (a (35 + 5 * o)))) := by
  have b1 := hB.2.2.2.1 o ho
  obtain ⟨k, hk⟩ : ∃ k, a (35 + 5 * o) = k := ⟨_, rfl⟩
  have key := fun (c : Nat) (hc : c + 3 ≤ 30) (q : Int32) (d : Nat) h2 h3 h5 (g : Nat → Int32) => e9_tacks0 hB hR ho (c := c) hc (q := q) (d := d) h2 h3 h5 x g
  rw [hk] at key ⊢
  have el : ∀ m : Nat, c + 1 + m = c + (m + 1) := fun m => by omega
  have el2 : ∀ m : Nat, c + 1 + 1 + m = c + (m + 1 + 1) := fun m => by omega
  rcases c6 (show k < 6 by omega) with rfl | rfl | rfl | rfl | rfl | rfl
  · rw [key c (by omega) _ 3 (by decide) (by decide) (by decide)]; rfl
  · rw [key c (by omega) _ 3 (by decide) (by decide) (by decide)]; rfl
  · rw [F_X9_tacksAs]
    unfold f_X9_tacksAs f_X9_tacksAs_b10
    rw [if_pos (by decide), e9_beg (by omega), qb2, key (c + 1) (by omega) 0 2 (by decide) (by decide) (by decide), qb3]; rfl
  · rw [F_X9_tacksAs]
    unfold f_X9_tacksAs f_X9_tacksAs_b10
    rw [if_neg (by decide), if_pos (by decide), e9_beg (by omega), qb2, key (c + 1) (by omega) 0 2 (by decide) (by decide) (by decide), qb3]; rfl
  · rw [key c (by omega) _ 3 (by decide) (by decide) (by decide)]; rfl
  · rw [F_X9_tacksAs]
    unfold f_X9_tacksAs f_X9_tacksAs_b10
    rw [if_neg (by decide), if_neg (by decide), if_pos (by decide), e9_beg (by omega), qb2, key (c + 1) (by omega) 4 2 (by decide) (by decide) (by decide), qb3]; rfl
theorem tkL_le (k : Nat) : (tkL k).length ≤ 4 := by
  have := sgL_le k
  unfold tkL
  repeat' split
  all_goals (simp only [List.length_cons]; omega)
/-- sounds -/
def sdL (k : Nat) (p : Prop) [Decidable p] : List Int32 := if k = 5 then (if p then [61, 40, 12] else 61 :: 40 :: 12 :: sgL 5) else if k = 4 then [40, 12] else [12]
def sdB (x y : Int32) : Int32 := x - x / y * y
def sdV (k : Nat) (x n y : Int32) : Int32 := if k = 5 then (sdB x y + 7) ^^^ sgV 5 n n else if k = 4 then sdB x y + 7 else sdB x y
theorem sdL_le (k : Nat) (p : Prop) [Decidable p] : (sdL k p).length ≤ 5 := by
  have := sgL_le 5
  unfold sdL
  repeat' split
  all_goals (simp only [List.length_cons, List.length_nil]; omega)
theorem e8_shipSounds {c : Nat} (hc : c + 1 ≤ 30) (x n a : Int32) (g : Nat → Int32) : f_X7_shipSounds x (nI c) 0 n a g = some (if n + a - 5 = 0 then 0 else sdB x (n + a - 5), nI (c + 1), if n + a - 5 = 0 then 1 else 0, upd g c 12) := by
  unfold f_X7_shipSounds
  rw [e8_beg (by omega), qb2, qt1]
  by_cases h : n + a - 5 = 0
  · rw [if_pos h, if_pos h, if_pos h]
  · rw [if_neg h, if_neg h, if_neg h]
    unfold chkD sdB
    rw [if_neg h]
theorem e8_sounds {k c : Nat} (hk : k < 6) (hc : c + 5 ≤ 30) (x n a : Int32) (g : Nat → Int32) : ∃ r, f_X7_sounds x (nI c) 0 (nI k) n a g = some (r, nI (c + (sdL k (n + a - 5 = 0)).length), if n + a - 5 = 0 then 1 else 0, app g c (sdL k (n + a - 5 = 0))) ∧ (¬ n + a - 5 = 0 → r = sdV k x n (n + a - 5)) := by
  unfold f_X7_sounds f_X7_brigSounds
  by_cases h : n + a - 5 = 0
  · obtain ⟨r1, hr1⟩ := @e8_sightsP k (nI (c + 1 + 1 + 1)) n n (upd (upd (upd g c 61) (c + 1) 40) (c + 1 + 1) 12)
    rcases c6 hk with rfl | rfl | rfl | rfl | rfl | rfl
    · rw [if_neg (by decide), if_neg (by decide), e8_shipSounds (by omega), if_pos h, if_pos h, qb4]
      exact ⟨_, by unfold sdL; rw [if_neg (by decide), if_neg (by decide)]; rfl, fun z => absurd h z⟩
    · rw [if_neg (by decide), if_neg (by decide), e8_shipSounds (by omega), if_pos h, if_pos h, qb4]
      exact ⟨_, by unfold sdL; rw [if_neg (by decide), if_neg (by decide)]; rfl, fun z => absurd h z⟩
    · rw [if_neg (by decide), if_neg (by decide), e8_shipSounds (by omega), if_pos h, if_pos h, qb4]
      exact ⟨_, by unfold sdL; rw [if_neg (by decide), if_neg (by decide)]; rfl, fun z => absurd h z⟩
    · rw [if_neg (by decide), if_neg (by decide), e8_shipSounds (by omega), if_pos h, if_pos h, qb4]
      exact ⟨_, by unfold sdL; rw [if_neg (by decide), if_neg (by decide)]; rfl, fun z => absurd h z⟩
    · rw [if_pos (by decide), e8_beg (by omega), qb2, e8_shipSounds (by omega), if_pos h, if_pos h, qb4, qb4]
      exact ⟨_, by unfold sdL; rw [if_neg (by decide), if_pos (by decide)]; rfl, fun z => absurd h z⟩
    · rw [if_neg (by decide), if_pos (by decide), e8_beg (by omega), qb2, e8_beg (by omega), qb2, e8_shipSounds (by omega), if_pos h, if_pos h, qb4, qb4, hr1, qb3]
      exact ⟨_, by unfold sdL; rw [if_pos (by decide), if_pos h]; rfl, fun z => absurd h z⟩
  · rcases c6 hk with rfl | rfl | rfl | rfl | rfl | rfl
    · rw [if_neg (by decide), if_neg (by decide), e8_shipSounds (by omega), if_neg h, if_neg h, qb4]
      exact ⟨_, by unfold sdL; rw [if_neg (by decide), if_neg (by decide)]; rfl, fun _ => rfl⟩
    · rw [if_neg (by decide), if_neg (by decide), e8_shipSounds (by omega), if_neg h, if_neg h, qb4]
      exact ⟨_, by unfold sdL; rw [if_neg (by decide), if_neg (by decide)]; rfl, fun _ => rfl⟩
    · rw [if_neg (by decide), if_neg (by decide), e8_shipSounds (by omega), if_neg h, if_neg h, qb4]
      exact ⟨_, by unfold sdL; rw [if_neg (by decide), if_neg (by decide)]; rfl, fun _ => rfl⟩
    · rw [if_neg (by decide), if_neg (by decide), e8_shipSounds (by omega), if_neg h, if_neg h, qb4]
      exact ⟨_, by unfold sdL; rw [if_neg (by decide), if_neg (by decide)]; rfl, fun _ => rfl⟩
    · rw [if_pos (by decide), e8_beg (by omega), qb2, e8_shipSounds (by omega), if_neg h, if_neg h, qb4, qb4]
      exact ⟨_, by unfold sdL; rw [if_neg (by decide), if_pos (by decide)]; rfl, fun _ => rfl⟩
    · rw [if_neg (by decide), if_pos (by decide), e8_beg (by omega), qb2, e8_beg (by omega), qb2, e8_shipSounds (by omega), if_neg h, if_neg h, qb4, qb4, e8_sights (by omega) (by omega), qb3]
      exact ⟨_, by unfold sdL; rw [if_pos (by decide), if_neg h]; rfl, fun _ => rfl⟩
theorem e9_sounds0 (hR : RM s a) {o c : Nat} (ho : o < 6) (hc : c + 1 ≤ 30) {q : Int32} {d : Nat} (h4 : ¬ q = 4) (h5 : ¬ q = 5) (x : Int32) (g : Nat → Int32) : F_X9_soundsAs (d + 1) q x (nI c) (nI o) 0 s g = some (if nI o + nI (a (38 + 5 * o)) - 5 = 0 then 0 else sdB x (nI o + nI (a (38 + 5 * o)) - 5), nI (c + 1), if nI o + nI (a (38 + 5 * o)) - 5 = 0 then 1 else 0, upd g c 12) := by
  rw [F_X9_soundsAs]
  unfold f_X9_soundsAs f_X9_soundsAs_b97 f_X9_soundsAs_b102
  rw [if_neg h5, if_neg h4, e9_beg (by omega), qb2, e9_lane hR ho, qb1, qt1, if_pos rfl, if_neg n10, if_pos rfl]
  by_cases h : nI o + nI (a (38 + 5 * o)) - 5 = 0
  · rw [if_pos h, if_pos h, if_pos h]
  · rw [if_neg h, if_neg h, if_neg h]
    unfold chkD sdB
    rw [if_neg h]
theorem e9_sounds (hB : BA a) (hR : RM s a) {o c : Nat} (ho : o < 6) (hc : c + 5 ≤ 30) (x : Int32) (g : Nat → Int32) : ∃ r, F_X9_soundsAs 4 (nI (a (35 + 5 * o))) x (nI c) (nI o) 0 s g = some (r, nI (c + (sdL (a (35 + 5 * o)) (nI o + nI (a (38 + 5 * o)) - 5 = 0)).length), if nI o + nI (a (38 + 5 * o)) - 5 = 0 then 1 else 0, app g c (sdL (a (35 + 5 * o)) (nI o + nI (a (38 + 5 * o)) - 5 = 0))) ∧ (¬ nI o + nI (a (38 + 5 * o)) - 5 = 0 → r = sdV (a (35 + 5 * o)) x (nI o) (nI o + nI (a (38 + 5 * o)) - 5)) := by
  have b1 := hB.2.2.2.1 o ho
  obtain ⟨k, hk⟩ : ∃ k, a (35 + 5 * o) = k := ⟨_, rfl⟩
  obtain ⟨y, hy⟩ : ∃ y, nI o + nI (a (38 + 5 * o)) - 5 = y := ⟨_, rfl⟩
  have key := fun (c : Nat) (hc : c + 1 ≤ 30) (q : Int32) (d : Nat) h4 h5 (g : Nat → Int32) => e9_sounds0 hR ho (c := c) hc (q := q) (d := d) h4 h5 x g
  rw [hy] at key
  rw [hk, hy]
  have low : ∀ k : Nat, k < 6 → k ≠ 4 → k ≠ 5 → ∃ r, F_X9_soundsAs 4 (nI k) x (nI c) (nI o) 0 s g = some (r, nI (c + (sdL k (y = 0)).length), if y = 0 then 1 else 0, app g c (sdL k (y = 0))) ∧ (¬ y = 0 → r = sdV k x (nI o) y) := by
    intro k h6 h4 h5
    have g4 : ¬ nI k = 4 := by rw [ql4, q_eq (by omega) (by omega)]; exact h4
    have g5 : ¬ nI k = 5 := by rw [ql5, q_eq (by omega) (by omega)]; exact h5
    have es : sdL k (y = 0) = [12] := by unfold sdL; rw [if_neg h5, if_neg h4]
    have ev : sdV k x (nI o) y = sdB x y := by unfold sdV; rw [if_neg h5, if_neg h4]
    rw [key c (by omega) _ 3 g4 g5, es, ev]
    exact ⟨_, rfl, fun h => if_neg h⟩
  by_cases c4 : k = 4
  · subst c4
    rw [F_X9_soundsAs]
    unfold f_X9_soundsAs
    rw [if_neg (by decide), if_pos (by decide), e9_beg (by omega), qb2, key (c + 1) (by omega) 0 2 (by decide) (by decide), qb4]
    by_cases h : y = 0
    · rw [if_pos h, if_pos h]
      exact ⟨_, by unfold sdL; rw [if_neg (show ¬ (4 : Nat) = 5 by decide), if_pos (show (4 : Nat) = 4 from rfl)]; rfl, fun z => absurd h z⟩
    · rw [if_neg h, if_neg h]
      exact ⟨_, by unfold sdL; rw [if_neg (show ¬ (4 : Nat) = 5 by decide), if_pos (show (4 : Nat) = 4 from rfl)]; rfl, fun _ => rfl⟩
  · by_cases c5 : k = 5
    · subst c5
      rw [F_X9_soundsAs]
      unfold f_X9_soundsAs
      rw [if_pos (by decide), e9_beg (by omega), qb2, F_X9_soundsAs]
      unfold f_X9_soundsAs
      rw [if_neg (show ¬ (4 : Int32) = 5 by decide), if_pos (show (4 : Int32) = 4 from rfl), e9_beg (by omega), qb2, key (c + 1 + 1) (by omega) 0 1 (by decide) (by decide), qb4, qb4]
      by_cases h : y = 0
      · rw [if_pos h, if_pos h, if_neg n10]
        exact ⟨_, by unfold sdL; rw [if_pos (by decide), if_pos h]; rfl, fun z => absurd h z⟩
      · rw [if_neg h, if_neg h, if_pos rfl, show (5 : Int32) = nI 5 from rfl, e9_sights (by omega) (by omega), qb3]
        exact ⟨_, by unfold sdL; rw [if_pos (by decide), if_neg h]; rfl, fun _ => rfl⟩
    · exact low k (by omega) c4 c5
end ET
