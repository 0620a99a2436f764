/-! ===== E: rules: kind, deed, steps (what, left, right) ===== -/
abbrev RStp := Nat × Nat × Nat
abbrev RRul := Nat × Nat × List RStp
abbrev under (kd f : Nat) : Prop := f = kd ∨ f = 0 ∨ (kd = 3 ∧ f = 2) ∨ (kd = 5 ∧ f = 4)
def val (f : Nat → Nat) (x : Nat) : Nat := if x < 10000 then x else f (x - 10000)
/-- a step's work on the truths that wait, the latest first -/
def stp1 (f : Nat → Nat) (q : RStp) (st : List Bool) : List Bool :=
  if q.1 = 3 then (!st.headD false) :: st.tail
  else if q.1 = 2 then (st.tail.headD false && st.headD false) :: st.tail.tail
  else if q.1 = 1 then (st.tail.headD false || st.headD false) :: st.tail.tail
  else if q.1 = 4 then decide (val f q.2.1 < val f q.2.2) :: st
  else if q.1 = 5 then decide (val f q.2.1 = val f q.2.2) :: st
  else decide (val f q.2.2 < val f q.2.1) :: st
def evS (f : Nat → Nat) : List RStp → List Bool → List Bool
  | [], st => st
  | q :: t, st => evS f t (stp1 f q st)
/-- steps that go from so many truths to one -/
def okS : List RStp → Nat → Prop
  | [], h => h = 1
  | q :: t, h => q.2.1 < 10005 ∧ q.2.2 < 10005 ∧ ((4 ≤ q.1 ∧ q.1 ≤ 6 ∧ h < 9 ∧ okS t (h + 1)) ∨ (q.1 = 3 ∧ 1 ≤ h ∧ okS t h) ∨ ((q.1 = 1 ∨ q.1 = 2) ∧ 2 ≤ h ∧ okS t (h - 1)))
def holdsB (f : Nat → Nat) (S : List RStp) : Bool := S.isEmpty || (evS f S []).headD false
def willL (f : Nat → Nat) (kd : Nat) : List RRul → Nat
  | [] => 0
  | r :: t => if under kd r.1 ∧ holdsB f r.2.2 = true then r.2.1 else willL f kd t
theorem willL_c (f : Nat → Nat) (kd : Nat) (r : RRul) (t : List RRul) : willL f kd (r :: t) = if under kd r.1 ∧ holdsB f r.2.2 = true then r.2.1 else willL f kd t := rfl
def fact (a : Nat → Nat) (k i : Nat) : Nat := if i = 0 then a 0 else if i = 1 then a (36 + 5 * k) else if i = 2 then a (37 + 5 * k) else if i = 3 then lightN a / 4 else k
def will (a : Nat → Nat) (RL : List RRul) (k : Nat) : Nat := willL (fact a k) (a (35 + 5 * k)) RL
def may (a : Nat → Nat) (RL : List RRul) (k : Nat) : Bool := decide (inR a k (a (37 + 5 * k)) ∧ will a RL k = 0)
def okR (RL : List RRul) : Prop := ∀ r, r ∈ RL → r.1 ≤ 5 ∧ r.2.1 ≤ 2 ∧ (r.2.2 = [] ∨ okS r.2.2 0)
def codeOf (q : RStp) : List Nat := if 4 ≤ q.1 then [q.2.1, q.2.2, 10006 + q.1] else if q.1 = 3 then [10015] else if q.1 = 2 then [10013] else [10014]
def codes : List RStp → List Nat
  | [] => []
  | q :: t => codeOf q ++ codes t
/-- the class's rows of the rules from the r-th on, their steps from q on -/
def CRl (kd de be st le ri : Nat → Int32) : List RRul → Nat → Nat → Prop
  | [], _, _ => True
  | x :: t, r, q => kd r = nI x.1 ∧ de r = nI x.2.1 ∧ be r = nI q ∧ be (r + 1) = nI (q + x.2.2.length) ∧ q + x.2.2.length ≤ 200 ∧ (∀ i (h : i < x.2.2.length), st (q + i) = nI (x.2.2[i]).1 ∧ le (q + i) = nI (x.2.2[i]).2.1 ∧ ri (q + i) = nI (x.2.2[i]).2.2) ∧ CRl kd de be st le ri t (r + 1) (q + x.2.2.length)
/-- the reference's -/
def MRl (s : Nat → Int32) : List RRul → Nat → Nat → Prop
  | [], _, _ => True
  | x :: t, r, p => s (89 + 3 * r) = nI x.1 ∧ s (90 + 3 * r) = nI x.2.1 ∧ s (91 + 3 * r) = nI (p + (codes x.2.2).length) ∧ p + (codes x.2.2).length ≤ 200 ∧ (∀ i (h : i < (codes x.2.2).length), s (113 + p + i) = nI (codes x.2.2)[i]) ∧ MRl s t (r + 1) (p + (codes x.2.2).length)
theorem evS_app (f : Nat → Nat) : ∀ (S1 S2 : List RStp) (st : List Bool), evS f (S1 ++ S2) st = evS f S2 (evS f S1 st) := by
  intro S1
  induction S1 with
  | nil => intro S2 st; rfl
  | cons q t ih => intro S2 st; exact ih S2 _
theorem stp1_len {f : Nat → Nat} {q : RStp} {st : List Bool} (h : st.length < 9 ∨ q.1 < 4) (h1 : q.1 = 3 → 1 ≤ st.length) (h2 : q.1 = 1 ∨ q.1 = 2 → 2 ≤ st.length) : (stp1 f q st).length = (if q.1 = 3 then st.length else if q.1 = 1 ∨ q.1 = 2 then st.length - 1 else st.length + 1) := by
  unfold stp1
  by_cases c3 : q.1 = 3
  · have := h1 c3
    simp only [c3, if_true, List.length_cons, List.length_tail]; omega
  · by_cases c2 : q.1 = 2
    · have := h2 (Or.inr c2)
      simp only [c2, if_true, List.length_cons, List.length_tail]; simp; omega
    · by_cases c1 : q.1 = 1
      · have := h2 (Or.inl c1)
        simp only [c1, if_true, List.length_cons, List.length_tail]; simp; omega
      · simp only [if_neg c3, if_neg c2, if_neg c1]
        rw [if_neg (show ¬ (q.1 = 1 ∨ q.1 = 2) from fun z => z.elim c1 c2)]
        split
        · rfl
        · split <;> rfl
/-- a step of steps that go -/
theorem okS_step {f : Nat → Nat} {q : RStp} {t : List RStp} {st : List Bool} (h : okS (q :: t) st.length) : q.2.1 < 10005 ∧ q.2.2 < 10005 ∧ okS t (stp1 f q st).length ∧ ((q.1 = 3 ∧ 1 ≤ st.length) ∨ (q.1 = 2 ∧ 2 ≤ st.length) ∨ (q.1 = 1 ∧ 2 ≤ st.length) ∨ ((q.1 = 4 ∨ q.1 = 5 ∨ q.1 = 6) ∧ st.length < 9)) := by
  obtain ⟨h1, h2, h3⟩ := h
  refine ⟨h1, h2, ?_⟩
  rcases h3 with ⟨a1, a2, a3, a4⟩ | ⟨a1, a2, a3⟩ | ⟨a1, a2, a3⟩
  · rw [stp1_len (Or.inl a3) (by omega) (by omega), if_neg (by omega), if_neg (by omega)]
    exact ⟨a4, by omega⟩
  · rw [stp1_len (Or.inr (by omega)) (by omega) (by omega), if_pos a1]
    exact ⟨a3, by omega⟩
  · rw [stp1_len (Or.inr (by omega)) (by omega) (by omega), if_neg (by omega), if_pos a1]
    exact ⟨a3, by omega⟩
theorem stp1_not {f : Nat → Nat} {q : RStp} {st : List Bool} (c : q.1 = 3) : stp1 f q st = (!st.headD false) :: st.tail := if_pos c
theorem stp1_and {f : Nat → Nat} {q : RStp} {st : List Bool} (c : q.1 = 2) : stp1 f q st = (st.tail.headD false && st.headD false) :: st.tail.tail := by
  unfold stp1; rw [if_neg (by omega), if_pos c]
theorem stp1_or {f : Nat → Nat} {q : RStp} {st : List Bool} (c : q.1 = 1) : stp1 f q st = (st.tail.headD false || st.headD false) :: st.tail.tail := by
  unfold stp1; rw [if_neg (by omega), if_neg (by omega), if_pos c]
theorem stp1_lt {f : Nat → Nat} {q : RStp} {st : List Bool} (c : q.1 = 4) : stp1 f q st = decide (val f q.2.1 < val f q.2.2) :: st := by
  unfold stp1; rw [if_neg (by omega), if_neg (by omega), if_neg (by omega), if_pos c]
theorem stp1_eq {f : Nat → Nat} {q : RStp} {st : List Bool} (c : q.1 = 5) : stp1 f q st = decide (val f q.2.1 = val f q.2.2) :: st := by
  unfold stp1; rw [if_neg (by omega), if_neg (by omega), if_neg (by omega), if_neg (by omega), if_pos c]
theorem stp1_gt {f : Nat → Nat} {q : RStp} {st : List Bool} (c : q.1 = 6) : stp1 f q st = decide (val f q.2.2 < val f q.2.1) :: st := by
  unfold stp1; rw [if_neg (by omega), if_neg (by omega), if_neg (by omega), if_neg (by omega), if_neg (by omega)]
