/-! ===== E: what it all is, in numbers (a: the row of numbers of the whole, by the reference's places) ===== -/
def lightW (a : Nat → Nat) (w : Nat) : Nat := if w < 16 then a (7 + w) else 0
def lightN (a : Nat → Nat) : Nat := lightW a (a 0)
def nearA (kd li w : Nat) : Nat := if kd = 1 then (li / 4) * (li % 4) else if kd = 2 then 2 * (li / 4) else if kd = 3 then 2 * (li / 4) + li % 4 else if kd = 4 then 3 + li % 4 else if kd = 5 then (if w % 3 = 0 then 0 else 3 + li % 4) else 2 + li / 4
def reachA (kd tr li : Nat) : Nat := if kd = 1 then 20 else if kd = 2 then 10 + 2 * tr + 5 else if kd = 3 then 10 + 2 * tr + 5 - 3 * (li / 4) else if kd = 4 then 10 + 2 * tr + 3 * (li / 4) else if kd = 5 then (10 + 2 * tr + 3 * (li / 4)) / 2 else 10 + 2 * tr
def oth (a : Nat → Nat) (k : Nat) : Nat → Nat → Nat
  | 0, _ => 0
  | d + 1, j => (if j ≠ k ∧ a (38 + 5 * j) = a (38 + 5 * k) ∧ a (39 + 5 * j) = 0 then 1 else 0) + oth a k d (j + 1)
def near (a : Nat → Nat) (k : Nat) : Nat := nearA (a (35 + 5 * k)) (lightN a) (a 0) + a (23 + a (38 + 5 * k)) - oth a k (a 4) 0
def reach (a : Nat → Nat) (k tr : Nat) : Nat := reachA (a (35 + 5 * k)) tr (lightN a) + a (29 + a (38 + 5 * k))
abbrev inR (a : Nat → Nat) (k tr : Nat) : Prop := a (39 + 5 * k) = 0 ∧ 0 < a (36 + 5 * k) ∧ a (36 + 5 * k) ≤ reach a k tr
def hb (a : Nat → Nat) : Nat := a 39 + 2 * a 44 + 4 * a 49 + 8 * a 54 + 16 * a 59 + 32 * a 64
def BA (a : Nat → Nat) : Prop := a 4 ≤ 6 ∧ a 0 ≤ a 1 ∧ a 1 ≤ 16 ∧ (∀ k, k < 6 → a (35 + 5 * k) ≤ 5 ∧ a (36 + 5 * k) ≤ 99 ∧ a (37 + 5 * k) ≤ 9 ∧ a (38 + 5 * k) ≤ 5 ∧ a (39 + 5 * k) ≤ 1) ∧ (∀ w, w < 16 → a (7 + w) ≤ 15) ∧ (∀ c, c < 6 → a (23 + c) ≤ 9 ∧ a (29 + c) ≤ 9) ∧ (∀ k, k < 6 → a 4 ≤ k → a (39 + 5 * k) = 0)
/-- the class's rock, what a watch doesn't change, and what it does -/
def CE (cnt : Int32) (kd tr ln li cu bu : Nat → Int32) (a : Nat → Nat) : Prop := cnt = nI (a 4) ∧ (∀ k, k < 6 → kd k = nI (a (35 + 5 * k)) ∧ tr k = nI (a (37 + 5 * k)) ∧ ln k = nI (a (38 + 5 * k))) ∧ (∀ w, w < 16 → li w = nI (a (7 + w))) ∧ (∀ c, c < 6 → cu c = nI (a (23 + c)) ∧ bu c = nI (a (29 + c)))
def CS (wa ho : Int32) (of : Nat → Int32) (a : Nat → Nat) : Prop := wa = nI (a 0) ∧ ho = nI (hb a) ∧ (∀ k, k < 6 → of k = nI (a (36 + 5 * k)))
/-- the reference's row -/
def RM (s : Nat → Int32) (a : Nat → Nat) : Prop := ∀ j, j < 89 → j ≠ 2 → j ≠ 3 → s j = nI (a j)
