/-! ===== E: a watch goes by ===== -/
def updN (a : Nat → Nat) (k x : Nat) : Nat → Nat := fun j => if j = k then x else a j
theorem updN_at (a : Nat → Nat) (k x : Nat) : updN a k x k = x := if_pos rfl
theorem updN_ne (a : Nat → Nat) {k j : Nat} (x : Nat) (h : j ≠ k) : updN a k x j = a j := if_neg h
def pay (a : Nat → Nat) (k : Nat) : Nat := if inR a k (a (37 + 5 * k)) then 6 + a (37 + 5 * k) else 0
def meetW (a : Nat → Nat) (RL : List RRul) (k : Nat) : Nat := if a (39 + 5 * k) = 0 then (if will a RL k = 0 then pay a k else if will a RL k = 2 then (if lightN a % 4 ≤ 1 then 0 else 1) else 0) else 0
def meetA (a : Nat → Nat) (RL : List RRul) (k : Nat) : Nat → Nat := if a (39 + 5 * k) = 0 then (if will a RL k = 0 then (if inR a k (a (37 + 5 * k)) then updN a (39 + 5 * k) 1 else a) else if will a RL k = 2 then updN a (36 + 5 * k) (min 99 (a (36 + 5 * k) + 12)) else a) else a
def goM (a : Nat → Nat) (RL : List RRul) (act : Nat) : Nat → Nat := if 1 ≤ act ∧ act ≤ a 4 then meetA a RL (act - 1) else a
def goMW (a : Nat → Nat) (RL : List RRul) (act : Nat) : Nat := if 1 ≤ act ∧ act ≤ a 4 then meetW a RL (act - 1) else 0
/-- the first j have drawn nearer -/
def mid (b : Nat → Nat) (j : Nat) : Nat → Nat := fun x => if 35 ≤ x ∧ x < 35 + 5 * j ∧ x % 5 = 1 ∧ b (x + 3) = 0 then b x - near b ((x - 36) / 5) else b x
def rocks (a : Nat → Nat) : Nat → Nat → Nat
  | 0, _ => 0
  | d + 1, j => (if a (39 + 5 * j) = 0 ∧ a (36 + 5 * j) = 0 then 1 else 0) + rocks a d (j + 1)
def rockN (a : Nat → Nat) : Nat := rocks a (a 4) 0
def homeN (a : Nat → Nat) : Nat := a 39 + a 44 + a 49 + a 54 + a 59 + a 64
def offA (b : Nat → Nat) : Nat → Nat := mid b (b 4)
def goW (a : Nat → Nat) (RL : List RRul) (act : Nat) : Nat := goMW a RL act + (homeN (goM a RL act) - rockN (offA (goM a RL act)))
def goA (a : Nat → Nat) (RL : List RRul) (act : Nat) : Nat → Nat := updN (offA (goM a RL act)) 0 (a 0 + 1)
theorem lightN_congr {a b : Nat → Nat} (h : ∀ x, x < 35 → b x = a x) : lightN b = lightN a := by
  unfold lightN lightW
  rw [h 0 (by decide)]
  split
  · rw [h _ (by omega)]
  · rfl
theorem oth_congr {a b : Nat → Nat} (h : ∀ x, 35 ≤ x → x % 5 ≠ 1 → b x = a x) (k : Nat) : ∀ d j, oth b k d j = oth a k d j := by
  intro d
  induction d with
  | zero => intro j; rfl
  | succ d ih =>
    intro j
    unfold oth
    rw [ih, h (38 + 5 * j) (by omega) (by omega), h (38 + 5 * k) (by omega) (by omega), h (39 + 5 * j) (by omega) (by omega)]
theorem near_congr {a b : Nat → Nat} (hB : BA a) (h : ∀ x, x % 5 ≠ 1 ∨ x < 35 → b x = a x) {k : Nat} (hk : k < 6) : near b k = near a k := by
  have b1 := hB.2.2.2.1 k hk
  unfold near
  rw [lightN_congr (fun x hx => h x (Or.inr hx)), oth_congr (fun x _ hx => h x (Or.inl hx)), h (35 + 5 * k) (by omega), h 0 (by omega), h 4 (by omega), h (38 + 5 * k) (by omega), h (23 + a (38 + 5 * k)) (by omega)]
theorem mid_oth {b : Nat → Nat} {j x : Nat} (h : x % 5 ≠ 1 ∨ x < 35) : mid b j x = b x := if_neg (fun z => by omega)
theorem mid_off {b : Nat → Nat} {j k : Nat} : mid b j (36 + 5 * k) = if k < j ∧ b (39 + 5 * k) = 0 then b (36 + 5 * k) - near b k else b (36 + 5 * k) := by
  unfold mid
  have e : (36 + 5 * k - 36) / 5 = k := by omega
  rw [e, show 36 + 5 * k + 3 = 39 + 5 * k by omega]
  by_cases c : k < j ∧ b (39 + 5 * k) = 0
  · rw [if_pos c, if_pos ⟨by omega, by omega, by omega, c.2⟩]
  · rw [if_neg c, if_neg (fun z => c ⟨by omega, z.2.2.2⟩)]
theorem mid_0 (b : Nat → Nat) : mid b 0 = b := by
  funext x
  exact if_neg (fun z => by omega)
theorem mid_s (b : Nat → Nat) (j : Nat) : mid b (j + 1) = updN (mid b j) (36 + 5 * j) (if b (39 + 5 * j) = 0 then b (36 + 5 * j) - near b j else b (36 + 5 * j)) := by
  funext x
  unfold updN
  by_cases c : x = 36 + 5 * j
  · subst c
    rw [if_pos rfl, mid_off]
    by_cases d : b (39 + 5 * j) = 0
    · rw [if_pos ⟨by omega, d⟩, if_pos d]
    · rw [if_neg (fun z => d z.2), if_neg d]
  · rw [if_neg c]
    unfold mid
    by_cases d : 35 ≤ x ∧ x < 35 + 5 * j ∧ x % 5 = 1 ∧ b (x + 3) = 0
    · rw [if_pos d, if_pos ⟨d.1, by omega, d.2.2⟩]
    · rw [if_neg d, if_neg (fun z => d ⟨z.1, by omega, z.2.2⟩)]
theorem BA_mid {b : Nat → Nat} (hB : BA b) (j : Nat) : BA (mid b j) := by
  have e : ∀ x, x % 5 ≠ 1 ∨ x < 35 → mid b j x = b x := fun x h => mid_oth h
  refine ⟨by rw [e 4 (by omega)]; exact hB.1, by rw [e 0 (by omega), e 1 (by omega)]; exact hB.2.1, by rw [e 1 (by omega)]; exact hB.2.2.1, fun k hk => ?_, fun w hw => by rw [e _ (by omega)]; exact hB.2.2.2.2.1 w hw, fun c hc => ?_, fun k hk h => ?_⟩
  · have b1 := hB.2.2.2.1 k hk
    rw [e (35 + 5 * k) (by omega), e (37 + 5 * k) (by omega), e (38 + 5 * k) (by omega), e (39 + 5 * k) (by omega), mid_off]
    refine ⟨b1.1, ?_, b1.2.2⟩
    split <;> omega
  · rw [e (23 + c) (by omega), e (29 + c) (by omega)]; exact hB.2.2.2.2.2.1 c hc
  · rw [e (39 + 5 * k) (by omega)]; rw [e 4 (by omega)] at h; exact hB.2.2.2.2.2.2 k hk h
theorem BA_meet {a : Nat → Nat} {RL : List RRul} (hB : BA a) {k : Nat} (hk : k < a 4) : BA (meetA a RL k) := by
  unfold meetA
  have h4 := hB.1
  have key1 : BA (updN a (39 + 5 * k) 1) := by
    refine ⟨by rw [updN_ne _ _ (by omega)]; exact hB.1, by rw [updN_ne _ _ (by omega), updN_ne _ _ (by omega)]; exact hB.2.1, by rw [updN_ne _ _ (by omega)]; exact hB.2.2.1, fun j hj => ?_, fun w hw => by rw [updN_ne _ _ (by omega)]; exact hB.2.2.2.2.1 w hw, fun c hc => ?_, fun j hj h => ?_⟩
    · have b1 := hB.2.2.2.1 j hj
      rw [updN_ne _ _ (by omega), updN_ne _ _ (by omega), updN_ne _ _ (by omega), updN_ne _ _ (by omega)]
      refine ⟨b1.1, b1.2.1, b1.2.2.1, b1.2.2.2.1, ?_⟩
      unfold updN
      split
      · omega
      · exact b1.2.2.2.2
    · rw [updN_ne _ _ (by omega), updN_ne _ _ (by omega)]; exact hB.2.2.2.2.2.1 c hc
    · rw [updN_ne _ _ (by omega)] at h
      rw [updN_ne _ _ (by omega)]; exact hB.2.2.2.2.2.2 j hj h
  have key2 : BA (updN a (36 + 5 * k) (min 99 (a (36 + 5 * k) + 12))) := by
    refine ⟨by rw [updN_ne _ _ (by omega)]; exact hB.1, by rw [updN_ne _ _ (by omega), updN_ne _ _ (by omega)]; exact hB.2.1, by rw [updN_ne _ _ (by omega)]; exact hB.2.2.1, fun j hj => ?_, fun w hw => by rw [updN_ne _ _ (by omega)]; exact hB.2.2.2.2.1 w hw, fun c hc => ?_, fun j hj h => ?_⟩
    · have b1 := hB.2.2.2.1 j hj
      rw [updN_ne (j := 35 + 5 * j) _ _ (by omega), updN_ne (j := 37 + 5 * j) _ _ (by omega), updN_ne (j := 38 + 5 * j) _ _ (by omega), updN_ne (j := 39 + 5 * j) _ _ (by omega)]
      refine ⟨b1.1, ?_, b1.2.2⟩
      unfold updN
      split
      · omega
      · exact b1.2.1
    · rw [updN_ne _ _ (by omega), updN_ne _ _ (by omega)]; exact hB.2.2.2.2.2.1 c hc
    · rw [updN_ne _ _ (by omega)] at h
      rw [updN_ne _ _ (by omega)]; exact hB.2.2.2.2.2.2 j hj h
  repeat' split
  all_goals assumption
theorem meet_oth {a : Nat → Nat} {RL : List RRul} {k x : Nat} (h1 : x ≠ 36 + 5 * k) (h2 : x ≠ 39 + 5 * k) : meetA a RL k x = a x := by
  unfold meetA
  repeat' split
  all_goals first | rfl | exact updN_ne _ _ (by omega)
theorem BA_goM {a : Nat → Nat} {RL : List RRul} (hB : BA a) (act : Nat) : BA (goM a RL act) := by
  unfold goM
  split
  · exact BA_meet hB (by omega)
  · exact hB
theorem goM_lt {a : Nat → Nat} {RL : List RRul} {act x : Nat} (h : x < 36) : goM a RL act x = a x := by
  unfold goM
  split
  · exact meet_oth (by omega) (by omega)
  · rfl
theorem goM_oth {a : Nat → Nat} {RL : List RRul} {act x : Nat} (h : x % 5 ≠ 1) (h2 : x % 5 ≠ 4) : goM a RL act x = a x := by
  unfold goM
  split
  · exact meet_oth (by omega) (by omega)
  · rfl
theorem BA_goA {a : Nat → Nat} {RL : List RRul} (hB : BA a) {act : Nat} (h : a 0 < a 1) : BA (goA a RL act) := by
  have hM := BA_mid (BA_goM (RL := RL) hB act) (goM a RL act 4)
  unfold goA offA
  have e1 : mid (goM a RL act) (goM a RL act 4) 1 = a 1 := by rw [mid_oth (by omega), goM_lt (by decide)]
  refine ⟨by rw [updN_ne _ _ (by omega)]; exact hM.1, by rw [updN_at, updN_ne _ _ (by omega), e1]; exact h, by rw [updN_ne _ _ (by omega)]; exact hM.2.2.1, fun j hj => ?_, fun w hw => by rw [updN_ne _ _ (by omega)]; exact hM.2.2.2.2.1 w hw, fun c hc => ?_, fun j hj h => ?_⟩
  · rw [updN_ne _ _ (by omega), updN_ne _ _ (by omega), updN_ne _ _ (by omega), updN_ne _ _ (by omega), updN_ne _ _ (by omega)]
    exact hM.2.2.2.1 j hj
  · rw [updN_ne _ _ (by omega), updN_ne _ _ (by omega)]; exact hM.2.2.2.2.2.1 c hc
  · rw [updN_ne _ _ (by omega)] at h
    rw [updN_ne _ _ (by omega)]; exact hM.2.2.2.2.2.2 j hj h
/-- what a watch leaves -/
theorem goA_oth {a : Nat → Nat} {RL : List RRul} {act x : Nat} (h0 : x ≠ 0) (h : x < 35 ∨ 65 ≤ x ∨ (x % 5 ≠ 1 ∧ x % 5 ≠ 4)) (h4 : a 4 ≤ 6) : goA a RL act x = a x := by
  unfold goA offA
  rw [updN_ne _ _ h0]
  have e4 : goM a RL act 4 = a 4 := goM_lt (by decide)
  have em : goM a RL act x = a x := by
    unfold goM
    split
    · exact meet_oth (by omega) (by omega)
    · rfl
  unfold mid
  rw [if_neg (by rw [e4]; omega), em]
theorem rocks_le (a : Nat → Nat) : ∀ d j, rocks a d j ≤ d := by
  intro d
  induction d with
  | zero => intro j; exact Nat.le_refl 0
  | succ d ih =>
    intro j
    have := ih (j + 1)
    unfold rocks
    split <;> omega
theorem pay_le {a : Nat → Nat} (hB : BA a) {k : Nat} (hk : k < 6) : pay a k ≤ 15 := by
  have b1 := hB.2.2.2.1 k hk
  unfold pay
  split <;> omega
theorem meetW_le {a : Nat → Nat} {RL : List RRul} (hB : BA a) {k : Nat} (hk : k < 6) : meetW a RL k ≤ 15 := by
  have := pay_le hB hk
  unfold meetW
  repeat' split
  all_goals omega
theorem homeN_le {a : Nat → Nat} (hB : BA a) : homeN a ≤ 6 := by
  have h0 := (hB.2.2.2.1 0 (by decide)).2.2.2.2
  have h1 := (hB.2.2.2.1 1 (by decide)).2.2.2.2
  have h2 := (hB.2.2.2.1 2 (by decide)).2.2.2.2
  have h3 := (hB.2.2.2.1 3 (by decide)).2.2.2.2
  have h4 := (hB.2.2.2.1 4 (by decide)).2.2.2.2
  have h5 := (hB.2.2.2.1 5 (by decide)).2.2.2.2
  unfold homeN
  simp only [Nat.reduceMul, Nat.reduceAdd] at *
  omega
theorem goW_le {a : Nat → Nat} {RL : List RRul} (hB : BA a) (act : Nat) : goW a RL act ≤ 21 := by
  have h1 := homeN_le (BA_goM (RL := RL) hB act)
  have h4 := hB.1
  have h2 : goMW a RL act ≤ 15 := by
    unfold goMW
    split
    · exact meetW_le hB (by omega)
    · exact Nat.zero_le _
  unfold goW
  omega
