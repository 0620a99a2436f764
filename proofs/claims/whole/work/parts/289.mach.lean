/-! ===== E: the class's reader, step by step ===== -/
abbrev RT := Option (Int32 × Int32 × Int32 × (Nat → Int32) × (Nat → Int32) × (Nat → Int32) × (Nat → Int32) × (Nat → Int32) × (Nat → Int32) × Int32 × Int32 × Int32 × Int32 × Int32 × Int32 × Int32 × Int32 × Int32 × Int32 × (Nat → Int32))
def FT (out : RT) (e : Nat) : Prop := ∃ (y2 y3 : Int32) (g4 g5 g6 g7 g8 g9 : Nat → Int32) (y10 y11 y12 y13 y14 y15 y16 y17 y18 y19 : Int32) (g20 : Nat → Int32), out = some (nI e, y2, y3, g4, g5, g6, g7, g8, g9, y10, y11, y12, y13, y14, y15, y16, y17, y18, y19, g20) ∧ g4 0 = nI 0
def PI (n p m : Nat) (v pl : Int32) : Prop := p ≤ n ∧ n < p + m ∧ (∃ i, v = nI i ∧ i ≤ p) ∧ pl = nI p
def SL (st le ri : Nat → Int32) (S : List RStp) : Prop := ∀ i (h : i < S.length), st i = nI (S[i]).1 ∧ le i = nI (S[i]).2.1 ∧ ri i = nI (S[i]).2.2
def WS (wt : Nat → Int32) : List Nat → Prop
  | [] => True
  | x :: t => wt t.length = nI x ∧ WS wt t
def fl (P : List Nat) : List RStp := P.map (fun x => (x, 0, 0))
def PA (b : Nat) (P : List Nat) : Prop := ∀ x, x ∈ P → b ≤ x ∧ x ≤ 3
theorem fl_len (P : List Nat) : (fl P).length = P.length := List.length_map ..
theorem fl_app (P Q : List Nat) : fl (P ++ Q) = fl P ++ fl Q := List.map_append
theorem WS_upd {k : Nat} {y : Int32} {wt : Nat → Int32} : ∀ W : List Nat, W.length ≤ k → WS wt W → WS (upd wt k y) W := by
  intro W
  induction W with
  | nil => intro _ _; trivial
  | cons x t ih =>
    intro h1 h2
    rw [List.length_cons] at h1
    refine ⟨?_, ih (by omega) h2.2⟩
    unfold upd; rw [if_neg (by omega)]; exact h2.1
theorem WS_app {wt : Nat → Int32} : ∀ P W : List Nat, WS wt (P ++ W) → WS wt W := by
  intro P
  induction P with
  | nil => intro W h; exact h
  | cons x t ih => intro W h; exact ih W h.2
theorem WS_push {wt : Nat → Int32} {W : List Nat} {x : Nat} (h : WS wt W) : WS (upd wt W.length (nI x)) (x :: W) := ⟨by unfold upd; rw [if_pos rfl], WS_upd W (Nat.le_refl _) h⟩
theorem SL_push {st le ri : Nat → Int32} {S : List RStp} {x l r : Nat} (h : SL st le ri S) : SL (upd st S.length (nI x)) (upd le S.length (nI l)) (upd ri S.length (nI r)) (S ++ [(x, l, r)]) := by
  intro i hi
  rw [List.length_append, List.length_singleton] at hi
  unfold upd
  by_cases c : i = S.length
  · subst c
    rw [if_pos rfl, if_pos rfl, if_pos rfl, List.getElem_append_right (Nat.le_refl _)]
    simp only [Nat.sub_self]
    exact ⟨rfl, rfl, rfl⟩
  · rw [if_neg c, if_neg c, if_neg c, List.getElem_append_left (by omega)]
    exact h i (by omega)
theorem e4_addStep {S : List RStp} (hS : S.length < 200) {st le ri : Nat → Int32} (h : SL st le ri S) (x l r : Nat) : ∃ le' ri' st', f_X5_addStep (nI x) (nI l) (nI r) (nI S.length) le ri st = some (nI (S ++ [((x, l, r) : RStp)]).length, le', ri', st') ∧ SL st' le' ri' (S ++ [(x, l, r)]) := by
  unfold f_X5_addStep
  rw [ql200, if_neg (nI_ge hS (by decide)), qcI hS (by decide), qcI hS (by decide), qcI hS (by decide), show nI S.length + 1 = nI (S.length + 1) from q_add _ 1, qt1, q_cl (by omega), List.length_append]
  exact ⟨_, _, _, rfl, SL_push h⟩
theorem e4_await {W : List Nat} (hw : W.length < 200) (x : Nat) (wt : Nat → Int32) : f_X4_await (nI x) (nI W.length) wt = some (nI (x :: W).length, upd wt W.length (nI x)) := by
  unfold f_X4_await
  rw [ql200, if_neg (nI_ge hw (by decide)), qcI hw (by decide), show nI W.length + 1 = nI (W.length + 1) from q_add _ 1, qt1, q_cl (by omega)]
  rfl
theorem e4_join {b : Nat} (hb : 0 < b) (hb3 : b ≤ 3) {wt : Nat → Int32} {W : List Nat} (hW : W = [] ∨ W.headD 0 < b) : ∀ (P : List Nat) (m : Nat) (S : List RStp) (st le ri : Nat → Int32), P.length < m → PA b P → WS wt (P ++ W) → SL st le ri S → S.length + (P ++ W).length ≤ 200 → ∃ le' ri' st', f_X4_join_L0 (nI b) wt m (nI S.length) le ri st (nI (P ++ W).length) = some (nI (S ++ fl P).length, le', ri', st', nI W.length) ∧ SL st' le' ri' (S ++ fl P) := by
  intro P
  induction P with
  | nil =>
    intro m S st le ri hm hP hw hL hs
    obtain ⟨m, rfl⟩ : ∃ x, m = x + 1 := ⟨m - 1, by omega⟩
    rw [f_X4_join_L0]
    have e : S ++ fl [] = S := List.append_nil S
    rw [e]
    match W, hW, hw, hs with
    | [], _, _, _ =>
      rw [if_pos (by decide)]
      exact ⟨le, ri, st, rfl, hL⟩
    | x :: t, hW, hw, hs =>
      have hs' : S.length + (t.length + 1) ≤ 200 := hs
      have hx : x < b := hW.resolve_left (by simp)
      have hw1 : wt t.length = nI x := hw.1
      rw [show (([] : List Nat) ++ x :: t).length = t.length + 1 from rfl, if_neg (show ¬ nI (t.length + 1) ≤ 0 from nI_ge (a := 0) (by omega) (by omega)), nI_pred, qcI (show t.length < 200 by omega) (by decide), q_cl (by omega), hw1, if_pos ((q_lt (by omega) (by omega)).mpr hx)]
      exact ⟨le, ri, st, rfl, hL⟩
  | cons x P ih =>
    intro m S st le ri hm hP hw hL hs
    rw [List.length_cons] at hm
    obtain ⟨m, rfl⟩ : ∃ x, m = x + 1 := ⟨m - 1, by omega⟩
    have hs' : S.length + ((P ++ W).length + 1) ≤ 200 := hs
    obtain ⟨p1, p2⟩ := hP x List.mem_cons_self
    have hw1 : wt (P ++ W).length = nI x := hw.1
    obtain ⟨le1, ri1, st1, e1, h1⟩ := e4_addStep (show S.length < 200 by omega) hL x 0 0
    have e1' : f_X5_addStep (nI x) 0 0 (nI S.length) le ri st = _ := e1
    obtain ⟨le2, ri2, st2, e2, h2⟩ := ih m (S ++ [(x, 0, 0)]) st1 le1 ri1 (by omega) (fun y hy => hP y (List.mem_cons_of_mem _ hy)) hw.2 h1 (by rw [List.length_append]; show S.length + 1 + _ ≤ 200; omega)
    have ec : S ++ fl (x :: P) = S ++ [(x, 0, 0)] ++ fl P := by rw [List.append_assoc]; rfl
    rw [f_X4_join_L0, show (x :: P ++ W).length = (P ++ W).length + 1 from rfl, if_neg (show ¬ nI ((P ++ W).length + 1) ≤ 0 from nI_ge (a := 0) (by omega) (by omega)), nI_pred, qcI (show (P ++ W).length < 200 by omega) (by decide), q_cl (by omega), hw1, if_neg (show ¬ nI x < nI b by rw [q_lt (by omega) (by omega)]; omega), qt1, qcI (show (P ++ W).length < 200 by omega) (by decide), q_cl (by omega), hw1, e1', qb4, e2, ec]
    exact ⟨le2, ri2, st2, rfl, h2⟩
theorem e4_joined {b : Nat} (hb : 0 < b) (hb3 : b ≤ 3) {wt : Nat → Int32} {W P : List Nat} (hW : W = [] ∨ W.headD 0 < b) {S : List RStp} {st le ri : Nat → Int32} (hP : PA b P) (hw : WS wt (P ++ W)) (hL : SL st le ri S) (hs : S.length + (P ++ W).length ≤ 200) : ∃ le' ri' st', f_X4_join (nI b) (nI S.length) le ri st (nI (P ++ W).length) wt = some (nI (S ++ fl P).length, le', ri', st', nI W.length) ∧ SL st' le' ri' (S ++ fl P) :=
  e4_join hb hb3 hW P 1000 S st le ri (by rw [List.length_append] at hs; omega) hP hw hL hs
section EC1
variable {tp : Nat → Int32} {t : Nat → Nat} {n : Nat}
/-- a token that is taken -/
theorem m_go (hn : n ≤ 200) (ht : ∀ k, k < n → tp k = nI (t k) ∧ t k < 256) {p m : Nat} {v pl : Int32} (hI : PI n p m v pl) (hT : tkT t n p ≠ 19) {cnt siz : Int32} {be de ki le ri st : Nat → Int32} {wc op ex kd lf sg : Int32} {tk ta nu : Int32} {wt : Nat → Int32} {c' s' : Int32} {be' de' ki' le' ri' st' : Nat → Int32} {wc' op' ex' kd' lf' sg' : Int32} {wt' : Nat → Int32} (ha : ∀ nu', (tkT t n p = 18 → nu' = nI (tkW t n p)) → f_X4_accepts cnt siz be de ki le ri st wc op ex kd lf sg (nI (tkT t n p)) nu' wt = some (1, c', s', be', de', ki', le', ri', st', wc', op', ex', kd', lf', sg', wt')) : ∃ m' v' tk' ta' nu' pl', PI n (tkN t n p) m' v' pl' ∧ f_X4_read_L27 (nI n) 200 tp m v cnt siz be de ki le ri st wc op ex kd lf sg tk ta nu pl wt = f_X4_read_L27 (nI n) 200 tp m' v' c' s' be' de' ki' le' ri' st' wc' op' ex' kd' lf' sg' tk' ta' nu' pl' wt' := by
  obtain ⟨hp, hm, ⟨i, rfl, hi⟩, rfl⟩ := hI
  obtain ⟨m, rfl⟩ : ∃ x, m = x + 1 := ⟨m - 1, by omega⟩
  obtain ⟨nu', e, hv⟩ := e8_advance hn ht nu hp
  have e' : f_X4_advance (nI n) 200 tp nu (nI p) = some (nI (tkT t n p), nI (tkB t n p), nu', nI (tkN t n p)) := e
  have ea := ha nu' hv
  have m1 := tkN_le ht hp
  have w1 := tkN_gt ht hp hT
  obtain ⟨l1, l2⟩ := tk_lt ht hp
  refine ⟨m, nI (i + 1), nI (tkT t n p), nI (tkB t n p), nu', nI (tkN t n p), ⟨m1, by omega, ⟨i + 1, rfl, by omega⟩, rfl⟩, ?_⟩
  rw [f_X4_read_L27, if_neg (show ¬ nI n < nI i by rw [q_lt (by omega) (by omega)]; omega), e', qb4, if_neg (show ¬ nI (tkT t n p) = 19 by rw [ql19, q_eq (by omega) (by decide)]; exact hT), ea, qb16, if_neg n10, show nI i + 1 = nI (i + 1) from q_add i 1, qt1]
/-- a token that can't stand there, or the end -/
theorem m_bad (hn : n ≤ 200) (ht : ∀ k, k < n → tp k = nI (t k) ∧ t k < 256) {p m : Nat} {v pl : Int32} (hI : PI n p m v pl) {cnt siz : Int32} {be de ki le ri st : Nat → Int32} {wc op ex kd lf sg : Int32} {tk ta nu : Int32} {wt : Nat → Int32} (hx : tkT t n p = 19 → ¬ ex = 0) (hb : be 0 = nI 0) (ha : tkT t n p ≠ 19 → ∀ nu', (tkT t n p = 18 → nu' = nI (tkW t n p)) → ∃ c' s' be' de' ki' le' ri' st' wc' op' ex' kd' lf' sg' wt', f_X4_accepts cnt siz be de ki le ri st wc op ex kd lf sg (nI (tkT t n p)) nu' wt = some (0, c', s', be', de', ki', le', ri', st', wc', op', ex', kd', lf', sg', wt') ∧ be' 0 = nI 0) : FT (f_X4_read_L27 (nI n) 200 tp m v cnt siz be de ki le ri st wc op ex kd lf sg tk ta nu pl wt) (tkB t n p) := by
  obtain ⟨hp, hm, ⟨i, rfl, hi⟩, rfl⟩ := hI
  obtain ⟨m, rfl⟩ : ∃ x, m = x + 1 := ⟨m - 1, by omega⟩
  obtain ⟨nu', e, hv⟩ := e8_advance hn ht nu hp
  have e' : f_X4_advance (nI n) 200 tp nu (nI p) = some (nI (tkT t n p), nI (tkB t n p), nu', nI (tkN t n p)) := e
  obtain ⟨l1, l2⟩ := tk_lt ht hp
  rw [f_X4_read_L27, if_neg (show ¬ nI n < nI i by rw [q_lt (by omega) (by omega)]; omega), e', qb4]
  by_cases hT : tkT t n p = 19
  · have hB := (lex_ok (t := t) (fun k hk => (ht k hk).2) hp).2.2.2.2.2.2.1 hT
    rw [if_pos (show nI (tkT t n p) = 19 by rw [hT]; rfl), if_neg (hx hT), hB]
    exact ⟨_, _, _, _, _, _, _, _, _, _, _, _, _, _, _, _, _, _, _, rfl, hb⟩
  · obtain ⟨c', s', be', de', ki', le', ri', st', wc', op', ex', kd', lf', sg', wt', ea, hB⟩ := ha hT nu' hv
    rw [if_neg (show ¬ nI (tkT t n p) = 19 by rw [ql19, q_eq (by omega) (by decide)]; exact hT), ea, qb16, if_pos rfl]
    exact ⟨_, _, _, _, _, _, _, _, _, _, _, _, _, _, _, _, _, _, _, rfl, hB⟩
theorem e4_value (ht : ∀ k, k < n → tp k = nI (t k) ∧ t k < 256) {p : Nat} (hp : p ≤ n) {nu : Int32} (hv : tkT t n p = 18 → nu = nI (tkW t n p)) : f_X4_valueOfToken (nI (tkT t n p)) nu = some (match vl t n p with
    | none => (-3 : Int32)
    | some x => nI x) := by
  obtain ⟨l1, l2⟩ := tk_lt ht hp
  unfold f_X4_valueOfToken vl
  by_cases c : tkT t n p = 18
  · rw [if_pos (show nI (tkT t n p) = 18 by rw [c]; rfl), if_pos c, hv c]
  · rw [if_neg (show ¬ nI (tkT t n p) = 18 by rw [ql18, q_eq (by omega) (by decide)]; exact c), if_neg c]
    by_cases d : 13 ≤ tkT t n p ∧ tkT t n p ≤ 17
    · rw [if_neg (show ¬ nI (tkT t n p) < 13 by rw [ql13, q_lt (by omega) (by decide)]; omega), if_neg (show ¬ 17 < nI (tkT t n p) by rw [ql17, q_lt (by decide) (by omega)]; omega), if_pos d, ql10000, q_add, ql13, q_sub (by omega)]
    · rw [if_neg d]
      by_cases f : tkT t n p < 13
      · rw [if_pos (show nI (tkT t n p) < 13 by rw [ql13, q_lt (by omega) (by decide)]; exact f)]
      · rw [if_neg (show ¬ nI (tkT t n p) < 13 by rw [ql13, q_lt (by omega) (by decide)]; exact f), if_pos (show 17 < nI (tkT t n p) by rw [ql17, q_lt (by decide) (by omega)]; omega)]
theorem nI_m3 {x : Nat} (hx : x < 10005) : ¬ nI x = -3 := by
  intro h
  have := congrArg Int32.toInt h
  rw [nI_toInt (by omega)] at this
  have e : (-3 : Int32).toInt = -3 := rfl
  omega
end EC1
