/-! ===== E: the reference reads its rules ===== -/
/-- truths in a pile, the latest highest -/
def prel (pi : Nat → Int32) : List Bool → Prop
  | [] => True
  | b :: t => pi t.length = nI (if b then 1 else 0) ∧ prel pi t
theorem prel_upd {pi : Nat → Int32} {j : Nat} {x : Int32} : ∀ st : List Bool, st.length ≤ j → prel pi st → prel (upd pi j x) st := by
  intro st
  induction st with
  | nil => intro _ _; trivial
  | cons b t ih =>
    intro hj hp
    rw [List.length_cons] at hj
    refine ⟨?_, ih (by omega) hp.2⟩
    show (if t.length = j then x else pi t.length) = _
    rw [if_neg (by omega)]
    exact hp.1
theorem upd_at (f : Nat → Int32) (k : Nat) (x : Int32) : upd f k x k = x := if_pos rfl
theorem upd_ne (f : Nat → Int32) {k j : Nat} (x : Int32) (h : j ≠ k) : upd f k x j = f j := if_neg h
theorem e9_under : ∀ kd, kd < 6 → ∀ f, f < 6 → f_X9_isUnder (nI kd) (nI f) = some (if under kd f then 1 else 0) := by decide +kernel
section EN
variable {a : Nat → Nat} {s : Nat → Int32}
theorem e9_known (hB : BA a) (hR : RM s a) {k i : Nat} (hk : k < 6) (hi : i < 5) : f_X9_knownOf (nI i) (nI k) s = some (nI (fact a k i)) := by
  have b4 : lightN a ≤ 15 := lightW_le hB (a 0)
  unfold f_X9_knownOf
  rw [hR 0 (by decide) (by decide) (by decide), e9_off hR hk, e9_trim hR hk, e9_light hB hR, qb1, qb1, qb1, ql4, q_div (by omega) (by decide) (by decide)]
  rcases (by omega : i = 0 ∨ i = 1 ∨ i = 2 ∨ i = 3 ∨ i = 4) with rfl | rfl | rfl | rfl | rfl <;> rfl
variable {r k e : Nat} (hB : BA a) (hR : RM s a) (hk : k < 6) (hr : r < 8) (he : s (91 + 3 * r) = nI e) (he2 : e ≤ 200)
theorem e9_rule2 : r < 8 → s (91 + 3 * r) = nI e → f_X9_ruleOf (nI r) 2 s = some (nI e) := by
  intro hr he
  unfold f_X9_ruleOf
  rw [ql89, ql3, ql2, q_mul, q_add, q_add, qcI (by omega) (by omega), q_cl (by omega), show 89 + 3 * r + 2 = 91 + 3 * r by omega, he]
theorem e9_rule0 : r < 8 → f_X9_ruleOf (nI r) 0 s = some (s (89 + 3 * r)) := by
  intro hr
  unfold f_X9_ruleOf
  rw [ql89, ql3, ql0, q_mul, q_add, q_add, qcI (by omega) (by omega), q_cl (by omega)]
  rfl
theorem e9_rule1 : r < 8 → f_X9_ruleOf (nI r) 1 s = some (s (90 + 3 * r)) := by
  intro hr
  unfold f_X9_ruleOf
  rw [ql89, ql3, ql1, q_mul, q_add, q_add, qcI (by omega) (by omega), q_cl (by omega), show 89 + 3 * r + 1 = 90 + 3 * r by omega]
theorem e9_push {c q h n : Nat} {pi : Nat → Int32} (hB : BA a) (hR : RM s a) (hk : k < 6) (hr : r < 8) (he : s (91 + 3 * r) = nI e) (he2 : e ≤ 200) (hq : q < e) (hc : s (113 + q) = nI c) (hc2 : c < 10005) (hh : h < 200) :
    f_X9_holdsFor_L20 (nI r) (nI k) s (n + 1) (nI h) (nI q) pi = f_X9_holdsFor_L20 (nI r) (nI k) s n (nI (h + 1)) (nI (q + 1)) (upd pi h (nI (val (fact a k) c))) := by
  rw [f_X9_holdsFor_L20, e9_rule2 hr he, qb1, if_neg (nI_ge hq (by omega)), ql113, q_add, qcI (by omega) (by omega), q_cl (by omega), hc, qt1, ql10010, if_neg (nI_ge (by omega) (by omega)), ql10000]
  unfold val
  by_cases c1 : c < 10000
  · rw [if_neg (nI_ge (by omega) (by omega)), if_pos c1, qcI (by omega) (by omega), ql1, q_add, q_add, qt1, qt1, q_cl (by omega)]
  · rw [if_pos (nI_le (by omega) (by omega)), if_neg c1, pk_sub (by omega), e9_known hB hR hk (by omega), qb1, qcI (by omega) (by omega), ql1, q_add, q_add, qt1, qt1, q_cl (by omega)]
theorem e9_bin {c q h n : Nat} {pi : Nat → Int32} (hr : r < 8) (he : s (91 + 3 * r) = nI e) (he2 : e ≤ 200) (hq : q < e) (hc : s (113 + q) = nI c) (hc1 : 10010 ≤ c) (hc2 : c < 10015) (hh : h + 1 < 200) :
    f_X9_holdsFor_L20 (nI r) (nI k) s (n + 1) (nI (h + 2)) (nI q) pi = bd1 (f_X9_joined (nI c) (pi h) (pi (h + 1))) (fun x => f_X9_holdsFor_L20 (nI r) (nI k) s n (nI (h + 1)) (nI (q + 1)) (upd pi h x)) := by
  rw [f_X9_holdsFor_L20, e9_rule2 hr he, qb1, if_neg (nI_ge hq (by omega)), ql113, q_add, qcI (by omega) (by omega), q_cl (by omega), hc, qt1, ql10010, if_pos (nI_le (by omega) (by omega)), ql10015, if_neg (by rw [q_eq (by omega) (by omega)]; omega), pk_m1, qt1, ql1, show nI (h + 1) - nI 1 = nI h from nI_pred h]
  rw [qcI (by omega) (by omega), qcI (by omega) (by omega), q_cl (by omega), q_cl (by omega), q_add]
  congr 1
  funext x
  rw [qcI (by omega) (by omega), qt1]
theorem e9_not {q h n : Nat} {pi : Nat → Int32} (hr : r < 8) (he : s (91 + 3 * r) = nI e) (he2 : e ≤ 200) (hq : q < e) (hc : s (113 + q) = nI 10015) (hh : h < 200) :
    f_X9_holdsFor_L20 (nI r) (nI k) s (n + 1) (nI (h + 1)) (nI q) pi = f_X9_holdsFor_L20 (nI r) (nI k) s n (nI (h + 1)) (nI (q + 1)) (upd pi h (1 - pi h)) := by
  rw [f_X9_holdsFor_L20, e9_rule2 hr he, qb1, if_neg (nI_ge hq (by omega)), ql113, q_add, qcI (by omega) (by omega), q_cl (by omega), hc, qt1, ql10010, if_pos (nI_le (by omega) (by omega)), ql10015, if_pos rfl, ql1, show nI (h + 1) - nI 1 = nI h from nI_pred h]
  rw [qcI (by omega) (by omega), qt1, qcI (by omega) (by omega), q_cl (by omega), q_add, qt1]
theorem codes_app : ∀ S1 S2 : List RStp, codes (S1 ++ S2) = codes S1 ++ codes S2 := by
  intro S1 S2
  induction S1 with
  | nil => rfl
  | cons q t ih => show codeOf q ++ codes (t ++ S2) = (codeOf q ++ codes t) ++ codes S2; rw [ih, List.append_assoc]
theorem e9_holdsL {p : Nat} {S0 : List RStp} (hB : BA a) (hR : RM s a) (hk : k < 6) (hr : r < 8) (he : s (91 + 3 * r) = nI (p + (codes S0).length)) (he2 : p + (codes S0).length ≤ 200) (hS : ∀ i (h : i < (codes S0).length), s (113 + p + i) = nI (codes S0)[i]) :
    ∀ (S P : List RStp) (tr : List Bool) (pi : Nat → Int32) (fuel : Nat), S0 = P ++ S → okS S tr.length → tr.length ≤ 9 → prel pi tr → (codes S).length < fuel →
    ∃ pi', f_X9_holdsFor_L20 (nI r) (nI k) s fuel (nI tr.length) (nI (p + (codes P).length)) pi = some (if (evS (fact a k) S tr).headD false then 1 else 0, pi') := by
  intro S
  induction S with
  | nil =>
    intro P tr pi fuel hP ho ht hp hfu
    obtain ⟨n, rfl⟩ : ∃ n, fuel = n + 1 := ⟨fuel - 1, by omega⟩
    have hl : P = S0 := by rw [hP, List.append_nil]
    have ho : tr.length = 1 := ho
    subst hl
    rw [f_X9_holdsFor_L20, e9_rule2 hr he, qb1, if_pos (nI_le (Nat.le_refl _) (by omega))]
    unfold f_X9_holdsFor_b152
    rw [ho, if_neg (by decide)]
    match tr, ho, hp with
    | [b], _, hp =>
      rw [show pi 0 = _ from hp.1]
      cases b
      · exact ⟨_, rfl⟩
      · exact ⟨_, rfl⟩
  | cons x S ih =>
    intro P tr pi fuel hP ho ht hp hfu
    have hlen : (codes S0).length = (codes P).length + ((codeOf x).length + (codes S).length) := by
      rw [hP, codes_app, List.length_append]; show _ + (codeOf x ++ codes S).length = _; rw [List.length_append]
    have hfu : (codeOf x).length + (codes S).length < fuel := by rw [← List.length_append]; exact hfu
    have hcd : ∀ i c, (codeOf x)[i]? = some c → s (113 + (p + (codes P).length + i)) = nI c := by
      intro i c hi
      obtain ⟨hi1, hi2⟩ := List.getElem?_eq_some_iff.mp hi
      have h1 := hS ((codes P).length + i) (by omega)
      rw [show 113 + (p + (codes P).length + i) = 113 + p + ((codes P).length + i) by omega, h1]
      congr 1
      subst hP
      have : (codes (P ++ x :: S))[(codes P).length + i]? = some c := by
        rw [codes_app, List.getElem?_append_right (by omega), Nat.add_sub_cancel_left]
        show (codeOf x ++ codes S)[i]? = _
        rw [List.getElem?_append_left (by omega)]
        exact hi
      exact (List.getElem?_eq_some_iff.mp this).2
    obtain ⟨k1, k2, k3, k4⟩ := okS_step (f := fact a k) ho
    have hn : ∀ (pi' : Nat → Int32) (m : Nat), (codes S).length < m → (stp1 (fact a k) x tr).length ≤ 9 → prel pi' (stp1 (fact a k) x tr) → ∃ pi'', f_X9_holdsFor_L20 (nI r) (nI k) s m (nI (stp1 (fact a k) x tr).length) (nI (p + (codes P).length + (codeOf x).length)) pi' = some (if (evS (fact a k) (x :: S) tr).headD false then 1 else 0, pi'') := by
      intro pi' m h1 h2 h3
      have := ih (P ++ [x]) _ pi' m (by rw [hP, List.append_assoc]; rfl) k3 h2 h3 h1
      rw [codes_app, List.length_append, show codes [x] = codeOf x from List.append_nil _, ← Nat.add_assoc] at this
      exact this
    rcases k4 with ⟨c, d⟩ | ⟨c, d⟩ | ⟨c, d⟩ | ⟨c, d⟩
    · have hx : codeOf x = [10015] := by unfold codeOf; rw [if_neg (by omega), if_pos c]
      rw [hx] at hcd hfu hn hlen
      have s1 : s (113 + (p + (codes P).length)) = nI 10015 := hcd 0 _ rfl
      simp only [List.length_cons, List.length_nil] at hlen hfu hn
      rw [stp1_not c] at hn
      obtain ⟨n, rfl⟩ : ∃ n, fuel = n + 1 := ⟨fuel - 1, by omega⟩
      match tr, d, hp, ht, hn with
      | b :: t, d, hp, ht, hn =>
        rw [List.length_cons] at ht ⊢
        rw [e9_not hr he he2 (by omega) s1 (by omega), hp.1]
        refine hn _ n (by omega) (by simp; omega) ⟨?_, prel_upd _ (Nat.le_refl _) hp.2⟩
        show upd _ t.length _ t.length = _
        rw [upd_at]
        cases b
        · exact (by decide +kernel : (1 : Int32) - nI 0 = nI 1)
        · exact (by decide +kernel : (1 : Int32) - nI 1 = nI 0)
    · have hx : codeOf x = [10013] := by unfold codeOf; rw [if_neg (by omega), if_neg (by omega), if_pos c]
      rw [hx] at hcd hfu hn hlen
      have s1 : s (113 + (p + (codes P).length)) = nI 10013 := hcd 0 _ rfl
      simp only [List.length_cons, List.length_nil] at hlen hfu hn
      rw [stp1_and c] at hn
      obtain ⟨n, rfl⟩ : ∃ n, fuel = n + 1 := ⟨fuel - 1, by omega⟩
      match tr, d, hp, ht, hn with
      | b :: b2 :: t, d, hp, ht, hn =>
        rw [List.length_cons, List.length_cons] at ht ⊢
        obtain ⟨p1, p2, p3⟩ := hp
        rw [List.length_cons] at p1
        rw [e9_bin hr he he2 (by omega) s1 (by omega) (by omega) (by omega), p1, p2]
        have e : f_X9_joined (nI 10013) (nI (if b2 = true then 1 else 0)) (nI (if b = true then 1 else 0)) = some (nI (if (b2 && b) = true then 1 else 0)) := by cases b <;> cases b2 <;> decide +kernel
        rw [e, qb1]
        refine hn _ n (by omega) (by simp; omega) ⟨?_, prel_upd _ (Nat.le_refl _) p3⟩
        exact upd_at _ _ _
    · have hx : codeOf x = [10014] := by unfold codeOf; rw [if_neg (by omega), if_neg (by omega), if_neg (by omega)]
      rw [hx] at hcd hfu hn hlen
      have s1 : s (113 + (p + (codes P).length)) = nI 10014 := hcd 0 _ rfl
      simp only [List.length_cons, List.length_nil] at hlen hfu hn
      rw [stp1_or c] at hn
      obtain ⟨n, rfl⟩ : ∃ n, fuel = n + 1 := ⟨fuel - 1, by omega⟩
      match tr, d, hp, ht, hn with
      | b :: b2 :: t, d, hp, ht, hn =>
        rw [List.length_cons, List.length_cons] at ht ⊢
        obtain ⟨p1, p2, p3⟩ := hp
        rw [List.length_cons] at p1
        rw [e9_bin hr he he2 (by omega) s1 (by omega) (by omega) (by omega), p1, p2]
        have e : f_X9_joined (nI 10014) (nI (if b2 = true then 1 else 0)) (nI (if b = true then 1 else 0)) = some (nI (if (b2 || b) = true then 1 else 0)) := by cases b <;> cases b2 <;> decide +kernel
        rw [e, qb1]
        refine hn _ n (by omega) (by simp; omega) ⟨?_, prel_upd _ (Nat.le_refl _) p3⟩
        exact upd_at _ _ _
    · have hx : codeOf x = [x.2.1, x.2.2, 10006 + x.1] := by unfold codeOf; rw [if_pos (by omega)]
      rw [hx] at hcd hfu hn hlen
      obtain ⟨n, rfl⟩ : ∃ n, fuel = n + 1 + 1 + 1 := ⟨fuel - 3, by simp at hfu; omega⟩
      have v1 : val (fact a k) x.2.1 < 2 ^ 30 := by unfold val; split; omega; exact fact_lt hB hk _ (by omega)
      have v2 : val (fact a k) x.2.2 < 2 ^ 30 := by unfold val; split; omega; exact fact_lt hB hk _ (by omega)
      have s1 : s (113 + (p + (codes P).length)) = nI x.2.1 := hcd 0 _ rfl
      have s2 := hcd 1 _ rfl
      have s3 := hcd 2 _ rfl
      simp only [List.length_cons, List.length_nil] at hlen hfu hn
      rw [e9_push hB hR hk hr he he2 (by omega) s1 k1 (by omega), e9_push hB hR hk hr he he2 (by omega) s2 k2 (by omega), e9_bin hr he he2 (by omega) s3 (by omega) (by omega) (by omega), upd_ne _ _ (by omega), upd_at, upd_at]
      have key : ∀ z : Bool, stp1 (fact a k) x tr = z :: tr → f_X9_joined (nI (10006 + x.1)) (nI (val (fact a k) x.2.1)) (nI (val (fact a k) x.2.2)) = some (nI (if z = true then 1 else 0)) → ∃ pi', (bd1 (f_X9_joined (nI (10006 + x.1)) (nI (val (fact a k) x.2.1)) (nI (val (fact a k) x.2.2))) fun x_1 => f_X9_holdsFor_L20 (nI r) (nI k) s n (nI (tr.length + 1)) (nI (p + (codes P).length + 1 + 1 + 1)) (upd (upd (upd pi tr.length (nI (val (fact a k) x.2.1))) (tr.length + 1) (nI (val (fact a k) x.2.2))) tr.length x_1)) = some (if (evS (fact a k) (x :: S) tr).headD false = true then 1 else 0, pi') := by
        intro z e1 e2
        rw [e2, qb1]
        rw [e1] at hn
        exact hn _ n (by omega) (by rw [List.length_cons]; omega) ⟨upd_at _ _ _, prel_upd _ (Nat.le_refl _) (prel_upd _ (by omega) (prel_upd _ (Nat.le_refl _) hp))⟩
      rcases c with c | c | c
      · refine key _ (stp1_lt c) ?_
        unfold f_X9_joined
        rw [c, ql10010, if_pos rfl]
        simp (disch := omega) only [q_le]
        by_cases c7 : val (fact a k) x.2.1 < val (fact a k) x.2.2
        · rw [if_neg (by omega)]; simp [c7]; rfl
        · rw [if_pos (by omega)]; simp [c7]; rfl
      · refine key _ (stp1_eq c) ?_
        unfold f_X9_joined
        rw [c, if_neg (by decide), if_pos (by decide)]
        simp (disch := omega) only [q_eq]
        by_cases c7 : val (fact a k) x.2.1 = val (fact a k) x.2.2
        · rw [if_pos c7]; simp [c7]; rfl
        · rw [if_neg c7]; simp [c7]; rfl
      · refine key _ (stp1_gt c) ?_
        unfold f_X9_joined
        rw [c, if_neg (by decide), if_neg (by decide), if_pos (by decide)]
        simp (disch := omega) only [q_le]
        by_cases c7 : val (fact a k) x.2.2 < val (fact a k) x.2.1
        · rw [if_neg (by omega)]; simp [c7]; rfl
        · rw [if_pos (by omega)]; simp [c7]; rfl
theorem e9_holds {p : Nat} {S : List RStp} {pi : Nat → Int32} (hB : BA a) (hR : RM s a) (hk : k < 6) (hr : r < 8) (h0 : r = 0 → p = 0) (h1 : 0 < r → s (88 + 3 * r) = nI p) (he : s (91 + 3 * r) = nI (p + (codes S).length)) (he2 : p + (codes S).length ≤ 200) (hS : ∀ i (h : i < (codes S).length), s (113 + p + i) = nI (codes S)[i]) (hok : S = [] ∨ okS S 0) :
    ∃ pi', f_X9_holdsFor (nI r) (nI k) pi s = some (if holdsB (fact a k) S then 1 else 0, pi') := by
  have key : ∃ pi', f_X9_holdsFor_b18 (nI r) (nI k) pi s 0 (nI p) = some (if holdsB (fact a k) S then 1 else 0, pi') := by
    unfold f_X9_holdsFor_b18 holdsB
    cases S with
    | nil =>
      rw [f_X9_holdsFor_L20, e9_rule2 hr he, qb1, if_pos (nI_le (by simp [codes]) (by omega))]
      exact ⟨_, rfl⟩
    | cons x S =>
      have hok : okS (x :: S) 0 := hok.elim (fun z => by cases z) id
      exact e9_holdsL hB hR hk hr he he2 hS (x :: S) [] [] pi 1000 rfl hok (by decide) trivial (by omega)
  unfold f_X9_holdsFor
  rw [ql0]
  simp (disch := omega) only [q_eq]
  by_cases c : r = 0
  · rw [if_pos c]
    rw [h0 c] at key
    exact key
  · rw [if_neg c]
    unfold f_X9_ruleOf
    rw [ql89, ql1, ql2, ql3, pk_sub (by omega), q_mul, q_add, q_add, qcI (by omega) (by omega), q_cl (by omega), show 89 + 3 * (r - 1) + 2 = 88 + 3 * r by omega, h1 (by omega), qb1]
    exact key
theorem e9_willL (hB : BA a) (hR : RM s a) (hk : k < 6) : ∀ (RL : List RRul) (r p fuel : Nat) (pi : Nat → Int32), r + RL.length ≤ 8 → s 5 = nI (r + RL.length) → (r = 0 → p = 0) → (0 < r → s (88 + 3 * r) = nI p) → MRl s RL r p → okR RL → RL.length < fuel →
    ∃ pi', f_X9_willOf_L2 (nI k) s fuel (nI r) pi = some (nI (willL (fact a k) (a (35 + 5 * k)) RL), pi') := by
  intro RL
  induction RL with
  | nil =>
    intro r p fuel pi hr h5 h0 h1 hM hO hfu
    obtain ⟨n, rfl⟩ : ∃ n, fuel = n + 1 := ⟨fuel - 1, by omega⟩
    rw [f_X9_willOf_L2, h5, if_pos (nI_le (by simp) (by simp at hr ⊢; omega))]
    exact ⟨_, rfl⟩
  | cons x t ih =>
    intro r p fuel pi hr h5 h0 h1 hM hO hfu
    obtain ⟨n, rfl⟩ : ∃ n, fuel = n + 1 := ⟨fuel - 1, by omega⟩
    have b1 := hB.2.2.2.1 k hk
    obtain ⟨c1, c2, c3, c4, c5, c7⟩ := hM
    obtain ⟨o1, o2, o3⟩ := hO x List.mem_cons_self
    rw [List.length_cons] at hr hfu h5
    have hh := fun pi => e9_holds (pi := pi) hB hR hk (by omega) h0 h1 c3 c4 c5 o3
    have hn := fun pi => ih (r + 1) _ n pi (by omega) (by rw [h5]; congr 1; omega) (by omega) (fun _ => by rw [show 88 + 3 * (r + 1) = 91 + 3 * r by omega]; exact c3) c7 (fun y hy => hO y (List.mem_cons_of_mem _ hy)) (by omega)
    rw [f_X9_willOf_L2, h5, if_neg (nI_ge (by omega) (by omega)), e9_kind hR hk, qb1]
    rw [e9_rule0 (by omega), qb1, c1, e9_under _ (by omega) _ (by omega), qb1, ql1, q_add, qt1, willL_c, ← ql1, e9_rule1 (by omega), c2]
    by_cases u : under (a (35 + 5 * k)) x.1
    · obtain ⟨pi1, hh⟩ := hh pi
      rw [if_pos u, if_neg (by decide), hh, qb2, qt1]
      by_cases v : holdsB (fact a k) x.2.2 = true
      · rw [if_pos v, if_neg (by decide), if_pos ⟨u, v⟩, qb1]
        exact ⟨_, rfl⟩
      · rw [if_neg v, if_pos rfl, if_neg (fun z => v z.2)]
        exact hn _
    · rw [if_neg u, if_pos rfl, if_neg (fun z => u z.1)]
      exact hn _
variable {RL : List RRul}
theorem e9_will {pi : Nat → Int32} (hB : BA a) (hR : RM s a) (hM : MRl s RL 0 0) (hO : okR RL) (h8 : RL.length ≤ 8) (h5 : a 5 = RL.length) (hk : k < 6) : ∃ pi', f_X9_willOf (nI k) pi s = some (nI (will a RL k), pi') :=
  e9_willL hB hR hk RL 0 0 1000 pi (by omega) (by rw [hR 5 (by decide) (by decide) (by decide), h5, Nat.zero_add]) (fun _ => rfl) (fun z => absurd z (by decide)) hM hO (by omega)
theorem e9_mayEnter {pi : Nat → Int32} (hB : BA a) (hR : RM s a) (hM : MRl s RL 0 0) (hO : okR RL) (h8 : RL.length ≤ 8) (h5 : a 5 = RL.length) (hk : k < 6) : ∃ pi', f_X9_mayEnter (nI k) pi s = some (if may a RL k then 1 else 0, pi') := by
  obtain ⟨pi1, hw⟩ := e9_will (pi := pi) hB hR hM hO h8 h5 hk
  have hwl := @will_le a RL k hO
  have b1 := hB.2.2.2.1 k hk
  unfold f_X9_mayEnter may
  rw [hw, qb2, e9_pays hB hR hk, qb1, ql0]
  unfold pay
  simp (disch := omega) only [q_eq]
  by_cases c2 : will a RL k = 0
  · rw [if_pos c2]
    by_cases c : inR a k (a (37 + 5 * k))
    · rw [if_pos c, if_neg (nI_ge (by omega) (by omega))]
      rw [show decide (inR a k (a (37 + 5 * k)) ∧ will a RL k = 0) = true from decide_eq_true ⟨c, c2⟩]
      exact ⟨_, rfl⟩
    · rw [if_neg c, if_pos (nI_le (Nat.le_refl _) (by omega))]
      rw [show decide (inR a k (a (37 + 5 * k)) ∧ will a RL k = 0) = false from decide_eq_false (fun z => c z.1)]
      exact ⟨_, rfl⟩
  · rw [if_neg c2]
    rw [show decide (inR a k (a (37 + 5 * k)) ∧ will a RL k = 0) = false from decide_eq_false (fun z => c2 z.2)]
    exact ⟨_, rfl⟩
end EN
