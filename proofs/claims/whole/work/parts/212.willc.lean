/-! ===== E: the class reads its rules ===== -/
/-- truths as bits, the latest lowest -/
def tnum : List Bool → Nat
  | [] => 0
  | b :: t => (if b then 1 else 0) + 2 * tnum t
theorem tnum_c (b : Bool) (t : List Bool) : tnum (b :: t) = (if b then 1 else 0) + 2 * tnum t := rfl
theorem tnum_lt : ∀ st : List Bool, tnum st < 2 ^ st.length := by
  intro st
  induction st with
  | nil => exact Nat.one_pos
  | cons b t ih =>
    unfold tnum
    rw [List.length_cons, Nat.pow_succ]
    split <;> omega
theorem tw_not : ∀ t, t < 512 → nI t ^^^ nI 1 = nI (t / 2 * 2 + (1 - t % 2)) := by decide +kernel
theorem tw_and : ∀ t, t < 512 → (nI t >>> (nI 1 &&& 31)) &&& (nI t ||| -nI 2) = nI (if t % 2 = 1 then t / 2 else t / 4 * 2) := by decide +kernel
theorem tw_or : ∀ t, t < 512 → (nI t >>> (nI 1 &&& 31)) ||| (nI t &&& nI 1) = nI (if t % 2 = 1 then t / 4 * 2 + 1 else t / 2) := by decide +kernel
theorem tw_pu : ∀ t, t < 512 → (nI t <<< (nI 1 &&& 31)) ||| nI 1 = nI (2 * t + 1) ∧ (nI t <<< (nI 1 &&& 31)) ||| nI 0 = nI (2 * t) := by decide +kernel
theorem tn_hd (st : List Bool) : tnum st % 2 = (if st.headD false then 1 else 0) := by
  cases st with
  | nil => rfl
  | cons b t => unfold tnum; cases b <;> simp <;> omega
theorem tn_tl (st : List Bool) : tnum st / 2 = tnum st.tail := by
  cases st with
  | nil => rfl
  | cons b t => show ((if b = true then 1 else 0) + 2 * tnum t) / 2 = tnum t; cases b <;> simp <;> omega
theorem e8_under : ∀ kd, kd < 6 → ∀ f, f < 6 → f_X8_isOrUnder (nI kd) (nI f) = some (if under kd f then 1 else 0) := by decide +kernel
section EH
variable {kd de be st le ri fa : Nat → Int32} {f : Nat → Nat}
theorem e8_holdsL {r q : Nat} {S0 : List RStp} (hr : r < 8) (hb : be (r + 1) = nI (q + S0.length)) (hq : q + S0.length ≤ 200) (hS : ∀ i (h : i < S0.length), st (q + i) = nI (S0[i]).1 ∧ le (q + i) = nI (S0[i]).2.1 ∧ ri (q + i) = nI (S0[i]).2.2) (hf : ∀ i, i < 5 → fa i = nI (f i)) (hfb : ∀ i, i < 5 → f i < 2 ^ 30) :
    ∀ (S : List RStp) (P : List RStp) (tr : List Bool) (fuel : Nat), S0 = P ++ S → okS S tr.length → tr.length ≤ 9 → S.length < fuel →
    f_X5_holds_L30 (nI r) be fa le ri st fuel (nI (tnum tr)) (nI (q + P.length)) = some (if (evS f S tr).headD false then 1 else 0) := by
  intro S
  induction S with
  | nil =>
    intro P tr fuel hP ho ht hfu
    obtain ⟨n, rfl⟩ : ∃ n, fuel = n + 1 := ⟨fuel - 1, by omega⟩
    have hl : P.length = S0.length := by rw [hP, List.append_nil]
    have hlt := tnum_lt tr
    have ho : tr.length = 1 := ho
    rw [ho] at hlt
    rw [f_X5_holds_L30, ql1, q_add, qcI (by omega) (by omega), q_cl (by omega), hb, hl, if_pos (nI_le (Nat.le_refl _) (by omega))]
    unfold f_X5_holds_b253
    rw [ql1, q_and1 (by omega)]
    rw [tn_hd]
    show _ = some (if tr.headD false = true then 1 else 0)
    cases tr.headD false <;> rfl
  | cons x S ih =>
    intro P tr fuel hP ho ht hfu
    obtain ⟨n, rfl⟩ : ∃ n, fuel = n + 1 := ⟨fuel - 1, by omega⟩
    have hl : P.length + (S.length + 1) = S0.length := by rw [hP, List.length_append, List.length_cons]
    have hx : S0[P.length]'(by omega) = x := by
      subst hP
      simp
    obtain ⟨h1, h2, h3⟩ := hS P.length (by omega)
    rw [hx] at h1 h2 h3
    have hlt := tnum_lt tr
    have hp2 : 2 ^ tr.length ≤ 2 ^ 9 := Nat.pow_le_pow_right (by decide) ht
    have ht5 : tnum tr < 512 := by omega
    have hn : ∀ tr' : List Bool, tr' = stp1 f x tr → okS S tr'.length → tr'.length ≤ 9 → f_X5_holds_L30 (nI r) be fa le ri st n (nI (tnum tr')) (nI (q + P.length + 1)) = some (if (evS f (x :: S) tr).headD false then 1 else 0) := by
      intro tr' e1 e2 e3
      have := ih (P ++ [x]) tr' n (by rw [hP, List.append_assoc]; rfl) e2 e3 (by rw [List.length_cons] at hfu; omega)
      rw [List.length_append, List.length_singleton, ← Nat.add_assoc] at this
      rw [this, e1]
      rfl
    rw [f_X5_holds_L30]
    simp only [ql1, ql0, ql10000, q_add]
    rw [qcI (by omega) (by omega), q_cl (by omega), hb, if_neg (nI_ge (by omega) (by omega)), qcI (by omega) (by omega), q_cl (by omega), h2]
    have hval : ∀ (y : Nat) (Z : Int32 → Option Int32), y < 10005 → (if nI 10000 ≤ nI y then chkI (nI (q + P.length)) 200 (chkI (nI y - nI 10000) 5 (Z (fa (nI y - nI 10000).toNatClampNeg))) else chkI (nI (q + P.length)) 200 (Z (nI y))) = Z (nI (val f y)) := by
      intro y Z hy
      unfold val
      by_cases c : y < 10000
      · rw [if_neg (nI_ge (by omega) (by omega)), qcI (by omega) (by omega), if_pos c]
      · rw [if_pos (nI_le (by omega) (by omega)), qcI (by omega) (by omega), pk_sub (by omega), qcI (by omega) (by omega), q_cl (by omega), hf _ (by omega), if_neg c]
    obtain ⟨k1, k2, k3, k4⟩ := okS_step (f := f) ho
    refine (hval x.2.1 (fun v => f_X5_holds_b78 (f_X5_holds_L30 (nI r) be fa le ri st n) fa ri st (nI (tnum tr)) (nI (q + P.length)) v) k1).trans ?_
    show f_X5_holds_b78 _ _ _ _ _ _ _ = _
    unfold f_X5_holds_b78
    simp only [ql10000]
    rw [qcI (by omega) (by omega), q_cl (by omega), h3]
    refine (hval x.2.2 (fun v => f_X5_holds_b116 (f_X5_holds_L30 (nI r) be fa le ri st n) st (nI (tnum tr)) (nI (q + P.length)) (nI (val f x.2.1)) v) k2).trans ?_
    show f_X5_holds_b116 _ _ _ _ _ _ = _
    unfold f_X5_holds_b116
    rw [qcI (by omega) (by omega), q_cl (by omega), h1]
    simp only [ql1, ql2, ql3, ql4, ql5, ql0, q_add, qt1]
    have v1 : val f x.2.1 < 2 ^ 30 := by unfold val; split; omega; exact hfb _ (by omega)
    have v2 : val f x.2.2 < 2 ^ 30 := by unfold val; split; omega; exact hfb _ (by omega)
    have g3 : (stp1 f x tr).length ≤ 9 := by
      rcases k4 with ⟨c, d⟩ | ⟨c, d⟩ | ⟨c, d⟩ | ⟨c, d⟩
      · rw [stp1_len (Or.inr (by omega)) (by omega) (by omega)]; (repeat' split) <;> omega
      · rw [stp1_len (Or.inr (by omega)) (by omega) (by omega)]; (repeat' split) <;> omega
      · rw [stp1_len (Or.inr (by omega)) (by omega) (by omega)]; (repeat' split) <;> omega
      · rw [stp1_len (Or.inl d) (by omega) (by omega)]; (repeat' split) <;> omega
    have hn := hn _ rfl k3 g3
    have m0 := tn_hd tr
    have m1 := tn_tl tr
    have m2 := tn_hd tr.tail
    have m3 := tn_tl tr.tail
    rw [tw_not _ ht5, tw_and _ ht5, tw_or _ ht5, (tw_pu _ ht5).1, (tw_pu _ ht5).2]
    rcases k4 with ⟨c, d⟩ | ⟨c, d⟩ | ⟨c, d⟩ | ⟨c, d⟩
    · rw [c, if_neg (by decide), if_neg (by decide), if_pos rfl]
      have e : tnum tr / 2 * 2 + (1 - tnum tr % 2) = tnum (stp1 f x tr) := by
        rw [stp1_not c, tnum_c, m1, m0]
        cases tr.headD false <;> simp <;> omega
      rw [e]; exact hn
    · rw [c, if_neg (by decide), if_pos rfl]
      have e : (if tnum tr % 2 = 1 then tnum tr / 2 else tnum tr / 4 * 2) = tnum (stp1 f x tr) := by
        have m4 : tnum tr / 4 = tnum tr.tail.tail := by omega
        have m5 : tnum tr / 2 = tnum tr.tail.tail * 2 + tnum tr.tail % 2 := by omega
        rw [stp1_and c, tnum_c, m4, m5, m2, m0]
        cases tr.headD false <;> cases tr.tail.headD false <;> simp <;> omega
      rw [e]; exact hn
    · rw [c, if_pos rfl]
      have e : (if tnum tr % 2 = 1 then tnum tr / 4 * 2 + 1 else tnum tr / 2) = tnum (stp1 f x tr) := by
        have m4 : tnum tr / 4 = tnum tr.tail.tail := by omega
        have m5 : tnum tr / 2 = tnum tr.tail.tail * 2 + tnum tr.tail % 2 := by omega
        rw [stp1_or c, tnum_c, m4, m5, m2, m0]
        cases tr.headD false <;> cases tr.tail.headD false <;> simp <;> omega
      rw [e]; exact hn
    · rw [if_neg (by rw [q_eq (by omega) (by omega)]; omega), if_neg (by rw [q_eq (by omega) (by omega)]; omega), if_neg (by rw [q_eq (by omega) (by omega)]; omega)]
      simp (disch := omega) only [q_eq, q_le]
      rcases c with c | c | c
      · rw [stp1_lt c, tnum_c] at hn
        rw [if_pos c]
        by_cases c7 : val f x.2.1 < val f x.2.2
        · rw [if_neg (by omega)]; refine Eq.trans ?_ hn; congr 2; simp [c7]; omega
        · rw [if_pos (by omega)]; refine Eq.trans ?_ hn; congr 2; simp [c7]
      · rw [stp1_eq c, tnum_c] at hn
        rw [if_neg (by omega), if_pos c]
        by_cases c7 : val f x.2.1 = val f x.2.2
        · rw [if_pos c7]; refine Eq.trans ?_ hn; congr 2; simp [c7]; omega
        · rw [if_neg c7]; refine Eq.trans ?_ hn; congr 2; simp [c7]
      · rw [stp1_gt c, tnum_c] at hn
        rw [if_neg (by omega), if_neg (by omega)]
        by_cases c7 : val f x.2.2 < val f x.2.1
        · rw [if_neg (by omega)]; refine Eq.trans ?_ hn; congr 2; simp [c7]; omega
        · rw [if_pos (by omega)]; refine Eq.trans ?_ hn; congr 2; simp [c7]
theorem e8_holds {r q : Nat} {S : List RStp} (hr : r < 8) (hb0 : be r = nI q) (hb : be (r + 1) = nI (q + S.length)) (hq : q + S.length ≤ 200) (hS : ∀ i (h : i < S.length), st (q + i) = nI (S[i]).1 ∧ le (q + i) = nI (S[i]).2.1 ∧ ri (q + i) = nI (S[i]).2.2) (hf : ∀ i, i < 5 → fa i = nI (f i)) (hfb : ∀ i, i < 5 → f i < 2 ^ 30) (hok : S = [] ∨ okS S 0) :
    f_X5_holds (nI r) be fa le ri st = some (if holdsB f S then 1 else 0) := by
  unfold f_X5_holds f_X5_holds_b22
  rw [ql1, q_add]
  simp (disch := omega) only [qcI, q_cl, hb0, hb, qt1, q_eq]
  unfold holdsB
  cases S with
  | nil =>
    simp only [List.length_nil, Nat.add_zero] at hb hq
    rw [List.length_nil, Nat.add_zero, if_pos rfl, f_X5_holds_L30, ql1, q_add, qcI (by omega) (by omega), q_cl (by omega), hb, if_pos (nI_le (Nat.le_refl _) (by omega))]
    rfl
  | cons x S =>
    have hok : okS (x :: S) 0 := hok.elim (fun z => by cases z) id
    rw [if_neg (by rw [List.length_cons]; omega)]
    have := e8_holdsL hr hb hq hS hf hfb (x :: S) [] [] 1000 rfl hok (by decide) (by omega)
    exact this
theorem e8_willL {tr : Nat → Int32} {k kk : Nat} (hk : k < 6) (hkk : kk < 6) {kds : Nat → Int32} (hkd : kds k = nI kk) (hf : ∀ i, i < 5 → fa i = nI (f i)) (hfb : ∀ i, i < 5 → f i < 2 ^ 30) :
    ∀ (RL : List RRul) (r q fuel : Nat), r + RL.length ≤ 8 → CRl kd de be st le ri RL r q → okR RL → RL.length < fuel →
    f_X3_will_L36 (nI k) kds (nI (r + RL.length)) be de kd le ri st fuel (nI r) fa = some (nI (willL f kk RL), fa) := by
  intro RL
  induction RL with
  | nil =>
    intro r q fuel hr hC hO hfu
    obtain ⟨n, rfl⟩ : ∃ n, fuel = n + 1 := ⟨fuel - 1, by omega⟩
    rw [f_X3_will_L36, if_pos (nI_le (by simp) (by simp at hr ⊢; omega))]
    rfl
  | cons x t ih =>
    intro r q fuel hr hC hO hfu
    obtain ⟨n, rfl⟩ : ∃ n, fuel = n + 1 := ⟨fuel - 1, by omega⟩
    obtain ⟨c1, c2, c3, c4, c5, c6, c7⟩ := hC
    obtain ⟨o1, o2, o3⟩ := hO x List.mem_cons_self
    rw [List.length_cons] at hr hfu ⊢
    have hh := e8_holds (by omega) c3 c4 c5 c6 hf hfb o3
    have hn := ih (r + 1) _ n (by omega) c7 (fun y hy => hO y (List.mem_cons_of_mem _ hy)) (by omega)
    rw [show r + 1 + t.length = r + (t.length + 1) by omega] at hn
    rw [f_X3_will_L36, if_neg (nI_ge (by omega) (by omega)), qcI (by omega) (by omega), q_cl (by omega), hkd, qcI (by omega) (by omega), q_cl (by omega), c1, e8_under _ hkk _ (by omega), qb1, ql1, q_add, qt1, hn]
    rw [willL_c]
    by_cases u : under kk x.1
    · rw [if_pos u, if_neg (by decide), hh, qb1]
      by_cases v : holdsB f x.2.2 = true
      · rw [if_pos v, if_neg (by decide), qcI (by omega) (by omega), if_pos ⟨u, v⟩, c2]
      · rw [if_neg v, if_pos rfl, if_neg (fun z => v z.2)]
    · rw [if_neg u, if_pos rfl, if_neg (fun z => u z.1)]
theorem fact_lt {a : Nat → Nat} (hB : BA a) {k : Nat} (hk : k < 6) : ∀ i, i < 5 → fact a k i < 2 ^ 30 := by
  have b1 := hB.2.2.2.1 k hk
  have b2 := hB.2.1
  have b3 := hB.2.2.1
  have b4 : lightN a ≤ 15 := lightW_le hB (a 0)
  intro i hi
  unfold fact
  repeat' split
  all_goals omega
variable {a : Nat → Nat} {cnt wa ho : Int32} {kds tr ln li cu bu of : Nat → Int32} {RL : List RRul}
theorem e8_will (hB : BA a) (hE : CE cnt kds tr ln li cu bu a) (hS : CS wa ho of a) (hC : CRl kd de be st le ri RL 0 0) (hO : okR RL) (h8 : RL.length ≤ 8) {k : Nat} (hk : k < 6) :
    ∃ fa', f_X3_will (nI k) wa of kds li (nI RL.length) be de fa kd le ri st tr = some (nI (will a RL k), fa') := by
  obtain ⟨rfl, h1, h2, h3⟩ := hE
  obtain ⟨rfl, rfl, h4⟩ := hS
  have b1 := hB.2.2.2.1 k hk
  have b2 := hB.2.1
  have b3 := hB.2.2.1
  have b4 : lightN a ≤ 15 := lightW_le hB (a 0)
  unfold f_X3_will f_X5_learn
  rw [qcI (by omega) (by omega), qcI (by omega) (by omega), e8_lightAt h2 (by omega), qb1, qb1, q_cl (by omega), h4 k hk, (h1 k hk).2.1]
  have hfa : ∀ i, i < 5 → upd (upd (upd (upd (upd fa 0 (nI (a 0))) 1 (nI (a (36 + 5 * k)))) 2 (nI (a (37 + 5 * k)))) 3 (nI (lightW a (a 0)) >>> ((2 : Int32) &&& 31))) 4 (nI k) i = nI (fact a k i) := by
    intro i hi
    have e : nI (lightW a (a 0)) >>> ((2 : Int32) &&& 31) = nI (lightN a / 4) := by
      have := @q_shr (lightN a) 2 (by omega) (by decide)
      exact this
    rw [e]
    rcases (by omega : i = 0 ∨ i = 1 ∨ i = 2 ∨ i = 3 ∨ i = 4) with rfl | rfl | rfl | rfl | rfl <;> rfl
  have := @e8_willL kd de be st le ri _ (fact a k) tr k (a (35 + 5 * k)) hk (by omega) kds (h1 k hk).1 hfa (fact_lt hB hk) RL 0 0 1000 (by omega) hC hO (by omega)
  rw [Nat.zero_add] at this
  exact ⟨_, this⟩
theorem willL_le {f : Nat → Nat} {kk : Nat} : ∀ RL : List RRul, okR RL → willL f kk RL ≤ 2 := by
  intro RL
  induction RL with
  | nil => intro _; exact Nat.zero_le _
  | cons x t ih =>
    intro hO
    rw [willL_c]
    split
    · exact (hO x List.mem_cons_self).2.1
    · exact ih (fun y hy => hO y (List.mem_cons_of_mem _ hy))
theorem will_le {k : Nat} (hO : okR RL) : will a RL k ≤ 2 := willL_le RL hO
theorem e8_mayEnter (hB : BA a) (hE : CE cnt kds tr ln li cu bu a) (hS : CS wa ho of a) (hC : CRl kd de be st le ri RL 0 0) (hO : okR RL) (h8 : RL.length ≤ 8) {k : Nat} (hk : k < 6) :
    ∃ fa', f_X3_mayEnter (nI k) wa ho of bu kds ln li (nI RL.length) be de fa kd le ri st tr = some (if may a RL k then 1 else 0, fa') := by
  have b1 := hB.2.2.2.1 k hk
  obtain ⟨fa1, hw⟩ := e8_will (fa := fa) hB hE hS hC hO h8 hk
  have hr := e8_inReach hB hE hS hk b1.2.2.1
  have hwl := @will_le a RL k hO
  unfold f_X3_mayEnter may
  rw [qcI (by omega) (by omega), q_cl (by omega), (hE.2.1 k hk).2.1, hr, qb1, hw, qb2]
  by_cases c : inR a k (a (37 + 5 * k))
  · rw [if_pos c, if_neg (by decide), ql0]
    simp (disch := omega) only [q_eq]
    by_cases c2 : will a RL k = 0
    · exact ⟨fa1, by simp [c, c2]⟩
    · exact ⟨fa1, by simp [c2]⟩
  · rw [if_neg c, if_pos rfl]
    exact ⟨fa, by simp [c]⟩
end EH
