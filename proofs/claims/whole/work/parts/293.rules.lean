/-! ===== E: rules ===== -/
def rdL : List RRul → Nat → List Nat
  | [], _ => []
  | x :: t, p => [x.1, x.2.1, p + (codes x.2.2).length] ++ rdL t (p + (codes x.2.2).length)
def coL : List RRul → List Nat
  | [] => []
  | x :: t => codes x.2.2 ++ coL t
theorem rdL_app (x : RRul) : ∀ (L : List RRul) (p : Nat), rdL (L ++ [x]) p = rdL L p ++ [x.1, x.2.1, p + totC L + (codes x.2.2).length] := by
  intro L
  induction L with
  | nil => intro p; rfl
  | cons y t ih =>
    intro p
    rw [List.cons_append, rdL, rdL, ih, List.append_assoc, show totC (y :: t) = (codes y.2.2).length + totC t from rfl, ← Nat.add_assoc p]
theorem coL_app (x : RRul) : ∀ L : List RRul, coL (L ++ [x]) = coL L ++ codes x.2.2 := by
  intro L
  induction L with
  | nil => exact List.append_nil _
  | cons y t ih => rw [List.cons_append, coL, coL, ih, List.append_assoc]
theorem rdL_len : ∀ (L : List RRul) (p : Nat), (rdL L p).length = 3 * L.length := by
  intro L
  induction L with
  | nil => intro p; rfl
  | cons y t ih =>
    intro p
    rw [rdL, List.length_append, ih]
    show 3 + 3 * t.length = 3 * (t.length + 1)
    omega
theorem coL_len : ∀ L : List RRul, (coL L).length = totC L := by
  intro L
  induction L with
  | nil => rfl
  | cons y t ih => rw [coL, List.length_append, ih]; rfl
theorem tot_le : ∀ L : List RRul, tot L ≤ totC L := by
  have one : ∀ S : List RStp, S.length ≤ (codes S).length := by
    intro S
    induction S with
    | nil => exact Nat.le_refl _
    | cons q t ih =>
      rw [codes, List.length_append, List.length_cons]
      have : 1 ≤ (codeOf q).length := by
        unfold codeOf
        split
        · show 1 ≤ 3
          decide
        · split
          · decide
          · split <;> decide
      omega
  intro L
  induction L with
  | nil => exact Nat.le_refl _
  | cons x t ih =>
    unfold tot totC
    have := one x.2.2
    omega
theorem MRl_of {s : Nat → Int32} : ∀ (L : List RRul) (r p : Nat), (∀ i (h : i < (rdL L p).length), s (89 + 3 * r + i) = nI (rdL L p)[i]) → (∀ i (h : i < (coL L).length), s (113 + p + i) = nI (coL L)[i]) → p + totC L ≤ 200 → MRl s L r p := by
  intro L
  induction L with
  | nil => intro r p _ _ _; trivial
  | cons x t ih =>
    intro r p h1 h2 h3
    unfold totC at h3
    have lr : (rdL (x :: t) p).length = 3 * t.length + 3 := by rw [rdL_len, List.length_cons]; omega
    have lc : (coL (x :: t)).length = (codes x.2.2).length + totC t := by rw [coL, List.length_append, coL_len]
    refine ⟨h1 0 (by omega), ?_, ?_, by omega, fun i hi => ?_, ih (r + 1) _ (fun i hi => ?_) (fun i hi => ?_) (by omega)⟩
    · rw [show 90 + 3 * r = 89 + 3 * r + 1 by omega]; exact h1 1 (by omega)
    · rw [show 91 + 3 * r = 89 + 3 * r + 2 by omega]; exact h1 2 (by omega)
    · have := h2 i (by omega)
      simp only [coL] at this
      rw [List.getElem_append_left hi] at this
      exact this
    · rw [rdL_len] at hi
      have := h1 (i + 3) (by omega)
      rw [show 89 + 3 * (r + 1) + i = 89 + 3 * r + (i + 3) by omega]
      exact this
    · rw [coL_len] at hi
      have := h2 ((codes x.2.2).length + i) (by omega)
      simp only [coL] at this
      rw [List.getElem_append_right (by omega)] at this
      simp only [Nat.add_sub_cancel_left] at this
      rw [show 113 + (p + (codes x.2.2).length) + i = 113 + p + ((codes x.2.2).length + i) by omega]
      exact this
section EM10
variable {tp le s : Nat → Int32} {t : Nat → Nat} {n : Nat}
theorem e9_rulesL (hn : n ≤ 200) (ht : ∀ k, k < n → tp k = nI (t k) ∧ t k < 256) (hl : InL le) {co0 rd0 : Nat → Int32} : ∀ (d m : Nat) (RL : List RRul) (p : Nat) (a b k v op : Int32) (co rd : Nat → Int32), p ≤ n → n < p + d → d ≤ m → RL.length ≤ 8 → totC RL ≤ p → RS t n p a b k v → LY co co0 0 (coL RL) → LY rd rd0 0 (rdL RL 0) → (∀ e, gRules t n d RL p = .error e → ∃ z1 z2 z3 z4 z5 z6 z7, f_X9_rules_L18 (nI n) le s tp m (nI RL.length) 1 a b k v op (nI (totC RL)) co rd = some (-100 - nI e, 0, z1, nI e, z2, z3, z4, z5, z6, z7, s)) ∧ ∀ RL', gRules t n d RL p = .ok RL' → ∃ z1 z2 z3 z4 z5 co' rd', f_X9_rules_L18 (nI n) le s tp m (nI RL.length) 1 a b k v op (nI (totC RL)) co rd = f_X9_rules_b42 s (nI RL'.length) 1 z1 z2 z3 z4 z5 (nI (totC RL')) co' rd' ∧ LY co' co0 0 (coL RL') ∧ LY rd' rd0 0 (rdL RL' 0) := by
  intro d
  induction d with
  | zero => intro m RL p a b k v op co rd hp h1; omega
  | succ d ih =>
    intro m RL p a b k v op co rd hp h1 h2 h8 h3 h hc hr
    obtain ⟨m, rfl⟩ : ∃ x, m = x + 1 := ⟨m - 1, by omega⟩
    obtain ⟨l1, l2⟩ := tk_lt ht hp
    obtain ⟨-, -, -, -, -, -, -, -, -, -, te, -⟩ := t9_tab _ l1 l2
    rw [f_X9_rules_L18, gRules, if_neg n10]
    by_cases c : tkT t n p = 19
    · rw [if_pos (show k = -1 by rw [h.2.2.1]; exact te.mpr c), if_pos c]
      exact ⟨fun e he => (by injection he), fun RL' he => (by injection he with he; subst he; exact ⟨a, b, k, v, op, co, rd, rfl, hc, hr⟩)⟩
    · have w1 := tkN_gt ht hp c
      have m1 := tkN_le ht hp
      rw [if_neg (show ¬ k = -1 by rw [h.2.2.1]; exact fun z => c (te.mp z)), if_neg c]
      have hX := e9_rule hn ht hl hp (op := op) (g0 := co) (h0 := rd) h h8 h3 c
      have hR := gRule_ok (t := t) (r := RL.length) (fun k hk => (ht k hk).2) hp
      match ex : gRule t n RL.length p with
      | .error e =>
        rw [ex] at hX
        obtain ⟨y1, y2, y3, y4, y5, y6, y7, er⟩ := hX.1 e rfl
        obtain ⟨m, rfl⟩ : ∃ x, m = x + 1 := ⟨m - 1, by omega⟩
        rw [er, qb9, show nI RL.length + 1 = nI (RL.length + 1) from q_add _ 1, qt1, f_X9_rules_L18, if_pos rfl]
        unfold f_X9_rules_b42
        rw [if_pos rfl]
        exact ⟨fun e' he => (by injection he with he; subst he; exact ⟨_, _, _, _, _, _, _, rfl⟩), fun RL' he => (by injection he)⟩
      | .ok (x, q) =>
        have hlen := gRule_len (t := t) (fun k hk => (ht k hk).2) ex
        rw [ex] at hX hR
        obtain ⟨y1, y2, y3, y4, y5, y6, y7, er, h5, h6, h7⟩ := hX.2 x q rfl
        obtain ⟨k1, k2, -, -, -⟩ := hR.2 x q rfl
        rw [er, qb9, show nI RL.length + 1 = nI (RL.length + 1) from q_add _ 1, qt1]
        have el : (RL ++ [x]).length = RL.length + 1 := by rw [List.length_append]; rfl
        have ec : totC (RL ++ [x]) = totC RL + (codes x.2.2).length := totC_app RL [x]
        have := ih m (RL ++ [x]) q y1 y2 y3 y4 y5 y6 y7 k2 (by omega) (by omega) (by omega) (by omega) h5 (by
          rw [coL_app]
          refine LY_app hc ?_
          rw [coL_len, Nat.zero_add]; exact h6) (by
          rw [rdL_app]
          refine LY_app hr ?_
          rw [rdL_len, Nat.zero_add, Nat.zero_add]; exact h7)
        rw [el, ec] at this
        exact this
theorem e9_rules (hn : n ≤ 200) (ht : ∀ k, k < n → tp k = nI (t k) ∧ t k < 256) (hl : InL le) (val op : Int32) (co rd : Nat → Int32) : (∀ e, gRules t n (n + 1) [] 0 = .error e → ∃ z1 z2 z3 z4 z5 z6 z7, f_X9_rules (nI n) val op co le rd s tp = some (-100 - nI e, 0, z1, nI e, z2, z3, z4, z5, z6, z7, s)) ∧ ∀ RL, gRules t n (n + 1) [] 0 = .ok RL → ∃ z1 z2 z3 z4 z5 z6 z7 z8 s', f_X9_rules (nI n) val op co le rd s tp = some (nI RL.length, 0, z1, z2, z3, z4, z5, z6, z7, z8, s') ∧ s' 5 = nI RL.length ∧ (∀ j, j < 89 → j ≠ 5 → s' j = s j) ∧ MRl s' RL 0 0 := by
  obtain ⟨a, b, k, v, e1, h1⟩ := e9_nx hn ht hl (Nat.zero_le n) val
  have e1' : f_X9_next (nI n) 0 val le tp = _ := e1
  have hok := gRules_ok (t := t) (fun k hk => (ht k hk).2) (n + 1) [] 0 (Nat.zero_le n) (Nat.le_refl _) (fun r hr => absurd hr (by simp)) (by decide)
  have hL := e9_rulesL (s := s) hn ht hl (co0 := co) (rd0 := rd) (n + 1) 1000 [] 0 a b k v op co rd (Nat.zero_le n) (by omega) (by omega) (by decide) (Nat.le_refl _) h1 (LY_nil _ _) (LY_nil _ _)
  unfold f_X9_rules
  rw [e1', qb4]
  refine ⟨hL.1, fun RL he => ?_⟩
  obtain ⟨a, b, k, v, op, co', rd', e2, h2, h3⟩ := hL.2 RL he
  have e2' : f_X9_rules_L18 (nI n) le s tp 1000 0 1 _ _ _ _ _ 0 co rd = _ := e2
  obtain ⟨-, o8, oc⟩ := hok.2 RL he
  rw [e2']
  unfold f_X9_rules_b42
  rw [if_neg n10]
  have loopB : ∀ (d i m : Nat) (g : Nat → Int32), i + d = totC RL → d < m → ∃ g', f_X9_rules_L98 m (nI RL.length) (nI i) 0 a b k v op (nI (totC RL)) co' rd' g = some (nI RL.length, 0, a, b, k, v, op, nI (totC RL), co', rd', g') ∧ ∀ j, g' j = if 113 + i ≤ j ∧ j < 113 + totC RL then co' (j - 113) else g j := by
    intro d
    induction d with
    | zero =>
      intro i m g hi hm
      obtain ⟨m, rfl⟩ : ∃ x, m = x + 1 := ⟨m - 1, by omega⟩
      rw [f_X9_rules_L98, if_pos (nI_le (by omega) (by omega))]
      exact ⟨g, rfl, fun j => by rw [if_neg (by omega)]⟩
    | succ d ih =>
      intro i m g hi hm
      obtain ⟨m, rfl⟩ : ∃ x, m = x + 1 := ⟨m - 1, by omega⟩
      rw [f_X9_rules_L98, if_neg (nI_ge (by omega) (by omega)), qcI (show i < 200 by omega) (by decide), qt1, show (113 : Int32) + nI i = nI (113 + i) from q_add 113 i, qcI (show 113 + i < 313 by omega) (by decide), show nI i + 1 = nI (i + 1) from q_add i 1, qt1, q_cl (show i < 2 ^ 31 by omega), q_cl (show 113 + i < 2 ^ 31 by omega)]
      obtain ⟨g', e, hg⟩ := ih (i + 1) m (upd g (113 + i) (co' i)) (by omega) (by omega)
      refine ⟨g', e, fun j => ?_⟩
      rw [hg j]
      unfold upd
      by_cases c : j = 113 + i
      · rw [if_neg (by omega), if_pos c, if_pos (by omega), c, Nat.add_sub_cancel_left]
      · by_cases d : 113 + (i + 1) ≤ j ∧ j < 113 + totC RL
        · rw [if_pos d, if_pos (by omega)]
        · rw [if_neg d, if_neg c, if_neg (by omega)]
  have loopA : ∀ (d i m : Nat) (g : Nat → Int32), i + d = 3 * RL.length → d < m → ∃ g', f_X9_rules_L68 m (nI RL.length) (nI i) 0 a b k v op (nI (totC RL)) co' rd' g = some (nI RL.length, 0, a, b, k, v, op, nI (totC RL), co', rd', g') ∧ ∀ j, g' j = if 113 ≤ j ∧ j < 113 + totC RL then co' (j - 113) else if 89 + i ≤ j ∧ j < 89 + 3 * RL.length then rd' (j - 89) else g j := by
    intro d
    induction d with
    | zero =>
      intro i m g hi hm
      obtain ⟨m, rfl⟩ : ∃ x, m = x + 1 := ⟨m - 1, by omega⟩
      rw [f_X9_rules_L68, ql3, q_mul, if_pos (nI_le (by omega) (by omega))]
      unfold f_X9_rules_b96
      obtain ⟨g', e, hg⟩ := loopB (totC RL) 0 1000 g (by omega) (by omega)
      refine ⟨g', e, fun j => ?_⟩
      rw [hg j]
      by_cases c : 113 ≤ j ∧ j < 113 + totC RL
      · rw [if_pos (by omega), if_pos c]
      · rw [if_neg (by omega), if_neg c, if_neg (by omega)]
    | succ d ih =>
      intro i m g hi hm
      obtain ⟨m, rfl⟩ : ∃ x, m = x + 1 := ⟨m - 1, by omega⟩
      rw [f_X9_rules_L68, ql3, q_mul, if_neg (nI_ge (by omega) (by omega)), qcI (show i < 24 by omega) (by decide), qt1, show (89 : Int32) + nI i = nI (89 + i) from q_add 89 i, qcI (show 89 + i < 313 by omega) (by decide), show nI i + 1 = nI (i + 1) from q_add i 1, qt1, q_cl (show i < 2 ^ 31 by omega), q_cl (show 89 + i < 2 ^ 31 by omega)]
      obtain ⟨g', e, hg⟩ := ih (i + 1) m (upd g (89 + i) (rd' i)) (by omega) (by omega)
      refine ⟨g', e, fun j => ?_⟩
      rw [hg j]
      unfold upd
      by_cases c0 : 113 ≤ j ∧ j < 113 + totC RL
      · rw [if_pos c0, if_pos c0]
      · rw [if_neg c0, if_neg c0]
        by_cases c : j = 89 + i
        · rw [if_neg (by omega), if_pos c, if_pos (by omega), c, Nat.add_sub_cancel_left]
        · by_cases d : 89 + (i + 1) ≤ j ∧ j < 89 + 3 * RL.length
          · rw [if_pos d, if_pos (by omega)]
          · rw [if_neg d, if_neg c, if_neg (by omega)]
  obtain ⟨g', e3, hg⟩ := loopA (3 * RL.length) 0 1000 (upd s 5 (nI RL.length)) (by omega) (by omega)
  refine ⟨a, b, k, v, op, _, _, _, g', e3, ?_, fun j h1 h2 => ?_, MRl_of RL 0 0 (fun i hi => ?_) (fun i hi => ?_) (by omega)⟩
  · rw [hg, if_neg (by omega), if_neg (by omega)]
    unfold upd; rw [if_pos rfl]
  · rw [hg, if_neg (by omega), if_neg (by omega)]
    unfold upd; rw [if_neg h2]
  · have := h3.2 i hi
    rw [rdL_len] at hi
    rw [hg, if_neg (by omega), if_pos (by omega), show 89 + 3 * 0 + i - 89 = 0 + i by omega]
    exact this
  · have := h2.2 i hi
    rw [coL_len] at hi
    rw [hg, if_pos (by omega), show 113 + 0 + i - 113 = 0 + i by omega]
    exact this
end EM10
section EX9
variable {cnt en z wa sc ho rn rz pn : Int32} {kd tr ln li cu bu of rk rd rb rs rl rr ph pa pl pm s : Nat → Int32}
theorem InR_rules {rn' rz' : Int32} {rk' rd' rb' rs' rl' rr' s' : Nat → Int32} {RL : List RRul} (h : InR cnt en z wa sc ho kd tr ln li cu bu of rn rz rk rd rb rs rl rr pn ph pa pl pm s) (hC : CRs rk' rd' rb' rs' rl' rr' RL) (hn : rn' = nI RL.length) (hz : rz' = nI (tot RL)) (h5 : s' 5 = nI RL.length) (hj : ∀ j, j < 89 → j ≠ 5 → s' j = s j) (hM : MRl s' RL 0 0) : InR cnt en z wa sc ho kd tr ln li cu bu of rn' rz' rk' rd' rb' rs' rl' rr' pn ph pa pl pm s' := by
  obtain ⟨a, RL0, hB, hE, hS, he, hC0, hn0, hz0, hP, hMS, hMR⟩ := h
  have e : ∀ j, j ≠ 5 → updN a 5 RL.length j = a j := fun j h => updN_ne _ _ h
  have e5 : updN a 5 RL.length 5 = RL.length := by unfold updN; rw [if_pos rfl]
  refine ⟨updN a 5 RL.length, RL, BA_upd hB (by decide) (fun h => absurd h (by decide)) (fun h => absurd h (by decide)) (fun k _ => ⟨fun h => absurd h (by omega), fun h => absurd h (by omega), fun h => absurd h (by omega), fun h => absurd h (by omega), fun h => absurd h (by omega)⟩) (fun w _ h => absurd h (by omega)) (fun c _ => ⟨fun h => absurd h (by omega), fun h => absurd h (by omega)⟩), ⟨by rw [e 4 (by decide)]; exact hE.1, fun k hk => ?_, fun w hw => ?_, fun c hc => ?_⟩, ⟨by rw [e 0 (by decide)]; exact hS.1, ?_, fun k hk => ?_⟩, by rw [e 1 (by decide)]; exact he, hC, hn, hz, RP_congr hP (fun y hy => e y (by omega)), ⟨fun j h1 h2 h3 => ?_, ?_, ?_, fun _ _ => rfl⟩, hM, hC.2.1, hC.2.2, e5⟩
  · rw [e _ (by omega), e _ (by omega), e _ (by omega)]; exact hE.2.1 k hk
  · rw [e _ (by omega)]; exact hE.2.2.1 w hw
  · rw [e _ (by omega), e _ (by omega)]; exact hE.2.2.2 c hc
  · unfold hb
    rw [e _ (by decide), e _ (by decide), e _ (by decide), e _ (by decide), e _ (by decide), e _ (by decide)]; exact hS.2.1
  · rw [e _ (by omega)]; exact hS.2.2 k hk
  · by_cases c : j = 5
    · rw [c, h5, e5]
    · rw [hj j h1 c, e j c]; exact hMS.1 j h1 h2 h3
  · rw [hj 2 (by decide) (by decide)]; exact hMS.2.1
  · rw [hj 3 (by decide) (by decide)]; exact hMS.2.2.1
theorem st_rules {tc tm : Int32} {t8 t9 le : Nat → Int32} (hT : InP tc t8 tm t9) (hl : InL le) (h : InR cnt en z wa sc ho kd tr ln li cu bu of rn rz rk rd rb rs rl rr pn ph pa pl pm s) (db dd dk dl dr ds : Nat → Int32) (hdb : db 0 = nI 0) (xk xl xs xt xa xn : Int32) (wt : Nat → Int32) (val op : Int32) (co rdm : Nat → Int32) : ∃ (r : Int32) (y1 y2 : Int32) (db' dd' dk' dl' dr' ds' : Nat → Int32) (y10 y11 y12 y13 y14 y15 y16 y17 y18 y19 : Int32) (wt' : Nat → Int32) (rn' rz' : Int32) (rb' rd' rk' rl' rr' rs' : Nat → Int32) (a' b' k' v' op' st' : Int32) (co' rdm' s' : Nat → Int32), f_X8_rules tc db dd dk dl dr ds xk xl xs xt xa xn wt rn rz rb rd rk rl rr rs t8 = some (r, 0, y1, y2, db', dd', dk', dl', dr', ds', y10, y11, y12, y13, y14, y15, y16, y17, y18, y19, wt', rn', rz', rb', rd', rk', rl', rr', rs') ∧ f_X9_rules tm val op co le rdm s t9 = some (r, 0, a', b', k', v', op', st', co', rdm', s') ∧ db' 0 = nI 0 ∧ InR cnt en z wa sc ho kd tr ln li cu bu of rn' rz' rk' rd' rb' rs' rl' rr' pn ph pa pl pm s' := by
  obtain ⟨n, hn, rfl, rfl, ht⟩ := hT
  have ht9 : ∀ k, k < n → t9 k = nI ((fun i => (t9 i).toNatClampNeg) k) ∧ (fun i => (t9 i).toNatClampNeg) k < 256 := fun k hk => by
    obtain ⟨-, b, hb, e⟩ := ht k hk
    dsimp only
    rw [e, q_cl (by omega)]
    exact ⟨rfl, hb⟩
  have ht8 : ∀ k, k < n → t8 k = nI ((fun i => (t9 i).toNatClampNeg) k) ∧ (fun i => (t9 i).toNatClampNeg) k < 256 := fun k hk => ⟨(ht k hk).1.trans (ht9 k hk).1, (ht9 k hk).2⟩
  obtain ⟨t, et⟩ : ∃ t, (fun i => (t9 i).toNatClampNeg) = t := ⟨_, rfl⟩
  rw [et] at ht8 ht9
  obtain ⟨a1, a2⟩ := e4_read (de := dd) (ki := dk) hn ht8 hdb dl dr ds xk xl xs xt xa xn wt
  obtain ⟨b1, b2⟩ := e9_rules (s := s) hn ht9 hl val op co rdm
  obtain ⟨c1, c2⟩ := gRules_ok (t := t) (fun k hk => (ht9 k hk).2) (n + 1) [] 0 (Nat.zero_le n) (Nat.le_refl _) (fun r hr => absurd hr (by simp)) (by decide)
  unfold f_X8_rules
  match ex : gRules t n (n + 1) [] 0 with
  | .error e =>
    obtain ⟨y2, y3, g4, g5, g6, g7, g8, g9, y10, y11, y12, y13, y14, y15, y16, y17, y18, y19, g20, e1, hb⟩ := a1 e ex
    obtain ⟨z1, z2, z3, z4, z5, z6, z7, e2⟩ := b1 e ex
    have he := c1 e ex
    have hne : ¬ nI e = -1 := by
      intro z
      have := congrArg Int32.toInt z
      rw [nI_toInt (by omega)] at this
      have e : (-1 : Int32).toInt = -1 := rfl
      omega
    rw [e1, qb20, if_neg hne, e2]
    exact ⟨_, _, _, _, _, _, _, _, _, _, _, _, _, _, _, _, _, _, _, _, _, _, _, _, _, _, _, _, _, _, _, _, _, _, _, _, _, rfl, rfl, hb, h⟩
  | .ok RL =>
    obtain ⟨be, de, ki, le', ri, st, y10, y11, y12, y13, y14, y15, y16, y17, y18, y19, g20, e1, hK, hL⟩ := a2 RL ex
    obtain ⟨z1, z2, z3, z4, z5, z6, z7, z8, s', e2, h5, hj, hM⟩ := b2 RL ex
    obtain ⟨o1, o2, o3⟩ := c2 RL ex
    have ot := tot_le RL
    have hC : CRl ki de be st le' ri RL 0 0 := CRl_of RL 0 0 hK.1 (by omega) (fun i hi => by rw [Nat.zero_add]; exact hL i hi)
    have k8 : ∀ {α : Type} {x : Option α}, chkC 0 0 8 8 8 x = x := fun {_ _} => q_chkC (by decide) (by decide)
    have k9 : ∀ {α : Type} {x : Option α}, chkC 0 0 9 9 9 x = x := fun {_ _} => q_chkC (by decide) (by decide)
    have kz : ∀ {α : Type} {x : Option α}, chkC 0 0 (nI (tot RL)) 200 200 x = x := fun {_ _} => q_chkC (nI_pos (by omega)) (by rw [q_cl (by omega)]; omega)
    have q8 : ∀ {f g : Nat → Int32} (i : Nat), i < 8 → va_cpy f g (0 : Int32).toNatClampNeg (0 : Int32).toNatClampNeg (8 : Int32).toNatClampNeg i = f i := fun i h => q_cpy i (by rw [show (8 : Int32).toNatClampNeg = 8 from rfl]; exact h)
    have q9 : ∀ {f g : Nat → Int32} (i : Nat), i < 9 → va_cpy f g (0 : Int32).toNatClampNeg (0 : Int32).toNatClampNeg (9 : Int32).toNatClampNeg i = f i := fun i h => q_cpy i (by rw [show (9 : Int32).toNatClampNeg = 9 from rfl]; exact h)
    have qz : ∀ {f g : Nat → Int32} (i : Nat), i < tot RL → va_cpy f g (0 : Int32).toNatClampNeg (0 : Int32).toNatClampNeg (nI (tot RL)).toNatClampNeg i = f i := fun i h => q_cpy i (by rw [q_cl (by omega)]; exact h)
    rw [e1, qb20, if_pos rfl, e2]
    unfold f_X5_become
    simp only [k8, k9, kz, qb8]
    exact ⟨_, _, _, _, _, _, _, _, _, _, _, _, _, _, _, _, _, _, _, _, _, _, _, _, _, _, _, _, _, _, _, _, _, _, _, _, _, rfl, rfl, hK.2.2, InR_rules h ⟨CRl_congr (T := tot RL) q8 q8 q9 qz qz qz RL 0 0 (by omega) (by omega) hC, o1, o2⟩ rfl rfl h5 hj hM⟩
end EX9
