/-! ===== E: plans, the doors (printed by wip/whole/plandoor.py) ===== -/
theorem qcB0 {α : Type} {x : Option α} : chkB 0 x = x := qcB (k := 0) (by decide)
theorem qcB1 {α : Type} {x : Option α} : chkB 1 x = x := qcB (k := 1) (by decide)
theorem and_tab : ∀ w, w < 64 → ∀ e, e < 64 → nI w &&& (nI e ^^^ -1) = nI (w &&& (63 ^^^ e)) ∧ w &&& (63 ^^^ e) ≤ w := by decide +kernel
theorem e_set {p : Int32} {n : Nat} {s : Nat → Int32} (hn : n ≤ 6) (e4 : s 4 = nI n) : (f_X3_hasAll p (nI n) = some 0 ∧ f_X9_isSet p s = some 0) ∨ ∃ w : Nat, w < 2 ^ n ∧ p = nI w ∧ f_X3_hasAll p (nI n) = some 1 ∧ f_X9_isSet p s = some 1 := by
  have hp := p_le hn
  have hp0 : 0 < 2 ^ n := Nat.pow_pos (by decide)
  have tab : ∀ n, n < 7 → (1 : Int32) <<< (nI n &&& 31) = nI (2 ^ n) := by decide +kernel
  unfold f_X3_hasAll f_X9_isSet f_X9_in1
  rw [e4, tab n (by omega), show nI (2 ^ n) - 1 = nI (2 ^ n - 1) from q_sub (a := 2 ^ n) (b := 1) hp0]
  by_cases c : p < 0
  · rw [if_pos c, if_pos c, qb1]; exact Or.inl ⟨rfl, qcB0⟩
  · obtain ⟨j, hj, rfl⟩ := nI_of c
    rw [if_neg c, if_neg c]
    by_cases d : 2 ^ n ≤ j
    · rw [if_pos (nI_le d (by omega)), if_pos ((q_lt (by omega) (by omega)).mpr (by omega)), qb1]; exact Or.inl ⟨rfl, qcB0⟩
    · rw [if_neg (nI_ge (by omega) (by omega)), if_neg (fun g => by have := (q_lt (by omega) (by omega)).mp g; omega), qb1]
      exact Or.inr ⟨j, by omega, rfl, rfl, qcB1⟩
theorem sumM_pos (RL : List RRul) (w : Nat) : ∀ (d : Nat) (b : Nat → Nat) (W c : Nat) (pre : List Nat), 0 < (sumM RL w d b W c pre).1 := by
  intro d
  induction d with
  | zero => intro b W c pre; exact Nat.succ_pos W
  | succ d ih =>
    intro b W c pre
    rw [sumM]
    have := (sAll_in (s := fun k => sumM RL w d (goA b RL k) (W + goW b RL k) (c + if k = 0 then 0 else 1) (pre ++ [k])) (b 4)).1
    exact Nat.lt_of_lt_of_le (ih _ _ _ _) this
def S00 : Su := (0, 0, 5, 0, [])
def planR (RL : List RRul) (w n : Nat) (a : Nat → Nat) : Su := sJ S00 (sumM RL w (min n (a 1 - a 0)) a 0 0 [])
theorem planR_pos {RL : List RRul} {w n : Nat} {a : Nat → Nat} : 0 < (planR RL w n a).1 := Nat.lt_of_lt_of_le (sumM_pos RL w _ a 0 0 []) (Nat.le_max_right _ _)
theorem StM_0 (L : Nat) (bp : Nat → Int32) : StM L S00 (-1) 0 5 0 bp := ⟨rfl, rfl, rfl, rfl, by decide, by decide, by decide, fun h => absurd h (by decide)⟩
theorem StC_0 (L : Nat) (bp : Nat → Int32) : StC L S00 (-1) 0 (-3) 0 bp := ⟨rfl, rfl, rfl, rfl, by decide, by decide, by decide, fun h => absurd h (by decide)⟩
theorem sc1_eq (X : Su) : (sc 1 X : Su) = X := by
  obtain ⟨x1, x2, x3⟩ := X
  unfold sc
  rw [Nat.one_mul]
section EO
variable {a : Nat → Nat} {cnt en z wa sc ho rn rz pn : Int32} {kd tr ln li cu bu of rk rd rb rs rl rr ph pa pl pm s T : Nat → Int32} {RL : List RRul}
theorem e8_len (hB : BA a) (hw : wa = nI (a 0)) (he : en = nI (a 1)) {n : Nat} (hn : n ≤ 4) : imax 0 (imin (imin (nI n) 4) (en - wa)) = nI (min n (a 1 - a 0)) := by
  have h1 := hB.2.1
  have h2 := hB.2.2.1
  rw [hw, he, q_sub h1]
  have key : ∀ n, n < 5 → ∀ k, k < 17 → imax 0 (imin (imin (nI n) 4) (nI k)) = nI (min n k) := by decide +kernel
  exact key n (by omega) _ (by omega)
theorem e9_days (hB : BA a) {sc z : Int32} (hM : MS s a sc z T) {n : Nat} (hn : n ≤ 4) : f_X9_daysOf (nI n) s = some (nI (min n (a 1 - a 0))) := by
  have h1 := hB.2.1
  have h2 := hB.2.2.1
  unfold f_X9_daysOf f_X9_daysOf_b24
  rw [e9_isOver hB hM, qb1, hM.1 1 (by decide) (by decide) (by decide), hM.1 0 (by decide) (by decide) (by decide), q_sub h1]
  by_cases c : a 0 < a 1
  · rw [if_pos c, if_pos rfl]
    by_cases d : a 1 - a 0 ≤ n
    · rw [if_pos (nI_le d (by omega)), Nat.min_eq_right d]
    · rw [if_neg (nI_ge (by omega) (by omega)), Nat.min_eq_left (by omega)]
  · rw [if_neg c, if_neg n10, if_pos (nI_pos' (by omega)), show a 1 - a 0 = 0 by omega, Nat.min_eq_right (Nat.zero_le _)]
    rfl
theorem e9_tries (hB : BA a) {sc z : Int32} (hM : MS s a sc z T) (hMR : MRs T a RL) {n w : Nat} (hn : n ≤ 4) (hw : w < 64) (bp pi plan sv : Nat → Int32) : ∃ mo ma fe ev bp' pi' plan' s' sv', f_X9_triesAll (nI n) (nI w) bp pi plan s sv = some (mo, ma, fe, ev, bp', pi', plan', s', sv') ∧ StM (min n (a 1 - a 0)) (planR RL w n a) mo ma fe ev bp' ∧ MS s' a sc z T := by
  obtain ⟨mo, ma, fe, ev, bp', pi', plan', s', sv', e, h1, h2, -, -⟩ := e9_plans (L := min n (a 1 - a 0)) hw (by omega) (min n (a 1 - a 0)) 0 6 a 0 0 [] S00 (-1) 0 5 0 sc bp pi plan s sv (by omega) (by omega) hB hM hMR (by have := hB.2.1; omega) (by omega) (by omega) rfl (fun i hi => absurd hi (Nat.not_lt_zero _)) (StM_0 _ _)
  have e' : F_X9_goesPlans 6 0 (nI (min n (a 1 - a 0))) 0 0 (nI w) (-1) 0 5 0 bp pi plan s sv = some (mo, ma, fe, ev, bp', pi', plan', s', sv') := e
  refine ⟨mo, ma, fe, ev, bp', pi', plan', s', sv', ?_, h1, h2⟩
  unfold f_X9_triesAll
  rw [e9_days hB hM hn, qb1, e', qb9]
theorem e8_study (hB : BA a) (hE : CE cnt kd tr ln li cu bu a) (hS : CS wa ho of a) (he : en = nI (a 1)) (hC : CRs rk rd rb rs rl rr RL) {n w : Nat} (hn : n ≤ 4) (hw : w < 64) (wa1 sc1 ho1 wa2 sc2 ho2 wa3 sc3 ho3 wa4 sc4 ho4 : Int32) (fa acts first of0 of1 of2 of3 of4 : Nat → Int32) :
    ∃ fa' bst' wys' few' evh' acts' wa0' sc0' ho0' of0' wa1' sc1' ho1' of1' wa2' sc2' ho2' of2' wa3' sc3' ho3' of3' wa4' sc4' ho4' of4' first', f_X1_study (nI n) (nI w) cnt en bu cu kd ln li wa sc ho of (nI RL.length) rb rd fa rk rl rr rs tr acts of0 wa1 sc1 ho1 of1 wa2 sc2 ho2 of2 wa3 sc3 ho3 of3 wa4 sc4 ho4 of4 first = some (fa', nI (min n (a 1 - a 0)), nI w, bst', wys', few', evh', acts', wa0', sc0', ho0', of0', wa1', sc1', ho1', of1', wa2', sc2', ho2', of2', wa3', sc3', ho3', of3', wa4', sc4', ho4', of4', first') ∧ StC (min n (a 1 - a 0)) (planR RL w n a) bst' wys' few' evh' first' := by
  obtain ⟨fa', bst', wys', few', evh', acts', wa1', sc1', ho1', of1', wa2', sc2', ho2', of2', wa3', sc3', ho3', of3', wa4', sc4', ho4', of4', first', e, h1, -⟩ := e8_ex0 (cnt := cnt) (L := min n (a 1 - a 0)) hw hC (by omega) (min n (a 1 - a 0)) a 0 0 1 [] S00 (-1) 0 (-3) 0 wa sc ho wa1 sc1 ho1 wa2 sc2 ho2 wa3 sc3 ho3 wa4 sc4 ho4 acts first fa (va_cpy of of0 0 0 6) of1 of2 of3 of4 (by omega) hB hE (CS_cpy hS) (by have := hB.2.1; omega) (by omega) (by omega) rfl (fun i hi => absurd hi (Nat.not_lt_zero _)) rfl (StC_0 _ _)
  have e' : f_X1_explore_0 0 1 cnt bu cu kd ln li (nI RL.length) rb rd fa rk rl rr rs tr (nI (min n (a 1 - a 0))) (nI w) (-1) 0 (-3) 0 acts wa sc ho (va_cpy of of0 0 0 6) wa1 sc1 ho1 of1 wa2 sc2 ho2 of2 wa3 sc3 ho3 of3 wa4 sc4 ho4 of4 first = some (fa', bst', wys', few', evh', acts', wa1', sc1', ho1', of1', wa2', sc2', ho2', of2', wa3', sc3', ho3', of3', wa4', sc4', ho4', of4', first') := e
  have hr : f_X1_study (nI n) (nI w) cnt en bu cu kd ln li wa sc ho of (nI RL.length) rb rd fa rk rl rr rs tr acts of0 wa1 sc1 ho1 of1 wa2 sc2 ho2 of2 wa3 sc3 ho3 of3 wa4 sc4 ho4 of4 first = some (fa', nI (min n (a 1 - a 0)), nI w, bst', wys', few', evh', acts', wa, sc, ho, va_cpy of of0 0 0 6, wa1', sc1', ho1', of1', wa2', sc2', ho2', of2', wa3', sc3', ho3', of3', wa4', sc4', ho4', of4', first') := by
    unfold f_X1_study f_X1_begin
    rw [e8_len hB hS.1 he hn, qt1, e8_become, qb4, qb5, e', qb23]
  rw [sumC_M, sc1_eq] at h1
  exact ⟨_, _, _, _, _, _, _, _, _, _, _, _, _, _, _, _, _, _, _, _, _, _, _, _, _, _, _, hr, h1⟩
theorem st_best (h : InR cnt en z wa sc ho kd tr ln li cu bu of rn rz rk rd rb rs rl rr pn ph pa pl pm s) (p0 len wan bst wys few evh wa0 sc0 ho0 wa1 sc1 ho1 wa2 sc2 ho2 wa3 sc3 ho3 wa4 sc4 ho4 mo ma fe ev : Int32) (fa acts of0 of1 of2 of3 of4 first bp pi plan sv : Nat → Int32) :
    ∃ r len' wan' bst' wys' few' evh' acts' wa0' sc0' ho0' of0' wa1' sc1' ho1' of1' wa2' sc2' ho2' of2' wa3' sc3' ho3' of3' wa4' sc4' ho4' of4' first' fa' mo' ma' fe' ev' bp' pi' plan' s' sv', f_X8_best p0 len wan bst wys few evh acts wa0 sc0 ho0 of0 wa1 sc1 ho1 of1 wa2 sc2 ho2 of2 wa3 sc3 ho3 of3 wa4 sc4 ho4 of4 first cnt en bu cu kd ln li wa sc ho of rn rb rd fa rk rl rr rs tr = some (r, len', wan', bst', wys', few', evh', acts', wa0', sc0', ho0', of0', wa1', sc1', ho1', of1', wa2', sc2', ho2', of2', wa3', sc3', ho3', of3', wa4', sc4', ho4', of4', first', fa') ∧ f_X9_best p0 mo ma fe ev bp pi plan s sv = some (r, mo', ma', fe', ev', bp', pi', plan', s', sv') ∧ InR cnt en z wa sc ho kd tr ln li cu bu of rn rz rk rd rb rs rl rr pn ph pa pl pm s' := by
  have h0 := h
  obtain ⟨a, RL, hB, hE, hS, he, hC, hn, hz, hP, hM, hMR⟩ := h
  have h4 := hB.1
  have ok : ∀ {s' : Nat → Int32}, MS s' a sc z s → InR cnt en z wa sc ho kd tr ln li cu bu of rn rz rk rd rb rs rl rr pn ph pa pl pm s' := fun g => InR_mk (a := a) (b := a) hB hE hS he hC hn hz hP g hMR rfl
  unfold f_X8_best f_X9_best f_X9_isPlan
  rw [show f_X8_within p0 0 4 = f_X9_in1 p0 0 4 from rfl]
  rcases @e_in p0 0 4 0 4 rfl rfl (by decide) (by decide) with ⟨-, e, -⟩ | ⟨n, -, hn4, rfl, -, e⟩
  · rw [e, qb1, qb1, if_pos rfl, qcB0, qb1, if_pos rfl]; exact ⟨_, _, _, _, _, _, _, _, _, _, _, _, _, _, _, _, _, _, _, _, _, _, _, _, _, _, _, _, _, _, _, _, _, _, _, _, _, _, _, rfl, rfl, h0⟩
  · rw [e, qb1, qb1, if_neg n10, qcB1, qb1, if_neg n10]
    have hw : 0 < 64 := by decide
    obtain ⟨fa2, bst2, wys2, few2, evh2, acts2, wa02, sc02, ho02, of02, wa12, sc12, ho12, of12, wa22, sc22, ho22, of22, wa32, sc32, ho32, of32, wa42, sc42, ho42, of42, first2, u1, u2⟩ := e8_study (cnt := cnt) hB hE hS he hC hn4 hw wa1 sc1 ho1 wa2 sc2 ho2 wa3 sc3 ho3 wa4 sc4 ho4 fa acts first of0 of1 of2 of3 of4
    obtain ⟨mo2, ma2, fe2, ev2, bp2, pi2, plan2, s2, sv2, v1, v2, v3⟩ := e9_tries hB hM hMR hn4 hw bp pi plan sv
    obtain ⟨g1, g2, g3, g4, g5, g6, g7, g8⟩ := u2
    obtain ⟨k1, k2, k3, k4, -, -, -, k8⟩ := v2
    rw [← hn] at u1
    have u1' := u1
    have v1' := v1
    rw [show (nI 0 : Int32) = 0 from rfl] at u1' v1'
    rw [u1', v1', qb29, qb9, g1, k1]
    exact ⟨_, _, _, _, _, _, _, _, _, _, _, _, _, _, _, _, _, _, _, _, _, _, _, _, _, _, _, _, _, _, _, _, _, _, _, _, _, _, _, rfl, rfl, ok v3⟩
theorem st_ways (h : InR cnt en z wa sc ho kd tr ln li cu bu of rn rz rk rd rb rs rl rr pn ph pa pl pm s) (p0 len wan bst wys few evh wa0 sc0 ho0 wa1 sc1 ho1 wa2 sc2 ho2 wa3 sc3 ho3 wa4 sc4 ho4 mo ma fe ev : Int32) (fa acts of0 of1 of2 of3 of4 first bp pi plan sv : Nat → Int32) :
    ∃ r len' wan' bst' wys' few' evh' acts' wa0' sc0' ho0' of0' wa1' sc1' ho1' of1' wa2' sc2' ho2' of2' wa3' sc3' ho3' of3' wa4' sc4' ho4' of4' first' fa' mo' ma' fe' ev' bp' pi' plan' s' sv', f_X8_ways p0 len wan bst wys few evh acts wa0 sc0 ho0 of0 wa1 sc1 ho1 of1 wa2 sc2 ho2 of2 wa3 sc3 ho3 of3 wa4 sc4 ho4 of4 first cnt en bu cu kd ln li wa sc ho of rn rb rd fa rk rl rr rs tr = some (r, len', wan', bst', wys', few', evh', acts', wa0', sc0', ho0', of0', wa1', sc1', ho1', of1', wa2', sc2', ho2', of2', wa3', sc3', ho3', of3', wa4', sc4', ho4', of4', first', fa') ∧ f_X9_ways p0 mo ma fe ev bp pi plan s sv = some (r, mo', ma', fe', ev', bp', pi', plan', s', sv') ∧ InR cnt en z wa sc ho kd tr ln li cu bu of rn rz rk rd rb rs rl rr pn ph pa pl pm s' := by
  have h0 := h
  obtain ⟨a, RL, hB, hE, hS, he, hC, hn, hz, hP, hM, hMR⟩ := h
  have h4 := hB.1
  have ok : ∀ {s' : Nat → Int32}, MS s' a sc z s → InR cnt en z wa sc ho kd tr ln li cu bu of rn rz rk rd rb rs rl rr pn ph pa pl pm s' := fun g => InR_mk (a := a) (b := a) hB hE hS he hC hn hz hP g hMR rfl
  unfold f_X8_ways f_X9_ways f_X9_isPlan
  rw [show f_X8_within p0 0 4 = f_X9_in1 p0 0 4 from rfl]
  rcases @e_in p0 0 4 0 4 rfl rfl (by decide) (by decide) with ⟨-, e, -⟩ | ⟨n, -, hn4, rfl, -, e⟩
  · rw [e, qb1, qb1, if_pos rfl, qcB0, qb1, if_pos rfl]; exact ⟨_, _, _, _, _, _, _, _, _, _, _, _, _, _, _, _, _, _, _, _, _, _, _, _, _, _, _, _, _, _, _, _, _, _, _, _, _, _, _, rfl, rfl, h0⟩
  · rw [e, qb1, qb1, if_neg n10, qcB1, qb1, if_neg n10]
    have hw : 0 < 64 := by decide
    obtain ⟨fa2, bst2, wys2, few2, evh2, acts2, wa02, sc02, ho02, of02, wa12, sc12, ho12, of12, wa22, sc22, ho22, of22, wa32, sc32, ho32, of32, wa42, sc42, ho42, of42, first2, u1, u2⟩ := e8_study (cnt := cnt) hB hE hS he hC hn4 hw wa1 sc1 ho1 wa2 sc2 ho2 wa3 sc3 ho3 wa4 sc4 ho4 fa acts first of0 of1 of2 of3 of4
    obtain ⟨mo2, ma2, fe2, ev2, bp2, pi2, plan2, s2, sv2, v1, v2, v3⟩ := e9_tries hB hM hMR hn4 hw bp pi plan sv
    obtain ⟨g1, g2, g3, g4, g5, g6, g7, g8⟩ := u2
    obtain ⟨k1, k2, k3, k4, -, -, -, k8⟩ := v2
    rw [← hn] at u1
    have u1' := u1
    have v1' := v1
    rw [show (nI 0 : Int32) = 0 from rfl] at u1' v1'
    rw [u1', v1', qb29, qb9, g2, k2]
    exact ⟨_, _, _, _, _, _, _, _, _, _, _, _, _, _, _, _, _, _, _, _, _, _, _, _, _, _, _, _, _, _, _, _, _, _, _, _, _, _, _, rfl, rfl, ok v3⟩
theorem st_ith (h : InR cnt en z wa sc ho kd tr ln li cu bu of rn rz rk rd rb rs rl rr pn ph pa pl pm s) (p0 p1 len wan bst wys few evh wa0 sc0 ho0 wa1 sc1 ho1 wa2 sc2 ho2 wa3 sc3 ho3 wa4 sc4 ho4 mo ma fe ev : Int32) (fa acts of0 of1 of2 of3 of4 first bp pi plan sv : Nat → Int32) :
    ∃ r len' wan' bst' wys' few' evh' acts' wa0' sc0' ho0' of0' wa1' sc1' ho1' of1' wa2' sc2' ho2' of2' wa3' sc3' ho3' of3' wa4' sc4' ho4' of4' first' fa' mo' ma' fe' ev' bp' pi' plan' s' sv', f_X8_ith p0 p1 len wan bst wys few evh acts wa0 sc0 ho0 of0 wa1 sc1 ho1 of1 wa2 sc2 ho2 of2 wa3 sc3 ho3 of3 wa4 sc4 ho4 of4 first cnt en bu cu kd ln li wa sc ho of rn rb rd fa rk rl rr rs tr = some (r, len', wan', bst', wys', few', evh', acts', wa0', sc0', ho0', of0', wa1', sc1', ho1', of1', wa2', sc2', ho2', of2', wa3', sc3', ho3', of3', wa4', sc4', ho4', of4', first', fa') ∧ f_X9_ith p0 p1 mo ma fe ev bp pi plan s sv = some (r, mo', ma', fe', ev', bp', pi', plan', s', sv') ∧ InR cnt en z wa sc ho kd tr ln li cu bu of rn rz rk rd rb rs rl rr pn ph pa pl pm s' := by
  have h0 := h
  obtain ⟨a, RL, hB, hE, hS, he, hC, hn, hz, hP, hM, hMR⟩ := h
  have h4 := hB.1
  have ok : ∀ {s' : Nat → Int32}, MS s' a sc z s → InR cnt en z wa sc ho kd tr ln li cu bu of rn rz rk rd rb rs rl rr pn ph pa pl pm s' := fun g => InR_mk (a := a) (b := a) hB hE hS he hC hn hz hP g hMR rfl
  unfold f_X8_ith f_X9_ith f_X9_isPlan
  rw [show f_X8_within p0 0 4 = f_X9_in1 p0 0 4 from rfl]
  rcases @e_in p0 0 4 0 4 rfl rfl (by decide) (by decide) with ⟨-, e, -⟩ | ⟨n, -, hn4, rfl, -, e⟩
  · rw [e, qb1, qb1, if_pos rfl, qcB0, qb1, if_pos rfl]; exact ⟨_, _, _, _, _, _, _, _, _, _, _, _, _, _, _, _, _, _, _, _, _, _, _, _, _, _, _, _, _, _, _, _, _, _, _, _, _, _, _, rfl, rfl, h0⟩
  · rw [e, qb1, qb1, if_neg n10, qcB1, qb1, if_neg n10]
    rw [show f_X8_within p1 0 3 = f_X9_in1 p1 0 3 from rfl]
    rcases @e_in p1 0 3 0 3 rfl rfl (by decide) (by decide) with ⟨-, e3, -⟩ | ⟨q, -, hq, rfl, -, e3⟩
    · rw [e3, qb1, qb1, if_pos rfl, if_pos rfl]; exact ⟨_, _, _, _, _, _, _, _, _, _, _, _, _, _, _, _, _, _, _, _, _, _, _, _, _, _, _, _, _, _, _, _, _, _, _, _, _, _, _, rfl, rfl, h0⟩
    rw [e3, qb1, qb1, if_neg n10, if_neg n10]
    have hw : 0 < 64 := by decide
    obtain ⟨fa2, bst2, wys2, few2, evh2, acts2, wa02, sc02, ho02, of02, wa12, sc12, ho12, of12, wa22, sc22, ho22, of22, wa32, sc32, ho32, of32, wa42, sc42, ho42, of42, first2, u1, u2⟩ := e8_study (cnt := cnt) hB hE hS he hC hn4 hw wa1 sc1 ho1 wa2 sc2 ho2 wa3 sc3 ho3 wa4 sc4 ho4 fa acts first of0 of1 of2 of3 of4
    obtain ⟨mo2, ma2, fe2, ev2, bp2, pi2, plan2, s2, sv2, v1, v2, v3⟩ := e9_tries hB hM hMR hn4 hw bp pi plan sv
    obtain ⟨g1, g2, g3, g4, g5, g6, g7, g8⟩ := u2
    obtain ⟨k1, k2, k3, k4, -, -, -, k8⟩ := v2
    rw [← hn] at u1
    have u1' := u1
    have v1' := v1
    rw [show (nI 0 : Int32) = 0 from rfl] at u1' v1'
    rw [u1', v1', qb29, qb9, e9_days hB v3 hn4, qb1]
    by_cases c : min n (a 1 - a 0) ≤ q
    · rw [if_pos (nI_le c (by omega)), if_pos (nI_le c (by omega))]; exact ⟨_, _, _, _, _, _, _, _, _, _, _, _, _, _, _, _, _, _, _, _, _, _, _, _, _, _, _, _, _, _, _, _, _, _, _, _, _, _, _, rfl, rfl, ok v3⟩
    · rw [if_neg (nI_ge (by omega) (by omega)), if_neg (nI_ge (by omega) (by omega)), qcI (show q < 4 by omega) (by decide), qcI (show q < 4 by omega) (by decide), q_cl (by omega), g8 planR_pos q (by omega), k8 planR_pos q (by omega)]; exact ⟨_, _, _, _, _, _, _, _, _, _, _, _, _, _, _, _, _, _, _, _, _, _, _, _, _, _, _, _, _, _, _, _, _, _, _, _, _, _, _, rfl, rfl, ok v3⟩
theorem st_log (h : InR cnt en z wa sc ho kd tr ln li cu bu of rn rz rk rd rb rs rl rr pn ph pa pl pm s) (p0 p1 len wan bst wys few evh wa0 sc0 ho0 wa1 sc1 ho1 wa2 sc2 ho2 wa3 sc3 ho3 wa4 sc4 ho4 mo ma fe ev : Int32) (fa acts of0 of1 of2 of3 of4 first bp pi plan sv : Nat → Int32) :
    ∃ r len' wan' bst' wys' few' evh' acts' wa0' sc0' ho0' of0' wa1' sc1' ho1' of1' wa2' sc2' ho2' of2' wa3' sc3' ho3' of3' wa4' sc4' ho4' of4' first' fa' mo' ma' fe' ev' bp' pi' plan' s' sv', f_X8_log p0 p1 len wan bst wys few evh acts wa0 sc0 ho0 of0 wa1 sc1 ho1 of1 wa2 sc2 ho2 of2 wa3 sc3 ho3 of3 wa4 sc4 ho4 of4 first cnt en bu cu kd ln li wa sc ho of rn rb rd fa rk rl rr rs tr = some (r, len', wan', bst', wys', few', evh', acts', wa0', sc0', ho0', of0', wa1', sc1', ho1', of1', wa2', sc2', ho2', of2', wa3', sc3', ho3', of3', wa4', sc4', ho4', of4', first', fa') ∧ f_X9_log p0 p1 mo ma fe ev bp pi plan s sv = some (r, mo', ma', fe', ev', bp', pi', plan', s', sv') ∧ InR cnt en z wa sc ho kd tr ln li cu bu of rn rz rk rd rb rs rl rr pn ph pa pl pm s' := by
  have h0 := h
  obtain ⟨a, RL, hB, hE, hS, he, hC, hn, hz, hP, hM, hMR⟩ := h
  have h4 := hB.1
  have ok : ∀ {s' : Nat → Int32}, MS s' a sc z s → InR cnt en z wa sc ho kd tr ln li cu bu of rn rz rk rd rb rs rl rr pn ph pa pl pm s' := fun g => InR_mk (a := a) (b := a) hB hE hS he hC hn hz hP g hMR rfl
  unfold f_X8_log f_X9_log f_X9_isPlan
  rw [show f_X8_within p0 0 4 = f_X9_in1 p0 0 4 from rfl]
  rcases @e_in p0 0 4 0 4 rfl rfl (by decide) (by decide) with ⟨-, e, -⟩ | ⟨n, -, hn4, rfl, -, e⟩
  · rw [e, qb1, qb1, if_pos rfl, qcB0, qb1, if_pos rfl]; exact ⟨_, _, _, _, _, _, _, _, _, _, _, _, _, _, _, _, _, _, _, _, _, _, _, _, _, _, _, _, _, _, _, _, _, _, _, _, _, _, _, rfl, rfl, h0⟩
  · rw [e, qb1, qb1, if_neg n10, qcB1, qb1, if_neg n10]
    rcases e_set (p := p1) h4 (hM.1 4 (by decide) (by decide) (by decide)) with ⟨e3, e4⟩ | ⟨w, hwn, rfl, e3, e4⟩
    · rw [hE.1, e3, e4, qb1, qb1, if_pos rfl, if_pos rfl]; exact ⟨_, _, _, _, _, _, _, _, _, _, _, _, _, _, _, _, _, _, _, _, _, _, _, _, _, _, _, _, _, _, _, _, _, _, _, _, _, _, _, rfl, rfl, hE.1 ▸ h0⟩
    have hw : w < 64 := by have := p_le h4; omega
    rw [hE.1, e3, e4, qb1, qb1, if_neg n10, if_neg n10, ← hE.1]
    obtain ⟨fa2, bst2, wys2, few2, evh2, acts2, wa02, sc02, ho02, of02, wa12, sc12, ho12, of12, wa22, sc22, ho22, of22, wa32, sc32, ho32, of32, wa42, sc42, ho42, of42, first2, u1, u2⟩ := e8_study (cnt := cnt) hB hE hS he hC hn4 hw wa1 sc1 ho1 wa2 sc2 ho2 wa3 sc3 ho3 wa4 sc4 ho4 fa acts first of0 of1 of2 of3 of4
    obtain ⟨mo2, ma2, fe2, ev2, bp2, pi2, plan2, s2, sv2, v1, v2, v3⟩ := e9_tries hB hM hMR hn4 hw bp pi plan sv
    obtain ⟨g1, g2, g3, g4, g5, g6, g7, g8⟩ := u2
    obtain ⟨k1, k2, k3, k4, -, -, -, k8⟩ := v2
    rw [← hn] at u1
    rw [u1, v1, qb29, qb9, g3, k3]
    unfold fI
    by_cases c : (planR RL w n a).2.2.1 = 5
    · rw [if_pos c, c, if_neg (show ¬ nI 5 ≤ 4 by decide)]; exact ⟨_, _, _, _, _, _, _, _, _, _, _, _, _, _, _, _, _, _, _, _, _, _, _, _, _, _, _, _, _, _, _, _, _, _, _, _, _, _, _, rfl, rfl, ok v3⟩
    · rw [if_neg c, if_pos (show nI (planR RL w n a).2.2.1 ≤ (4 : Int32) by rw [ql4]; exact nI_le (by omega) (by decide))]; exact ⟨_, _, _, _, _, _, _, _, _, _, _, _, _, _, _, _, _, _, _, _, _, _, _, _, _, _, _, _, _, _, _, _, _, _, _, _, _, _, _, rfl, rfl, ok v3⟩
theorem st_bars (h : InR cnt en z wa sc ho kd tr ln li cu bu of rn rz rk rd rb rs rl rr pn ph pa pl pm s) (p0 p1 len wan bst wys few evh wa0 sc0 ho0 wa1 sc1 ho1 wa2 sc2 ho2 wa3 sc3 ho3 wa4 sc4 ho4 mo ma fe ev : Int32) (fa acts of0 of1 of2 of3 of4 first bp pi plan sv : Nat → Int32) :
    ∃ r len' wan' bst' wys' few' evh' acts' wa0' sc0' ho0' of0' wa1' sc1' ho1' of1' wa2' sc2' ho2' of2' wa3' sc3' ho3' of3' wa4' sc4' ho4' of4' first' fa' mo' ma' fe' ev' bp' pi' plan' s' sv', f_X8_bars p0 p1 len wan bst wys few evh acts wa0 sc0 ho0 of0 wa1 sc1 ho1 of1 wa2 sc2 ho2 of2 wa3 sc3 ho3 of3 wa4 sc4 ho4 of4 first cnt en bu cu kd ln li wa sc ho of rn rb rd fa rk rl rr rs tr = some (r, len', wan', bst', wys', few', evh', acts', wa0', sc0', ho0', of0', wa1', sc1', ho1', of1', wa2', sc2', ho2', of2', wa3', sc3', ho3', of3', wa4', sc4', ho4', of4', first', fa') ∧ f_X9_bars p0 p1 mo ma fe ev bp pi plan s sv = some (r, mo', ma', fe', ev', bp', pi', plan', s', sv') ∧ InR cnt en z wa sc ho kd tr ln li cu bu of rn rz rk rd rb rs rl rr pn ph pa pl pm s' := by
  have h0 := h
  obtain ⟨a, RL, hB, hE, hS, he, hC, hn, hz, hP, hM, hMR⟩ := h
  have h4 := hB.1
  have ok : ∀ {s' : Nat → Int32}, MS s' a sc z s → InR cnt en z wa sc ho kd tr ln li cu bu of rn rz rk rd rb rs rl rr pn ph pa pl pm s' := fun g => InR_mk (a := a) (b := a) hB hE hS he hC hn hz hP g hMR rfl
  unfold f_X8_bars f_X9_bars f_X9_isPlan
  rw [show f_X8_within p0 0 4 = f_X9_in1 p0 0 4 from rfl]
  rcases @e_in p0 0 4 0 4 rfl rfl (by decide) (by decide) with ⟨-, e, -⟩ | ⟨n, -, hn4, rfl, -, e⟩
  · rw [e, qb1, qb1, if_pos rfl, qcB0, qb1, if_pos rfl]; exact ⟨_, _, _, _, _, _, _, _, _, _, _, _, _, _, _, _, _, _, _, _, _, _, _, _, _, _, _, _, _, _, _, _, _, _, _, _, _, _, _, rfl, rfl, h0⟩
  · rw [e, qb1, qb1, if_neg n10, qcB1, qb1, if_neg n10]
    rcases e_set (p := p1) h4 (hM.1 4 (by decide) (by decide) (by decide)) with ⟨e3, e4⟩ | ⟨w, hwn, rfl, e3, e4⟩
    · rw [hE.1, e3, e4, qb1, qb1, if_pos rfl, if_pos rfl]; exact ⟨_, _, _, _, _, _, _, _, _, _, _, _, _, _, _, _, _, _, _, _, _, _, _, _, _, _, _, _, _, _, _, _, _, _, _, _, _, _, _, rfl, rfl, hE.1 ▸ h0⟩
    have hw : w < 64 := by have := p_le h4; omega
    rw [hE.1, e3, e4, qb1, qb1, if_neg n10, if_neg n10, ← hE.1]
    obtain ⟨fa2, bst2, wys2, few2, evh2, acts2, wa02, sc02, ho02, of02, wa12, sc12, ho12, of12, wa22, sc22, ho22, of22, wa32, sc32, ho32, of32, wa42, sc42, ho42, of42, first2, u1, u2⟩ := e8_study (cnt := cnt) hB hE hS he hC hn4 hw wa1 sc1 ho1 wa2 sc2 ho2 wa3 sc3 ho3 wa4 sc4 ho4 fa acts first of0 of1 of2 of3 of4
    obtain ⟨mo2, ma2, fe2, ev2, bp2, pi2, plan2, s2, sv2, v1, v2, v3⟩ := e9_tries hB hM hMR hn4 hw bp pi plan sv
    obtain ⟨g1, g2, g3, g4, g5, g6, g7, g8⟩ := u2
    obtain ⟨k1, k2, k3, k4, -, -, -, k8⟩ := v2
    rw [← hn] at u1
    rw [u1, v1, qb29, qb9, g4, k4]
    obtain ⟨t1, t2⟩ := and_tab w hw _ g7
    rw [t1, qt1]
    have fin : ∀ (d f8 f9 r : Nat), r + d = a 4 → 6 < f8 + r → d < f9 → ∃ v, f_X8_leastOfSet_L2 (nI (w &&& (63 ^^^ (planR RL w n a).2.2.2.1))) f8 (nI r) = some v ∧ f_X9_bars_L35 f9 (nI (w &&& (63 ^^^ (planR RL w n a).2.2.2.1))) (nI r) mo2 ma2 fe2 (nI (planR RL w n a).2.2.2.1) bp2 pi2 plan2 s2 sv2 = some (v, mo2, ma2, fe2, nI (planR RL w n a).2.2.2.1, bp2, pi2, plan2, s2, sv2) := by
      have e5 := v3.1 4 (by decide) (by decide) (by decide)
      intro d
      induction d with
      | zero =>
        intro f8 f9 r hr h8 h9
        obtain ⟨n9, rfl⟩ : ∃ n9, f9 = n9 + 1 := ⟨f9 - 1, by omega⟩
        rw [f_X9_bars_L35, e5, if_pos (nI_le (by omega) (by omega)), ls_end (by omega) (6 - r) f8 r (by omega) (by omega) (fun k h1 h2 => ?_)]
        · unfold f_X9_bars_b61
          rw [e5, if_pos (nI_le (by omega) (by omega))]
          exact ⟨_, rfl, rfl⟩
        · have mono : 2 ^ a 4 ≤ 2 ^ k := Nat.pow_le_pow_right (by decide) (by omega)
          rw [Nat.div_eq_of_lt (by omega)]
      | succ d ih =>
        intro f8 f9 r hr h8 h9
        obtain ⟨n9, rfl⟩ : ∃ n9, f9 = n9 + 1 := ⟨f9 - 1, by omega⟩
        obtain ⟨m, rfl⟩ : ∃ m, f8 = m + 1 := ⟨f8 - 1, by omega⟩
        have hb0 : ∀ S, S < 2 ^ 31 → ((nI S >>> (nI r &&& 31)) &&& 1 = 0 ↔ ¬ S / 2 ^ r % 2 = 1) := by
          intro S hS
          rw [ql31, q_shr hS (by omega), ql1, q_and1 (by have := Nat.div_le_self S (2 ^ r); omega), ql0, q_eq (by omega) (by decide)]
          omega
        rw [f_X9_bars_L35, e5, if_neg (nI_ge (by omega) (by omega)), f_X8_leastOfSet_L2, ql6, if_neg (nI_ge (by omega) (by omega)), show nI r + 1 = nI (r + 1) from q_add r 1]
        by_cases c : (w &&& (63 ^^^ (planR RL w n a).2.2.2.1)) / 2 ^ r % 2 = 1
        · rw [if_pos ((q_bit (by omega) (by omega)).mpr c), if_neg (fun g => (hb0 _ (by omega)).mp g c)]
          unfold f_X9_bars_b61
          rw [e5, if_neg (nI_ge (by omega) (by omega))]
          exact ⟨_, rfl, rfl⟩
        · rw [if_neg (fun g => c ((q_bit (by omega) (by omega)).mp g)), if_pos ((hb0 _ (by omega)).mpr c), qt1, qt1]
          exact ih m n9 (r + 1) (by omega) (by omega) (by omega)
    obtain ⟨v, x1, x2⟩ := fin (a 4) 1000 1000 0 (by omega) (by omega) (by omega)
    have x1' : f_X8_leastOfSet (nI (w &&& (63 ^^^ (planR RL w n a).2.2.2.1))) = some v := x1
    have x2' : f_X9_bars_L35 1000 (nI (w &&& (63 ^^^ (planR RL w n a).2.2.2.1))) 0 mo2 ma2 fe2 (nI (planR RL w n a).2.2.2.1) bp2 pi2 plan2 s2 sv2 = some (v, mo2, ma2, fe2, nI (planR RL w n a).2.2.2.1, bp2, pi2, plan2, s2, sv2) := x2
    rw [x1', qb1, x2']
    exact ⟨_, _, _, _, _, _, _, _, _, _, _, _, _, _, _, _, _, _, _, _, _, _, _, _, _, _, _, _, _, _, _, _, _, _, _, _, _, _, _, rfl, rfl, ok v3⟩
end EO
