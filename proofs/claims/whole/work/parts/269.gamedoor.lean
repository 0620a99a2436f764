/-! ===== E: the game, the doors (printed by wip/whole/gamedoor.py) ===== -/
section EU2
variable {a : Nat → Nat} {cnt en z wa sc ho rn rz pn : Int32} {kd tr ln li cu bu of rk rd rb rs rl rr ph pa pl pm s : Nat → Int32} {RL : List RRul}
theorem e8_duelOf (hB : BA a) (hE : CE cnt kd tr ln li cu bu a) (hS : CS wa ho of a) (he : en = nI (a 1)) (hC : CRs rk rd rb rs rl rr RL) {n : Nat} (hn : n ≤ 4) (wa1 sc1 ho1 wa2 sc2 ho2 wa3 sc3 ho3 wa4 sc4 ho4 : Int32) (fa acts of0 of1 of2 of3 of4 : Nat → Int32) :
    ∃ fa' acts' wa0' sc0' ho0' of0' wa1' sc1' ho1' of1' wa2' sc2' ho2' of2' wa3' sc3' ho3' of3' wa4' sc4' ho4' of4', f_X1_duelOf (nI n) cnt en bu cu kd ln li wa sc ho of (nI RL.length) rb rd fa rk rl rr rs tr acts of0 wa1 sc1 ho1 of1 wa2 sc2 ho2 of2 wa3 sc3 ho3 of3 wa4 sc4 ho4 of4 = some (nI (gv RL (min n (a 1 - a 0)) 0 a).1, fa', nI (min n (a 1 - a 0)), acts', wa0', sc0', ho0', of0', wa1', sc1', ho1', of1', wa2', sc2', ho2', of2', wa3', sc3', ho3', of3', wa4', sc4', ho4', of4') ∧ (0 < min n (a 1 - a 0) → acts' 0 = nI (gv RL (min n (a 1 - a 0)) 0 a).2) := by
  obtain ⟨fa', acts', wa1', sc1', ho1', of1', wa2', sc2', ho2', of2', wa3', sc3', ho3', of3', wa4', sc4', ho4', of4', e, -, h2⟩ := e8_du0 (cnt := cnt) (L := min n (a 1 - a 0)) hC (by omega) (min n (a 1 - a 0)) a wa sc ho wa1 sc1 ho1 wa2 sc2 ho2 wa3 sc3 ho3 wa4 sc4 ho4 acts fa (va_cpy of of0 0 0 6) of1 of2 of3 of4 (by omega) hB hE (CS_cpy hS) (by have := hB.2.1; omega)
  have hr : f_X1_duelOf (nI n) cnt en bu cu kd ln li wa sc ho of (nI RL.length) rb rd fa rk rl rr rs tr acts of0 wa1 sc1 ho1 of1 wa2 sc2 ho2 of2 wa3 sc3 ho3 of3 wa4 sc4 ho4 of4 = some (nI (gv RL (min n (a 1 - a 0)) 0 a).1, fa', nI (min n (a 1 - a 0)), acts', wa, sc, ho, va_cpy of of0 0 0 6, wa1', sc1', ho1', of1', wa2', sc2', ho2', of2', wa3', sc3', ho3', of3', wa4', sc4', ho4', of4') := by
    unfold f_X1_duelOf f_X1_begin
    rw [e8_len hB hS.1 he hn, qt1, e8_become, qb4, qb5, e, qb19]
  exact ⟨_, _, _, _, _, _, _, _, _, _, _, _, _, _, _, _, _, _, _, _, _, _, hr, h2⟩
theorem st_game (h : InR cnt en z wa sc ho kd tr ln li cu bu of rn rz rk rd rb rs rl rr pn ph pa pl pm s) (p0 len wa0 sc0 ho0 wa1 sc1 ho1 wa2 sc2 ho2 wa3 sc3 ho3 wa4 sc4 ho4 : Int32) (fa acts of0 of1 of2 of3 of4 pi plan sv : Nat → Int32) :
    ∃ r len' acts' wa0' sc0' ho0' of0' wa1' sc1' ho1' of1' wa2' sc2' ho2' of2' wa3' sc3' ho3' of3' wa4' sc4' ho4' of4' fa' pi' plan' s' sv', f_X8_game p0 len acts wa0 sc0 ho0 of0 wa1 sc1 ho1 of1 wa2 sc2 ho2 of2 wa3 sc3 ho3 of3 wa4 sc4 ho4 of4 cnt en bu cu kd ln li wa sc ho of rn rb rd fa rk rl rr rs tr = some (r, len', acts', wa0', sc0', ho0', of0', wa1', sc1', ho1', of1', wa2', sc2', ho2', of2', wa3', sc3', ho3', of3', wa4', sc4', ho4', of4', fa') ∧ f_X9_game p0 pi plan s sv = some (r, pi', plan', s', sv') ∧ InR cnt en z wa sc ho kd tr ln li cu bu of rn rz rk rd rb rs rl rr pn ph pa pl pm s' := by
  have h0 := h
  obtain ⟨a, RL, hB, hE, hS, he, hC, hn, hz, hP, hM, hMR⟩ := h
  have h4 := hB.1
  have ok : ∀ {s' : Nat → Int32}, MS s' a sc z s → InR cnt en z wa sc ho kd tr ln li cu bu of rn rz rk rd rb rs rl rr pn ph pa pl pm s' := fun g => InR_mk (a := a) (b := a) hB hE hS he hC hn hz hP g hMR rfl
  unfold f_X8_game f_X9_game
  rw [show f_X8_within p0 1 4 = f_X9_in1 p0 1 4 from rfl]
  rcases @e_in p0 1 4 1 4 rfl rfl (by decide) (by decide) with ⟨-, e, -⟩ | ⟨n, hn1, hn4, rfl, -, e⟩
  · rw [e, qb1, qb1, if_pos rfl, if_pos rfl]; exact ⟨_, _, _, _, _, _, _, _, _, _, _, _, _, _, _, _, _, _, _, _, _, _, _, _, _, _, _, _, rfl, rfl, h0⟩
  · rw [e, qb1, qb1, if_neg n10, if_neg n10]
    obtain ⟨fa2, acts2, wa02, sc02, ho02, of02, wa12, sc12, ho12, of12, wa22, sc22, ho22, of22, wa32, sc32, ho32, of32, wa42, sc42, ho42, of42, u1, u2⟩ := e8_duelOf (cnt := cnt) hB hE hS he hC hn4 wa1 sc1 ho1 wa2 sc2 ho2 wa3 sc3 ho3 wa4 sc4 ho4 fa acts of0 of1 of2 of3 of4
    obtain ⟨pi2, plan2, s2, sv2, v1, v2, -, v4, -⟩ := e9_played (RL := RL) (L := min n (a 1 - a 0)) (by omega) (min n (a 1 - a 0)) 0 6 a sc pi plan s sv (by omega) (by omega) hB hM hMR (by have := hB.2.1; omega)
    have v1' : F_X9_playedFrom 6 0 (nI (min n (a 1 - a 0))) pi plan s sv = _ := v1
    rw [← hn] at u1
    rw [u1, qb24, e9_days hB hM hn4, qb1, v1', qb5]
    exact ⟨_, _, _, _, _, _, _, _, _, _, _, _, _, _, _, _, _, _, _, _, _, _, _, _, _, _, _, _, rfl, rfl, ok v2⟩
theorem st_play (h : InR cnt en z wa sc ho kd tr ln li cu bu of rn rz rk rd rb rs rl rr pn ph pa pl pm s) (p0 len wa0 sc0 ho0 wa1 sc1 ho1 wa2 sc2 ho2 wa3 sc3 ho3 wa4 sc4 ho4 : Int32) (fa acts of0 of1 of2 of3 of4 pi plan sv : Nat → Int32) :
    ∃ r len' acts' wa0' sc0' ho0' of0' wa1' sc1' ho1' of1' wa2' sc2' ho2' of2' wa3' sc3' ho3' of3' wa4' sc4' ho4' of4' fa' pi' plan' s' sv', f_X8_play p0 len acts wa0 sc0 ho0 of0 wa1 sc1 ho1 of1 wa2 sc2 ho2 of2 wa3 sc3 ho3 of3 wa4 sc4 ho4 of4 cnt en bu cu kd ln li wa sc ho of rn rb rd fa rk rl rr rs tr = some (r, len', acts', wa0', sc0', ho0', of0', wa1', sc1', ho1', of1', wa2', sc2', ho2', of2', wa3', sc3', ho3', of3', wa4', sc4', ho4', of4', fa') ∧ f_X9_play p0 pi plan s sv = some (r, pi', plan', s', sv') ∧ InR cnt en z wa sc ho kd tr ln li cu bu of rn rz rk rd rb rs rl rr pn ph pa pl pm s' := by
  have h0 := h
  obtain ⟨a, RL, hB, hE, hS, he, hC, hn, hz, hP, hM, hMR⟩ := h
  have h4 := hB.1
  have ok : ∀ {s' : Nat → Int32}, MS s' a sc z s → InR cnt en z wa sc ho kd tr ln li cu bu of rn rz rk rd rb rs rl rr pn ph pa pl pm s' := fun g => InR_mk (a := a) (b := a) hB hE hS he hC hn hz hP g hMR rfl
  unfold f_X8_play f_X9_play
  rw [show f_X8_within p0 1 4 = f_X9_in1 p0 1 4 from rfl]
  rcases @e_in p0 1 4 1 4 rfl rfl (by decide) (by decide) with ⟨-, e, -⟩ | ⟨n, hn1, hn4, rfl, -, e⟩
  · rw [e, qb1, qb1, if_pos rfl, if_pos rfl]; exact ⟨_, _, _, _, _, _, _, _, _, _, _, _, _, _, _, _, _, _, _, _, _, _, _, _, _, _, _, _, rfl, rfl, h0⟩
  · rw [e, qb1, qb1, if_neg n10, if_neg n10]
    rw [e8_isOver hS.1 he hB, qb1, e9_isOver hB hM, qb1]
    by_cases c : a 0 < a 1
    · rw [if_pos c, if_pos rfl, if_pos rfl]
      obtain ⟨fa2, acts2, wa02, sc02, ho02, of02, wa12, sc12, ho12, of12, wa22, sc22, ho22, of22, wa32, sc32, ho32, of32, wa42, sc42, ho42, of42, u1, u2⟩ := e8_duelOf (cnt := cnt) hB hE hS he hC hn4 wa1 sc1 ho1 wa2 sc2 ho2 wa3 sc3 ho3 wa4 sc4 ho4 fa acts of0 of1 of2 of3 of4
      obtain ⟨pi2, plan2, s2, sv2, v1, v2, -, v4, -⟩ := e9_played (RL := RL) (L := min n (a 1 - a 0)) (by omega) (min n (a 1 - a 0)) 0 6 a sc pi plan s sv (by omega) (by omega) hB hM hMR (by have := hB.2.1; omega)
      have v1' : F_X9_playedFrom 6 0 (nI (min n (a 1 - a 0))) pi plan s sv = _ := v1
      rw [← hn] at u1
      have gl := (gv_le (RL := RL) (min n (a 1 - a 0)) 0 a hB (by omega)).1
      rw [u1, qb24, e9_days hB hM hn4, qb1, v1', qb5, if_pos (nI_pos' (by omega)), u2 (by omega), v4 (by omega)]
      exact ⟨_, _, _, _, _, _, _, _, _, _, _, _, _, _, _, _, _, _, _, _, _, _, _, _, _, _, _, _, rfl, rfl, ok v2⟩
    · rw [if_neg c, if_neg n10, if_neg n10]; exact ⟨_, _, _, _, _, _, _, _, _, _, _, _, _, _, _, _, _, _, _, _, _, _, _, _, _, _, _, _, rfl, rfl, h0⟩
end EU2
