/-! ===== E: calls on the rock ===== -/
theorem n10 : ¬ (1 : Int32) = 0 := by decide
section S1
variable {cnt en z wa sc ho rn rz pn : Int32} {kd tr ln li cu bu of rk rd rb rs rl rr ph pa pl pm s fa pi : Nat → Int32}
theorem st_remake (h : InR cnt en z wa sc ho kd tr ln li cu bu of rn rz rk rd rb rs rl rr pn ph pa pl pm s) (p0 p1 : Int32) :
    ∃ r kd' s', f_X8_remake p0 p1 cnt kd = some (r, kd') ∧ f_X9_remake p0 p1 s = some (r, s') ∧ InR cnt en z wa sc ho kd' tr ln li cu bu of rn rz rk rd rb rs rl rr pn ph pa pl pm s' := by
  have h0 := h
  obtain ⟨a, RL, hB, hE, hS, he, hC, hn, hz, hP, hM, hMR⟩ := h
  have h4 := hB.1
  unfold f_X8_remake f_X9_remake f_X8_put
  rcases e_has (p := p0) (n := a 4) (hM.1 4 (by decide) (by decide) (by decide)) (by omega) with ⟨e1, e2⟩ | ⟨k, hk, rfl, e1, e2⟩
  · exact ⟨-1, kd, s, by rw [hE.1, e1, qb1, if_pos rfl], by rw [e2, qb1, if_pos rfl], h0⟩
  · rcases e_in (p := p1) (lo := 1) (hi := 5) 1 5 rfl rfl (by decide) (by decide) with ⟨e3, e4, -⟩ | ⟨q, q1, q2, rfl, e3, e4⟩
    · exact ⟨-1, kd, s, by rw [hE.1, e1, qb1, if_neg n10, e3, qb1, if_pos rfl], by rw [e2, qb1, if_neg n10, e4, qb1, if_pos rfl], h0⟩
    · refine ⟨nI (a (35 + 5 * k)), upd kd k (nI q), upd s (35 + 5 * k) (nI q), ?_, ?_, ?_⟩
      · rw [hE.1, e1, qb1, if_neg n10, e3, qb1, if_neg n10, qcI (by omega) (by omega), qt1, qcI (by omega) (by omega), qb2, q_cl (by omega), hE.ekd k (by omega)]
      · rw [e2, qb1, if_neg n10, e4, qb1, if_neg n10, ql35, ql5, q_mul, q_add, e9_becomes (by omega), qb2, hM.1 _ (by omega) (by omega) (by omega)]
      · refine InR_mk (a := updN a (35 + 5 * k) q) (b := a) (BA_upd hB (by omega) (by omega) (by omega) (fun i hi => by omega) (by omega) (by omega)) ?_ ?_ ?_ hC hn hz (RP_congr hP (fun y hy => updN_ne _ _ (by omega))) (MS_upd hM q (by omega) (by omega)) hMR (updN_ne _ _ (by omega))
        · exact CE_mk (by rw [updN_ne _ _ (by omega)]; exact hE.1) (ar5 hE.ekd) (ar5n hE.etr (by omega)) (ar5n hE.eln (by omega)) (ar1n hE.eli (by omega)) (ar1n hE.ecu (by omega)) (ar1n hE.ebu (by omega))
        · exact ⟨by rw [updN_ne _ _ (by omega)]; exact hS.1, by rw [hb_congr (a := a) (fun y h1 h2 => updN_ne _ _ (by omega))]; exact hS.2.1, ar5n hS.2.2 (by omega)⟩
        · rw [updN_ne _ _ (by omega)]; exact he
theorem CS_n {a : Nat → Nat} {j x : Nat} (hS : CS wa ho of a) (h0 : j ≠ 0) (h1 : j < 35 ∨ 65 ≤ j ∨ (j % 5 ≠ 1 ∧ j % 5 ≠ 4)) : CS wa ho of (updN a j x) :=
  ⟨by rw [updN_ne _ _ (by omega)]; exact hS.1, by
    have : hb (updN a j x) = hb a := by
      unfold hb
      rw [updN_ne _ _ (by omega), updN_ne _ _ (by omega), updN_ne _ _ (by omega), updN_ne _ _ (by omega), updN_ne _ _ (by omega), updN_ne _ _ (by omega)]
    rw [this]; exact hS.2.1, ar5n hS.2.2 (by omega)⟩
theorem st_light (h : InR cnt en z wa sc ho kd tr ln li cu bu of rn rz rk rd rb rs rl rr pn ph pa pl pm s) (p0 p1 : Int32) :
    ∃ r li' s', f_X8_light p0 p1 li = some (r, li') ∧ f_X9_light p0 p1 s = some (r, s') ∧ InR cnt en z wa sc ho kd tr ln li' cu bu of rn rz rk rd rb rs rl rr pn ph pa pl pm s' := by
  have h0 := h
  obtain ⟨a, RL, hB, hE, hS, he, hC, hn, hz, hP, hM, hMR⟩ := h
  unfold f_X8_light f_X9_light f_X8_put
  rcases e_in (p := p0) (lo := 0) (hi := 15) 0 15 rfl rfl (by decide) (by decide) with ⟨e1, e2, -⟩ | ⟨k, k1, k2, rfl, e1, e2⟩
  · exact ⟨-1, li, s, by rw [e1, qb1, if_pos rfl], by rw [e2, qb1, if_pos rfl], h0⟩
  · rcases e_in (p := p1) (lo := 0) (hi := 15) 0 15 rfl rfl (by decide) (by decide) with ⟨e3, e4, -⟩ | ⟨q, q1, q2, rfl, e3, e4⟩
    · exact ⟨-1, li, s, by rw [e1, qb1, if_neg n10, e3, qb1, if_pos rfl], by rw [e2, qb1, if_neg n10, e4, qb1, if_pos rfl], h0⟩
    · refine ⟨nI (a (7 + k)), upd li k (nI q), upd s (7 + k) (nI q), ?_, ?_, ?_⟩
      · rw [e1, qb1, if_neg n10, e3, qb1, if_neg n10, qcI (by omega) (by omega), qt1, qcI (by omega) (by omega), qb2, q_cl (by omega), hE.eli k (by omega)]
      · rw [e2, qb1, if_neg n10, e4, qb1, if_neg n10, ql7, q_add, e9_becomes (by omega), qb2, hM.1 _ (by omega) (by omega) (by omega)]
      · refine InR_mk (a := updN a (7 + k) q) (b := a) (BA_upd hB (by omega) (by omega) (by omega) (fun i hi => by omega) (by omega) (by omega)) ?_ (CS_n hS (by omega) (by omega)) ?_ hC hn hz (RP_congr hP (fun y hy => updN_ne _ _ (by omega))) ⟨RM_upd hM.1 _ _, by rw [upd_ne _ _ (by omega)]; exact hM.2.1, by rw [upd_ne _ _ (by omega)]; exact hM.2.2.1, fun j hj => upd_ne _ _ (by omega)⟩ hMR (updN_ne _ _ (by omega))
        · exact CE_mk (by rw [updN_ne _ _ (by omega)]; exact hE.1) (ar5n hE.ekd (by omega)) (ar5n hE.etr (by omega)) (ar5n hE.eln (by omega)) (ar1 hE.eli) (ar1n hE.ecu (by omega)) (ar1n hE.ebu (by omega))
        · rw [updN_ne _ _ (by omega)]; exact he
theorem st_lane (h : InR cnt en z wa sc ho kd tr ln li cu bu of rn rz rk rd rb rs rl rr pn ph pa pl pm s) (p0 p1 p2 : Int32) :
    ∃ r bu' cu' s', f_X8_lane p0 p1 p2 bu cu = some (r, bu', cu') ∧ f_X9_lane p0 p1 p2 s = some (r, s') ∧ InR cnt en z wa sc ho kd tr ln li cu' bu' of rn rz rk rd rb rs rl rr pn ph pa pl pm s' := by
  have h0 := h
  obtain ⟨a, RL, hB, hE, hS, he, hC, hn, hz, hP, hM, hMR⟩ := h
  unfold f_X8_lane f_X9_lane f_X8_put
  rcases e_in (p := p0) (lo := 0) (hi := 5) 0 5 rfl rfl (by decide) (by decide) with ⟨e1, e2, -⟩ | ⟨k, k1, k2, rfl, e1, e2⟩
  · exact ⟨-1, bu, cu, s, by rw [e1, qb1, if_pos rfl], by rw [e_lane (Or.inl e2), e2, qb1, if_pos rfl], h0⟩
  · rw [e_lane (Or.inr e2)]
    rcases e_in (p := p1) (lo := 0) (hi := 1) 0 1 rfl rfl (by decide) (by decide) with ⟨e3, e4, -⟩ | ⟨f, f1, f2, rfl, e3, e4⟩
    · exact ⟨-1, bu, cu, s, by rw [e1, qb1, if_neg n10, e3, qb1, if_pos rfl], by rw [e2, qb1, if_neg n10, e4, qb1, if_pos rfl], h0⟩
    · rcases e_in (p := p2) (lo := 0) (hi := 9) 0 9 rfl rfl (by decide) (by decide) with ⟨e5, e6, -⟩ | ⟨q, q1, q2, rfl, e5, e6⟩
      · exact ⟨-1, bu, cu, s, by rw [e1, qb1, if_neg n10, e3, qb1, if_neg n10, e5, qb1, if_pos rfl], by rw [e2, qb1, if_neg n10, e4, qb1, if_neg n10, e_digit (Or.inl e6), e6, qb1, if_pos rfl], h0⟩
      · rw [e_digit (Or.inr e6)]
        rcases (by omega : f = 0 ∨ f = 1) with rfl | rfl
        · refine ⟨nI (a (23 + k)), bu, upd cu k (nI q), upd s (23 + k) (nI q), ?_, ?_, ?_⟩
          · rw [e1, qb1, if_neg n10, e3, qb1, if_neg n10, e5, qb1, if_neg n10, if_pos (by decide), qcI (by omega) (by omega), qt1, qcI (by omega) (by omega), qb2, q_cl (by omega), hE.ecu k (by omega)]
          · rw [e2, qb1, if_neg n10, e4, qb1, if_neg n10, e6, qb1, if_neg n10, if_pos (by decide), ql23, q_add, e9_becomes (by omega), qb2, hM.1 _ (by omega) (by omega) (by omega)]
          · refine InR_mk (a := updN a (23 + k) q) (b := a) (BA_upd hB (by omega) (by omega) (by omega) (fun i hi => by omega) (by omega) (by omega)) ?_ (CS_n hS (by omega) (by omega)) ?_ hC hn hz (RP_congr hP (fun y hy => updN_ne _ _ (by omega))) ⟨RM_upd hM.1 _ _, by rw [upd_ne _ _ (by omega)]; exact hM.2.1, by rw [upd_ne _ _ (by omega)]; exact hM.2.2.1, fun j hj => upd_ne _ _ (by omega)⟩ hMR (updN_ne _ _ (by omega))
            · exact CE_mk (by rw [updN_ne _ _ (by omega)]; exact hE.1) (ar5n hE.ekd (by omega)) (ar5n hE.etr (by omega)) (ar5n hE.eln (by omega)) (ar1n hE.eli (by omega)) (ar1 hE.ecu) (ar1n hE.ebu (by omega))
            · rw [updN_ne _ _ (by omega)]; exact he
        · refine ⟨nI (a (29 + k)), upd bu k (nI q), cu, upd s (29 + k) (nI q), ?_, ?_, ?_⟩
          · rw [e1, qb1, if_neg n10, e3, qb1, if_neg n10, e5, qb1, if_neg n10, if_neg (by decide), qcI (by omega) (by omega), qt1, qcI (by omega) (by omega), qb2, q_cl (by omega), hE.ebu k (by omega)]
          · rw [e2, qb1, if_neg n10, e4, qb1, if_neg n10, e6, qb1, if_neg n10, if_neg (by decide), ql29, q_add, e9_becomes (by omega), qb2, hM.1 _ (by omega) (by omega) (by omega)]
          · refine InR_mk (a := updN a (29 + k) q) (b := a) (BA_upd hB (by omega) (by omega) (by omega) (fun i hi => by omega) (by omega) (by omega)) ?_ (CS_n hS (by omega) (by omega)) ?_ hC hn hz (RP_congr hP (fun y hy => updN_ne _ _ (by omega))) ⟨RM_upd hM.1 _ _, by rw [upd_ne _ _ (by omega)]; exact hM.2.1, by rw [upd_ne _ _ (by omega)]; exact hM.2.2.1, fun j hj => upd_ne _ _ (by omega)⟩ hMR (updN_ne _ _ (by omega))
            · exact CE_mk (by rw [updN_ne _ _ (by omega)]; exact hE.1) (ar5n hE.ekd (by omega)) (ar5n hE.etr (by omega)) (ar5n hE.eln (by omega)) (ar1n hE.eli (by omega)) (ar1n hE.ecu (by omega)) (ar1 hE.ebu)
            · rw [updN_ne _ _ (by omega)]; exact he
theorem st_laneOf (h : InR cnt en z wa sc ho kd tr ln li cu bu of rn rz rk rd rb rs rl rr pn ph pa pl pm s) (p0 p1 : Int32) :
    ∃ r, f_X8_laneOf p0 p1 bu cu = some r ∧ f_X9_laneOf p0 p1 s = some r := by
  obtain ⟨a, RL, hB, hE, hS, he, hC, hn, hz, hP, hM, hMR⟩ := h
  unfold f_X8_laneOf f_X9_laneOf
  rcases e_in (p := p0) (lo := 0) (hi := 5) 0 5 rfl rfl (by decide) (by decide) with ⟨e1, e2, -⟩ | ⟨k, k1, k2, rfl, e1, e2⟩
  · exact ⟨-1, by rw [e1, qb1, if_pos rfl], by rw [e_lane (Or.inl e2), e2, qb1, if_pos rfl]⟩
  · rw [e_lane (Or.inr e2)]
    rcases e_in (p := p1) (lo := 0) (hi := 1) 0 1 rfl rfl (by decide) (by decide) with ⟨e3, e4, -⟩ | ⟨f, f1, f2, rfl, e3, e4⟩
    · exact ⟨-1, by rw [e1, qb1, if_neg n10, e3, qb1, if_pos rfl], by rw [e2, qb1, if_neg n10, e4, qb1, if_pos rfl]⟩
    · rw [e1, qb1, if_neg n10, e3, qb1, if_neg n10, e2, qb1, if_neg n10, e4, qb1, if_neg n10, ql23, ql29, q_add, q_add]
      simp (disch := omega) only [qcI, q_cl, hE.ecu, hE.ebu, hM.1 (23 + k), hM.1 (29 + k)]
      split <;> exact ⟨_, rfl, rfl⟩
theorem st_ends (h : InR cnt en z wa sc ho kd tr ln li cu bu of rn rz rk rd rb rs rl rr pn ph pa pl pm s) (p0 : Int32) :
    ∃ r en' s', f_X8_ends p0 en wa = some (r, en') ∧ f_X9_ends p0 s = some (r, s') ∧ InR cnt en' z wa sc ho kd tr ln li cu bu of rn rz rk rd rb rs rl rr pn ph pa pl pm s' := by
  have h0 := h
  obtain ⟨a, RL, hB, hE, hS, he, hC, hn, hz, hP, hM, hMR⟩ := h
  have b1 := hB.2.1
  have b2 := hB.2.2.1
  unfold f_X8_ends f_X9_ends
  rcases e_in (p := p0) (lo := 1) (hi := 16) 1 16 rfl rfl (by decide) (by decide) with ⟨e1, e2, -⟩ | ⟨k, k1, k2, rfl, e1, e2⟩
  · exact ⟨-1, en, s, by rw [e1, qb1, if_pos rfl], by rw [e2, qb1, if_pos rfl], h0⟩
  · rw [e1, qb1, if_neg n10, e2, qb1, if_neg n10, hS.1, hM.1 0 (by decide) (by decide) (by decide)]
    simp (disch := omega) only [q_le]
    by_cases c : a 0 ≤ k
    · rw [if_pos c, if_pos c, ql1, e9_becomes (by decide), qb2, hM.1 1 (by decide) (by decide) (by decide)]
      refine ⟨nI (a 1), nI k, upd s 1 (nI k), by rw [he], rfl, ?_⟩
      rw [← hS.1]
      refine InR_mk (a := updN a 1 k) (b := a) (BA_upd hB (by omega) (by omega) (by omega) (fun i hi => by omega) (by omega) (by omega)) ?_ (CS_n hS (by omega) (by omega)) ?_ hC hn hz (RP_congr hP (fun y hy => updN_ne _ _ (by omega))) ⟨RM_upd hM.1 _ _, by rw [upd_ne _ _ (by omega)]; exact hM.2.1, by rw [upd_ne _ _ (by omega)]; exact hM.2.2.1, fun j hj => upd_ne _ _ (by omega)⟩ hMR (updN_ne _ _ (by omega))
      · exact CE_mk (by rw [updN_ne _ _ (by omega)]; exact hE.1) (ar5n hE.ekd (by omega)) (ar5n hE.etr (by omega)) (ar5n hE.eln (by omega)) (ar1n hE.eli (by omega)) (ar1n hE.ecu (by omega)) (ar1n hE.ebu (by omega))
      · rw [updN_at]
    · rw [if_neg c, if_neg c]
      exact ⟨-4, en, s, rfl, rfl, by rw [← hS.1]; exact h0⟩
theorem st_seed (h : InR cnt en z wa sc ho kd tr ln li cu bu of rn rz rk rd rb rs rl rr pn ph pa pl pm s) (p0 : Int32) :
    ∃ r z' s', f_X8_seed p0 z = some (r, z') ∧ f_X9_seed p0 s = some (r, s') ∧ InR cnt en z' wa sc ho kd tr ln li cu bu of rn rz rk rd rb rs rl rr pn ph pa pl pm s' := by
  obtain ⟨a, RL, hB, hE, hS, he, hC, hn, hz, hP, hM, hMR⟩ := h
  unfold f_X8_seed f_X9_seed
  refine ⟨z, p0, upd s 3 p0, rfl, ?_, ?_⟩
  · rw [ql3, e9_becomes (by decide), qb2, hM.2.2.1]
  · exact InR_mk (a := a) (b := a) hB hE hS he hC hn hz hP ⟨fun i h1 h2 h3 => by rw [upd_ne _ _ h3]; exact hM.1 i h1 h2 h3, by rw [upd_ne _ _ (by decide)]; exact hM.2.1, upd_at _ _ _, fun j hj => upd_ne _ _ (by omega)⟩ hMR rfl
theorem st_forget (h : InR cnt en z wa sc ho kd tr ln li cu bu of rn rz rk rd rb rs rl rr pn ph pa pl pm s) :
    ∃ r pn' s', f_X8_forget pn = some (r, pn') ∧ f_X9_forget s = some (r, s') ∧ InR cnt en z wa sc ho kd tr ln li cu bu of rn rz rk rd rb rs rl rr pn' ph pa pl pm s' := by
  obtain ⟨a, RL, hB, hE, hS, he, hC, hn, hz, hP, hM, hMR⟩ := h
  unfold f_X8_forget f_X9_forget
  refine ⟨nI (a 6), 0, upd s 6 (nI 0), ?_, ?_, ?_⟩
  · rw [hP.1]
  · rw [ql6, ql0, e9_becomes (by decide), qb2, hM.1 6 (by decide) (by decide) (by decide)]
  · refine InR_mk (a := updN a 6 0) (b := a) (BA_upd hB (by omega) (by omega) (by omega) (fun i hi => by omega) (by omega) (by omega)) ?_ (CS_n hS (by omega) (by omega)) ?_ hC hn hz ?_ ⟨RM_upd hM.1 _ _, by rw [upd_ne _ _ (by omega)]; exact hM.2.1, by rw [upd_ne _ _ (by omega)]; exact hM.2.2.1, fun j hj => upd_ne _ _ (by omega)⟩ hMR (updN_ne _ _ (by omega))
    · exact CE_mk (by rw [updN_ne _ _ (by omega)]; exact hE.1) (ar5n hE.ekd (by omega)) (ar5n hE.etr (by omega)) (ar5n hE.eln (by omega)) (ar1n hE.eli (by omega)) (ar1n hE.ecu (by omega)) (ar1n hE.ebu (by omega))
    · rw [updN_ne _ _ (by omega)]; exact he
    · obtain ⟨g1, g2, g3, g4⟩ := hP
      refine ⟨by rw [updN_at]; rfl, by rw [updN_at]; exact Nat.zero_le _, fun r hr => ?_, fun r hr => ?_⟩
      · rw [updN_ne _ _ (by omega), updN_ne _ _ (by omega), updN_ne _ _ (by omega), updN_ne _ _ (by omega)]; exact g3 r hr
      · rw [updN_ne _ _ (by omega), updN_ne _ _ (by omega), updN_ne _ _ (by omega), updN_ne _ _ (by omega)]; exact g4 r hr
theorem st_watch (h : InR cnt en z wa sc ho kd tr ln li cu bu of rn rz rk rd rb rs rl rr pn ph pa pl pm s) :
    ∃ r wa' sc' ho' of' fa' pi' s', f_X8_watch cnt en bu cu kd ln li wa sc ho of rn rb rd fa rk rl rr rs tr = some (r, wa', sc', ho', of', fa') ∧ f_X9_watch pi s = some (r, pi', s') ∧ InR cnt en z wa' sc' ho' kd tr ln li cu bu of' rn rz rk rd rb rs rl rr pn ph pa pl pm s' := by
  have h0 := h
  obtain ⟨a, RL, hB, hE, hS, he, hC, hn, hz, hP, hM, hMR⟩ := h
  unfold f_X8_watch f_X9_watch
  rw [e8_isOver hS.1 he hB, qb1, e9_isOver hB hM, qb1]
  by_cases c : a 0 < a 1
  · rw [if_pos c, if_pos rfl, if_pos rfl]
    obtain ⟨wa1, ho1, of1, fa1, e1, e2⟩ := e8_passRest (fa := fa) (sc := sc) hB hE hS hC
    obtain ⟨pi1, s1, e3, e4⟩ := e9_goesRest (pi := pi) hB hM hMR
    rw [← hn] at e1
    refine ⟨_, _, _, _, _, _, _, _, by rw [e1, qb6], by rw [e3, qb3], ?_⟩
    exact InR_mk (a := goA a RL (rAct a RL)) (b := a) (BA_goA hB c) (CE_goA hB hE) e2 (by rw [goA_1 hB]; exact he) hC hn hz (RP_congr hP (fun y hy => goA_oth (by omega) (by omega) hB.1)) e4 hMR (goA_oth (by decide) (by decide) hB.1)
  · rw [if_neg c, if_neg n10, if_neg n10]
    exact ⟨_, _, _, _, _, _, _, _, rfl, rfl, h0⟩
theorem st_on (h : InR cnt en z wa sc ho kd tr ln li cu bu of rn rz rk rd rb rs rl rr pn ph pa pl pm s) {wt st ht : Int32} {ot la : Nat → Int32} (p0 : Int32) :
    ∃ r fa' wt' st' ht' ot' la' pi' s', f_X8_on p0 cnt en bu cu kd ln li wa sc ho of rn rb rd fa rk rl rr rs tr wt st ht ot = some (r, fa', wt', st', ht', ot') ∧ f_X9_on p0 la pi s = some (r, la', pi', s') ∧ InR cnt en z wa sc ho kd tr ln li cu bu of rn rz rk rd rb rs rl rr pn ph pa pl pm s' := by
  have h0 := h
  obtain ⟨a, RL, hB, hE, hS, he, hC, hn, hz, hP, hM, hMR⟩ := h
  unfold f_X8_on f_X9_on
  rcases e_in (p := p0) (lo := 0) (hi := 16) 0 16 rfl rfl (by decide) (by decide) with ⟨e1, e2, -⟩ | ⟨k, k1, k2, rfl, e1, e2⟩
  · exact ⟨-1, _, _, _, _, _, _, _, _, by rw [e1, qb1, if_pos rfl], by rw [e2, qb1, if_pos rfl], h0⟩
  · rw [e1, qb1, if_neg n10, e2, qb1, if_neg n10]
    obtain ⟨fa1, wa1, sc1, ho1, of1, e3, e4⟩ := e8_worth (fa := fa) (of0 := ot) hB hE hS hC he k2
    obtain ⟨la1, e5, e6⟩ := e9_layDown (la := la) (s := s)
    obtain ⟨pi1, s1, e7, e8⟩ := e9_restOf (pi := pi) hB hM hMR k2
    obtain ⟨s2, e9, e10⟩ := e9_back hM e6 e8
    rw [← hn] at e3
    refine ⟨_, _, _, _, _, _, _, _, _, by rw [e3, qb6], by rw [e5, qb1, e7, qb3, e9, qb1], ?_⟩
    exact InR_mk (a := a) (b := a) hB hE hS he hC hn hz hP e10 hMR rfl
theorem st_change (h : InR cnt en z wa sc ho kd tr ln li cu bu of rn rz rk rd rb rs rl rr pn ph pa pl pm s) (p0 p1 p2 : Int32) :
    ∃ r ln' ho' of' tr' s', f_X8_change p0 p1 p2 cnt ln ho of tr = some (r, ln', ho', of', tr') ∧ f_X9_change p0 p1 p2 s = some (r, s') ∧ InR cnt en z wa sc ho' kd tr' ln' li cu bu of' rn rz rk rd rb rs rl rr pn ph pa pl pm s' := by
  have h0 := h
  obtain ⟨a, RL, hB, hE, hS, he, hC, hn, hz, hP, hM, hMR⟩ := h
  have h4 := hB.1
  have eb : ∀ m : Int32, f_X9_isShip p0 s = some 0 → f_X9_change_b30 p0 p1 p2 s m = some (-1, s) := by
    intro m e2
    unfold f_X9_change_b30
    rw [e2, qb1, if_pos rfl]
  unfold f_X8_change f_X9_change
  rcases e_has (p := p0) (n := a 4) (hM.1 4 (by decide) (by decide) (by decide)) (by omega) with ⟨e1, e2⟩ | ⟨k, hk, rfl, e1, e2⟩
  · refine ⟨-1, ln, ho, of, tr, s, by rw [hE.1, e1, qb1, if_pos rfl], ?_, h0⟩
    rw [eb _ e2, eb _ e2, eb _ e2, eb _ e2]
    repeat' split
    all_goals rfl
  · rw [hE.1, e1, qb1, if_neg (show ¬ (1 : Int32) = 0 by decide)]
    rcases e_in (p := p1) (lo := 1) (hi := 4) 1 4 rfl rfl (by decide) (by decide) with ⟨-, e4, -⟩ | ⟨q0, q1, q2, rfl, -, e4⟩
    · have n1 : ¬ p1 = 1 := by rintro rfl; revert e4; decide
      have n2 : ¬ p1 = 2 := by rintro rfl; revert e4; decide
      have n3 : ¬ p1 = 3 := by rintro rfl; revert e4; decide
      have n4 : ¬ p1 = 4 := by rintro rfl; revert e4; decide
      rw [if_neg n1, if_neg n2, if_neg n3, if_neg n4, if_neg n1, if_neg n3, if_neg n4]
      refine ⟨-1, ln, ho, of, tr, s, ?_, ?_, by rw [← hE.1]; exact h0⟩
      · split <;> rfl
      · unfold f_X9_change_b30
        rw [e2, qb1, if_neg n10, e4, qb1, if_pos rfl]
    · rcases (by omega : q0 = 1 ∨ q0 = 2 ∨ q0 = 3 ∨ q0 = 4) with rfl | rfl | rfl | rfl
      · rw [if_pos (show nI 1 = 1 by decide)]
        rw [if_pos (show nI 1 = 1 by decide), show f_X9_change_b30 (nI k) (nI 1) p2 s 99 = bd1 (f_X9_in1 p2 0 99) (fun r10 => (if r10 = 0 then some ((-1 : Int32), s) else bd2 (f_X9_becomes ((35 + (5 * nI k)) + nI 1) p2 s) (fun r13 g14 => some (r13, g14)))) by unfold f_X9_change_b30; rw [e2, qb1, if_neg n10, e4, qb1, if_neg n10]]
        rcases e_in (p := p2) (lo := 0) (hi := 99) 0 99 rfl rfl (by decide) (by decide) with ⟨-, e6, e7⟩ | ⟨q, q3, q4, rfl, -, e6⟩
        · refine ⟨-1, ln, ho, of, tr, s, ?_, by rw [e6, qb1, if_pos rfl], by rw [← hE.1]; exact h0⟩
          by_cases c : 0 ≤ p2
          · rw [if_pos c, if_neg]
            intro c2
            rcases e7 with e7 | e7
            · exact Int32.lt_irrefl (Int32.lt_of_lt_of_le e7 c)
            · exact Int32.lt_irrefl (Int32.lt_of_lt_of_le e7 c2)
          · rw [if_neg c]
        · rw [if_pos (nI_pos' (by omega))]
          rw [ql99, if_pos (nI_le (by omega) (by omega))]
          refine ⟨nI (a (36 + 5 * k)), ln, ho, upd of k (nI q), tr, upd s (36 + 5 * k) (nI q), ?_, ?_, ?_⟩
          · unfold f_X8_put
            rw [qcI (by omega) (by omega), qt1, qcI (by omega) (by omega), qb2, q_cl (by omega), hS.2.2 k (by omega)]
          · rw [← ql99, e6, qb1, if_neg n10, ql35, ql5, q_mul, q_add, q_add, show 35 + 5 * k + 1 = 36 + 5 * k by omega, e9_becomes (by omega), qb2, hM.1 _ (by omega) (by omega) (by omega)]
          · rw [← hE.1]
            refine InR_mk (a := updN a (36 + 5 * k) q) (b := a) (BA_upd hB (by omega) (by omega) (by omega) (fun i hi => by omega) (by omega) (by omega)) ?_ ?_ ?_ hC hn hz (RP_congr hP (fun y hy => updN_ne _ _ (by omega))) (MS_upd hM q (by omega) (by omega)) hMR (updN_ne _ _ (by omega))
            · exact CE_mk (by rw [updN_ne _ _ (by omega)]; exact hE.1) (ar5n hE.ekd (by omega)) (ar5n hE.etr (by omega)) (ar5n hE.eln (by omega)) (ar1n hE.eli (by omega)) (ar1n hE.ecu (by omega)) (ar1n hE.ebu (by omega))
            · exact ⟨by rw [updN_ne _ _ (by omega)]; exact hS.1, by rw [hb_congr (a := a) (fun y h1 h2 => updN_ne _ _ (by omega))]; exact hS.2.1, ar5 hS.2.2⟩
            · rw [updN_ne _ _ (by omega)]; exact he
      · rw [if_neg (show ¬ nI 2 = 1 by decide), if_pos (show nI 2 = 2 by decide)]
        rw [if_neg (show ¬ nI 2 = 1 by decide), if_neg (show ¬ nI 2 = 3 by decide), if_neg (show ¬ nI 2 = 4 by decide), show f_X9_change_b30 (nI k) (nI 2) p2 s 9 = bd1 (f_X9_in1 p2 0 9) (fun r10 => (if r10 = 0 then some ((-1 : Int32), s) else bd2 (f_X9_becomes ((35 + (5 * nI k)) + nI 2) p2 s) (fun r13 g14 => some (r13, g14)))) by unfold f_X9_change_b30; rw [e2, qb1, if_neg n10, e4, qb1, if_neg n10]]
        rcases e_in (p := p2) (lo := 0) (hi := 9) 0 9 rfl rfl (by decide) (by decide) with ⟨-, e6, e7⟩ | ⟨q, q3, q4, rfl, -, e6⟩
        · refine ⟨-1, ln, ho, of, tr, s, ?_, by rw [e6, qb1, if_pos rfl], by rw [← hE.1]; exact h0⟩
          by_cases c : 0 ≤ p2
          · rw [if_pos c, if_neg]
            intro c2
            rcases e7 with e7 | e7
            · exact Int32.lt_irrefl (Int32.lt_of_lt_of_le e7 c)
            · exact Int32.lt_irrefl (Int32.lt_of_lt_of_le e7 c2)
          · rw [if_neg c]
        · rw [if_pos (nI_pos' (by omega))]
          rw [ql9, if_pos (nI_le (by omega) (by omega))]
          refine ⟨nI (a (37 + 5 * k)), ln, ho, of, upd tr k (nI q), upd s (37 + 5 * k) (nI q), ?_, ?_, ?_⟩
          · unfold f_X8_put
            rw [qcI (by omega) (by omega), qt1, qcI (by omega) (by omega), qb2, q_cl (by omega), hE.etr k (by omega)]
          · rw [← ql9, e6, qb1, if_neg n10, ql35, ql5, q_mul, q_add, q_add, show 35 + 5 * k + 2 = 37 + 5 * k by omega, e9_becomes (by omega), qb2, hM.1 _ (by omega) (by omega) (by omega)]
          · rw [← hE.1]
            refine InR_mk (a := updN a (37 + 5 * k) q) (b := a) (BA_upd hB (by omega) (by omega) (by omega) (fun i hi => by omega) (by omega) (by omega)) ?_ ?_ ?_ hC hn hz (RP_congr hP (fun y hy => updN_ne _ _ (by omega))) (MS_upd hM q (by omega) (by omega)) hMR (updN_ne _ _ (by omega))
            · exact CE_mk (by rw [updN_ne _ _ (by omega)]; exact hE.1) (ar5n hE.ekd (by omega)) (ar5 hE.etr) (ar5n hE.eln (by omega)) (ar1n hE.eli (by omega)) (ar1n hE.ecu (by omega)) (ar1n hE.ebu (by omega))
            · exact CS_n hS (by omega) (by omega)
            · rw [updN_ne _ _ (by omega)]; exact he
      · rw [if_neg (show ¬ nI 3 = 1 by decide), if_neg (show ¬ nI 3 = 2 by decide), if_pos (show nI 3 = 3 by decide)]
        rw [if_neg (show ¬ nI 3 = 1 by decide), if_pos (show nI 3 = 3 by decide), show f_X9_change_b30 (nI k) (nI 3) p2 s 5 = bd1 (f_X9_in1 p2 0 5) (fun r10 => (if r10 = 0 then some ((-1 : Int32), s) else bd2 (f_X9_becomes ((35 + (5 * nI k)) + nI 3) p2 s) (fun r13 g14 => some (r13, g14)))) by unfold f_X9_change_b30; rw [e2, qb1, if_neg n10, e4, qb1, if_neg n10]]
        rcases e_in (p := p2) (lo := 0) (hi := 5) 0 5 rfl rfl (by decide) (by decide) with ⟨-, e6, e7⟩ | ⟨q, q3, q4, rfl, -, e6⟩
        · refine ⟨-1, ln, ho, of, tr, s, ?_, by rw [e6, qb1, if_pos rfl], by rw [← hE.1]; exact h0⟩
          by_cases c : 0 ≤ p2
          · rw [if_pos c, if_neg]
            intro c2
            rcases e7 with e7 | e7
            · exact Int32.lt_irrefl (Int32.lt_of_lt_of_le e7 c)
            · rw [Int32.lt_iff_toInt_lt] at e7 c2; have e8 : (5 : Int32).toInt = 5 := rfl; have e9 : (6 : Int32).toInt = 6 := rfl; omega
          · rw [if_neg c]
        · rw [if_pos (nI_pos' (by omega))]
          rw [ql6, if_pos (nI_lt (by omega) (by omega))]
          refine ⟨nI (a (38 + 5 * k)), upd ln k (nI q), ho, of, tr, upd s (38 + 5 * k) (nI q), ?_, ?_, ?_⟩
          · unfold f_X8_put
            rw [qcI (by omega) (by omega), qt1, qcI (by omega) (by omega), qb2, q_cl (by omega), hE.eln k (by omega)]
          · rw [e6, qb1, if_neg n10, ql35, ql5, q_mul, q_add, q_add, show 35 + 5 * k + 3 = 38 + 5 * k by omega, e9_becomes (by omega), qb2, hM.1 _ (by omega) (by omega) (by omega)]
          · rw [← hE.1]
            refine InR_mk (a := updN a (38 + 5 * k) q) (b := a) (BA_upd hB (by omega) (by omega) (by omega) (fun i hi => by omega) (by omega) (by omega)) ?_ ?_ ?_ hC hn hz (RP_congr hP (fun y hy => updN_ne _ _ (by omega))) (MS_upd hM q (by omega) (by omega)) hMR (updN_ne _ _ (by omega))
            · exact CE_mk (by rw [updN_ne _ _ (by omega)]; exact hE.1) (ar5n hE.ekd (by omega)) (ar5n hE.etr (by omega)) (ar5 hE.eln) (ar1n hE.eli (by omega)) (ar1n hE.ecu (by omega)) (ar1n hE.ebu (by omega))
            · exact CS_n hS (by omega) (by omega)
            · rw [updN_ne _ _ (by omega)]; exact he
      · rw [if_neg (show ¬ nI 4 = 1 by decide), if_neg (show ¬ nI 4 = 2 by decide), if_neg (show ¬ nI 4 = 3 by decide), if_pos (show nI 4 = 4 by decide)]
        rw [if_neg (show ¬ nI 4 = 1 by decide), if_neg (show ¬ nI 4 = 3 by decide), if_pos (show nI 4 = 4 by decide), show f_X9_change_b30 (nI k) (nI 4) p2 s 1 = bd1 (f_X9_in1 p2 0 1) (fun r10 => (if r10 = 0 then some ((-1 : Int32), s) else bd2 (f_X9_becomes ((35 + (5 * nI k)) + nI 4) p2 s) (fun r13 g14 => some (r13, g14)))) by unfold f_X9_change_b30; rw [e2, qb1, if_neg n10, e4, qb1, if_neg n10]]
        rcases e_in (p := p2) (lo := 0) (hi := 1) 0 1 rfl rfl (by decide) (by decide) with ⟨-, e6, e7⟩ | ⟨q, q3, q4, rfl, -, e6⟩
        · refine ⟨-1, ln, ho, of, tr, s, ?_, by rw [e6, qb1, if_pos rfl], by rw [← hE.1]; exact h0⟩
          by_cases c : 0 ≤ p2
          · rw [if_pos c, if_neg]
            intro c2
            rcases e7 with e7 | e7
            · exact Int32.lt_irrefl (Int32.lt_of_lt_of_le e7 c)
            · exact Int32.lt_irrefl (Int32.lt_of_lt_of_le e7 c2)
          · rw [if_neg c]
        · rw [if_pos (nI_pos' (by omega))]
          rw [ql1, if_pos (nI_le (by omega) (by omega))]
          have hbit := hb_bit hB (show k < 6 by omega)
          have key : ∃ ho', f_X6_bring (nI k) (nI q) ho = some (nI (a (39 + 5 * k)), ho') ∧ ho' = nI (hb (updN a (39 + 5 * k) q)) := by
            rw [hS.2.1]
            rcases (by omega : q = 0 ∨ q = 1) with rfl | rfl
            · exact ⟨_, by rw [← hbit]; exact e8_bring0 _ (hb_lt hB) _ (by omega), by rw [hb_upd0 hB (by omega)]⟩
            · exact ⟨_, by rw [← hbit]; exact e8_bring1 _ (hb_lt hB) _ (by omega), by rw [hb_upd1 hB (by omega)]⟩
          obtain ⟨ho', e8, e9⟩ := key
          refine ⟨nI (a (39 + 5 * k)), ln, ho', of, tr, upd s (39 + 5 * k) (nI q), ?_, ?_, ?_⟩
          · rw [e8, qb2]
          · rw [← ql1, e6, qb1, if_neg n10, ql35, ql5, q_mul, q_add, q_add, show 35 + 5 * k + 4 = 39 + 5 * k by omega, e9_becomes (by omega), qb2, hM.1 _ (by omega) (by omega) (by omega)]
          · rw [← hE.1]
            refine InR_mk (a := updN a (39 + 5 * k) q) (b := a) (BA_upd hB (by omega) (by omega) (by omega) (fun i hi => by omega) (by omega) (by omega)) ?_ ?_ ?_ hC hn hz (RP_congr hP (fun y hy => updN_ne _ _ (by omega))) (MS_upd hM q (by omega) (by omega)) hMR (updN_ne _ _ (by omega))
            · exact CE_mk (by rw [updN_ne _ _ (by omega)]; exact hE.1) (ar5n hE.ekd (by omega)) (ar5n hE.etr (by omega)) (ar5n hE.eln (by omega)) (ar1n hE.eli (by omega)) (ar1n hE.ecu (by omega)) (ar1n hE.ebu (by omega))
            · exact ⟨by rw [updN_ne _ _ (by omega)]; exact hS.1, e9, ar5n hS.2.2 (by omega)⟩
            · rw [updN_ne _ _ (by omega)]; exact he
end S1
