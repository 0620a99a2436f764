/-! ===== E: acts of things, the doors ===== -/
theorem app_eqC {g h : Nat → Int32} (H : ∀ i, i < 30 → g i = h i) (c : Nat) (L : List Int32) : ∀ i, i < 30 → app g c L i = app h c L i := app_eq (g := g) (h := h) L c g h H
theorem lnL_le (k : Nat) (p : Prop) [Decidable p] : (lnL k p).length ≤ 15 := by
  have h1 := slL_le k p
  have h2 := slL_le 3 p
  have h3 := tkL_le 3
  unfold lnL
  split
  · split
    · rw [List.length_cons]; omega
    · rw [List.length_append, List.length_cons]; omega
  · omega
section EV
variable {cnt en z wa sc hom rn rz pn : Int32} {kd tr ln li cu bu of rk rd rb rs rl rr ph pa pl pm s : Nat → Int32} {so sz it ho sh ss sw ms mz mn mh mo : Nat → Int32} {tc td : Int32} {bo tra : Nat → Int32}
theorem InT_mk {n : Nat} (hn : n ≤ 30) {L : List Int32} (hT : InT tc bo td tra) : InT (nI n) (app bo 0 L) (nI n) (app tra 0 L) := by
  obtain ⟨t, _, _, _, h⟩ := hT
  exact ⟨n, hn, rfl, rfl, app_eqC h 0 L⟩
theorem st_act (hT : InT tc bo td tra) (h : InH so sz it ho sh ss sw ms mz mn mh mo) (hI : InR cnt en z wa sc hom kd tr ln li cu bu of rn rz rk rd rb rs rl rr pn ph pa pl pm s) (p0 p1 p2 tk tn ta own isP : Int32) : ∃ r tc' pd' tk' tn' ta' bo' td' own' isP' tra', f_X8_act p0 p1 p2 ho sh cnt kd ln tk tn ta bo = some (r, tc', pd', tk', tn', ta', bo') ∧ f_X9_act p0 p1 p2 own isP mo mh s tra = some (r, td', own', isP', tra') ∧ InT tc' bo' td' tra' := by
  obtain ⟨h1, h2, h3⟩ := h
  obtain ⟨a, RL, hB, hE, hS, he, hC, hn, hz, hP, hM, hMR⟩ := hI
  have h4 := hB.1
  have h00 : InT 0 bo 0 tra := by
    obtain ⟨t, _, _, _, h⟩ := hT
    exact ⟨0, by omega, rfl, rfl, h⟩
  have nos : ∀ s0 : Int32, f_X3_has s0 cnt = some 0 → f_X8_act_b27 p1 p2 cnt kd ln tk tn ta bo s0 0 0 = some (0, 0, 0, tk, tn, ta, bo) := by
    intro s0 e
    unfold f_X8_act_b27
    rw [e, qb1, if_pos rfl]
  have nm3 : f_X3_has (-3) cnt = some 0 := by unfold f_X3_has; exact if_pos (by decide)
  unfold f_X8_act f_X9_act f_X7_forgetTrace
  rw [qb2]
  rcases e_sh (p := p0) with ⟨-, e1, e2⟩ | ⟨k, hk, rfl, -, e1, e2⟩
  · rw [e1, e2, qb1, qb1, if_pos rfl, if_pos rfl, nos _ nm3]; exact ⟨_, _, _, _, _, _, _, _, _, _, _, rfl, rfl, h00⟩
  · rw [e1, e2, qb1, qb1, if_neg n10, if_neg n10]
    unfold f_X0_shipOn
    simp (disch := omega) only [qcI, q_cl]
    unfold f_X9_heldOn
    simp (disch := omega) only [qcI, q_cl]
    have bad : f_X8_act_b27 p1 p2 cnt kd ln tk tn ta bo (-3) 0 0 = some (0, 0, 0, tk, tn, ta, bo) := nos _ nm3
    have hact := @e_in p1 0 3 0 3 rfl rfl (by decide) (by decide)
    -- the model without a held ship
    have mbad : ∀ (K : Int32 → Option (Int32 × Int32 × Int32 × Int32 × (Nat → Int32))) (v : Int32), ¬ v = 0 → bd1 (f_X9_in1 p1 0 3) (fun r4 => if r4 = 0 then some (0, 0, own, isP, tra) else bd1 (some v) (fun r7 => if r7 = 0 then K r7 else some (0, 0, own, isP, tra))) = some (0, 0, own, isP, tra) := by
      intro K v hv
      rcases hact with ⟨-, e3, -⟩ | ⟨q, -, -, -, -, e3⟩
      · rw [e3, qb1, if_pos rfl]
      · rw [e3, qb1, if_neg n10, qb1, if_neg hv]
    rcases h3 k hk with ⟨g1, g2⟩ | ⟨j, hj, g1, g2, g3, g4⟩ | ⟨w, n, hw, hn, g1, g2, g3, g4, g5⟩
    · rw [g1, g2, if_neg (show ¬ (0 : Int32) = 1 by decide), qb1, bad, if_neg (show ¬ (-1 : Int32) = 0 by decide), mbad _ _ (by decide)]
      exact ⟨_, _, _, _, _, _, _, _, _, _, _, rfl, rfl, h00⟩
    · rw [g1, g2, g3, g4, if_pos rfl, if_pos rfl, qb1, hE.1]
      rcases e_has (p := nI j) (n := a 4) (hM.1 4 (by decide) (by decide) (by decide)) (by omega) with ⟨e6, e7⟩ | ⟨j2, hj2, ej, e6, e7⟩
      · rw [← hE.1] at e6 ⊢
        rw [nos _ e6, e7, qb1, if_pos rfl, mbad _ _ (by decide)]; exact ⟨_, _, _, _, _, _, _, _, _, _, _, rfl, rfl, h00⟩
      · rw [e7, qb1, if_neg n10]
        unfold f_X8_act_b27 f_X7_stand
        rw [e6, qb1, if_neg n10, qcI hj (by decide), qcI hj (by decide), q_cl (by omega), hE.ekd j hj, hE.eln j hj, qb3]
        have b1 := hB.2.2.2.1 j hj
        have h6 : a (35 + 5 * j) < 6 := by omega
        rcases hact with ⟨-, e3, d⟩ | ⟨q, -, hq, rfl, -, e3⟩
        · have f0 : ¬ p1 = 0 := by intro z; subst z; exact absurd d (by decide)
          have f1 : ¬ p1 = 1 := by intro z; subst z; exact absurd d (by decide)
          have f2 : ¬ p1 = 2 := by intro z; subst z; exact absurd d (by decide)
          have f3 : ¬ p1 = 3 := by intro z; subst z; exact absurd d (by decide)
          rw [if_neg f0, if_neg f1, if_neg f2, if_neg f3, e3, qb1, if_pos rfl]
          exact ⟨_, _, _, _, _, _, _, _, _, _, _, rfl, rfl, h00⟩
        · have l1 := sgL_le (a (35 + 5 * j))
          have l2 := tkL_le (a (35 + 5 * j))
          rw [e3, qb1, if_neg n10, qb1, if_pos rfl, qt1, e9_kind hM.1 hj, qb1]
          have z0 : nI 0 = (0 : Int32) := rfl
          rcases (show q = 0 ∨ q = 1 ∨ q = 2 ∨ q = 3 by omega) with rfl | rfl | rfl | rfl
          · have u1 := e8_sights h6 (c := 0) (by omega) p2 (nI j) bo
            have u2 := e9_sights h6 (c := 0) (by omega) p2 (nI j) tra
            rw [z0] at u1 u2
            rw [if_pos z0, if_pos z0, u1, u2, qb3, qb3]
            unfold f_X8_act_b162 f_X9_act_b108
            rw [if_pos rfl, if_pos rfl]
            exact ⟨_, _, _, _, _, _, _, _, _, _, _, rfl, rfl, InT_mk (by omega) hT⟩
          · have u1 := e8_tacks h6 (c := 0) (by omega) p2 (nI j) (nI (a (38 + 5 * j))) bo
            have u2 := e9_tacks hB hM.1 hj (c := 0) (by omega) p2 tra
            rw [z0] at u1 u2
            rw [if_neg (show ¬ nI 1 = 0 by decide), if_neg (show ¬ nI 1 = 0 by decide), if_pos (show nI 1 = 1 from rfl), if_pos (show nI 1 = 1 from rfl), u1, u2, qb3, qb3]
            unfold f_X8_act_b162 f_X9_act_b108
            rw [if_pos rfl, if_pos rfl]
            exact ⟨_, _, _, _, _, _, _, _, _, _, _, rfl, rfl, InT_mk (by omega) hT⟩
          · have l3 := sdL_le (a (35 + 5 * j)) (nI j + nI (a (38 + 5 * j)) - 5 = 0)
            obtain ⟨r1, u1, v1⟩ := e8_sounds h6 (c := 0) (by omega) p2 (nI j) (nI (a (38 + 5 * j))) bo
            obtain ⟨r2, u2, v2⟩ := e9_sounds hB hM.1 hj (c := 0) (by omega) p2 tra
            rw [if_neg (show ¬ nI 2 = 0 by decide), if_neg (show ¬ nI 2 = 0 by decide), if_neg (show ¬ nI 2 = 1 by decide), if_neg (show ¬ nI 2 = 1 by decide), if_pos (show nI 2 = 2 from rfl), if_pos (show nI 2 = 2 from rfl)]
            rw [z0] at u1 u2
            rw [u1, u2, qb4, qb4]
            unfold f_X8_act_b162 f_X9_act_b108
            by_cases c : nI j + nI (a (38 + 5 * j)) - 5 = 0
            · rw [if_pos c, if_neg n10, if_neg n10]
              exact ⟨_, _, _, _, _, _, _, _, _, _, _, rfl, rfl, InT_mk (by omega) hT⟩
            · rw [if_neg c, if_pos rfl, if_pos rfl, v1 c, v2 c]
              exact ⟨_, _, _, _, _, _, _, _, _, _, _, rfl, rfl, InT_mk (by omega) hT⟩
          · have l3 := lnL_le (a (35 + 5 * j)) (nI j + nI (a (38 + 5 * j)) - 5 = 0)
            obtain ⟨r1, u1, v1⟩ := e8_lands h6 (c := 0) (by omega) p2 (nI j) (nI (a (38 + 5 * j))) bo
            obtain ⟨r2, u2, v2⟩ := e9_lands hB hM.1 hj (c := 0) (by omega) p2 tra
            rw [if_neg (show ¬ nI 3 = 0 by decide), if_neg (show ¬ nI 3 = 0 by decide), if_neg (show ¬ nI 3 = 1 by decide), if_neg (show ¬ nI 3 = 1 by decide), if_neg (show ¬ nI 3 = 2 by decide), if_neg (show ¬ nI 3 = 2 by decide), if_pos (show nI 3 = 3 from rfl)]
            rw [z0] at u1 u2
            rw [u1, u2, qb4, qb4]
            unfold f_X8_act_b162 f_X9_act_b108
            by_cases c : nI j + nI (a (38 + 5 * j)) - 5 = 0
            · rw [if_pos c, if_neg n10, if_neg n10]
              exact ⟨_, _, _, _, _, _, _, _, _, _, _, rfl, rfl, InT_mk (by omega) hT⟩
            · rw [if_neg c, if_pos rfl, if_pos rfl, v1 c, v2 c]
              exact ⟨_, _, _, _, _, _, _, _, _, _, _, rfl, rfl, InT_mk (by omega) hT⟩
    · rw [g1, g2, if_neg (show ¬ (2 : Int32) = 1 by decide), qb1, bad, if_neg (show ¬ nI (10 + w) = 0 from nI_ne0 (by omega) (by omega)), mbad _ _ (nI_ne0 (by omega) (by omega))]
      exact ⟨_, _, _, _, _, _, _, _, _, _, _, rfl, rfl, h00⟩
theorem st_trace (hT : InT tc bo td tra) (p0 : Int32) : ∃ r, f_X8_trace p0 tc bo = some r ∧ f_X9_trace p0 td tra = some r := by
  obtain ⟨t, ht, rfl, rfl, h⟩ := hT
  unfold f_X8_trace f_X9_trace
  rw [show f_X8_within p0 0 (nI t - 1) = f_X9_in1 p0 0 (nI t - 1) from rfl]
  rcases e_upto (p := p0) (n := t) (by omega) with ⟨-, e⟩ | ⟨i, hi, rfl, e⟩
  · rw [e, qb1, qb1, if_pos rfl, if_pos rfl]; exact ⟨_, rfl, rfl⟩
  · rw [e, qb1, qb1, if_neg n10, if_neg n10, qcI (show i < 30 by omega) (by decide), qcI (show i < 30 by omega) (by decide), q_cl (by omega), h i (by omega)]; exact ⟨_, rfl, rfl⟩
theorem hb_ones : ∀ h, h < 64 → f_J6_bitCount_0f7a4 (nI h) = f_X9_ones (nI h) ∧ (f_X9_ones (nI h)).isSome := by decide +kernel
theorem st_many (hT : InT tc bo td tra) (hI : InR cnt en z wa sc hom kd tr ln li cu bu of rn rz rk rd rb rs rl rr pn ph pa pl pm s) (p0 tp row : Int32) : ∃ r, f_X8_many p0 tp row cnt hom pn rn tc = some r ∧ f_X9_many p0 tp row td s = some r := by
  obtain ⟨t, ht, rfl, rfl, h⟩ := hT
  obtain ⟨a, RL, hB, hE, hS, he, hC, hn, hz, hP, hM, hMR⟩ := hI
  obtain ⟨e1, e2⟩ := hb_ones (hb a) (hb_lt hB)
  obtain ⟨v, hv⟩ := Option.isSome_iff_exists.mp e2
  unfold f_X8_many f_X9_many
  rw [hM.1 4 (by decide) (by decide) (by decide), hM.1 5 (by decide) (by decide) (by decide), hM.1 6 (by decide) (by decide) (by decide), hMR.2.2.2, hE.1, hn, hS.2.1, hP.1, e9_those hB hM.1, qb1, e1, hv, qb1]
  repeat' split
  all_goals exact ⟨_, rfl, rfl⟩
end EV
