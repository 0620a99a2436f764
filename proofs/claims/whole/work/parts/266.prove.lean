/-! ===== E: rows of the first best plan (printed by wip/whole/provedoor.py) ===== -/
def allLe (n : Nat) (p : List Nat) : Prop := ∀ i, p.getD i 0 ≤ n
theorem allLe_app {n k : Nat} {p : List Nat} (h : allLe n p) (hk : k ≤ n) : allLe n (p ++ [k]) := by
  intro i
  by_cases c : i < p.length
  · rw [gD_lt rfl c]; exact h i
  · by_cases d : i = p.length
    · rw [d, gD_at rfl]; exact hk
    · rw [List.getD_eq_getElem?_getD, List.getElem?_eq_none (by rw [List.length_append, List.length_singleton]; omega)]
      exact Nat.zero_le _
theorem sJ_le {n : Nat} {S T : Su} (h1 : allLe n S.2.2.2.2) (h2 : allLe n T.2.2.2.2) : allLe n (sJ S T).2.2.2.2 := by
  show allLe n (if S.1 < T.1 then T.2.2.2.2 else S.2.2.2.2)
  split
  · exact h2
  · exact h1
theorem sumM_le {RL : List RRul} {w n : Nat} : ∀ (d : Nat) (b : Nat → Nat) (W c : Nat) (pre : List Nat), b 4 = n → n ≤ 6 → BA b → b 0 + d ≤ b 1 → allLe n pre → allLe n (sumM RL w d b W c pre).2.2.2.2 := by
  intro d
  induction d with
  | zero => intro b W c pre _ _ _ _ h; exact h
  | succ d ih =>
    intro b W c pre hb hn hB hO h
    rw [sumM]
    have one : ∀ k, k ≤ b 4 → allLe n (sumM RL w d (goA b RL k) (W + goW b RL k) (c + if k = 0 then 0 else 1) (pre ++ [k])).2.2.2.2 := fun k hk => ih _ _ _ _ (by rw [goA_4 hB, hb]) hn (BA_goA hB (by omega)) (by rw [goA_0, goA_1 hB]; omega) (allLe_app h (by omega))
    have all : ∀ k, k ≤ b 4 → allLe n (sAll (fun k => sumM RL w d (goA b RL k) (W + goW b RL k) (c + if k = 0 then 0 else 1) (pre ++ [k])) k).2.2.2.2 := by
      intro k
      induction k with
      | zero => intro _; exact one 0 (Nat.zero_le _)
      | succ k ihk => intro hk; exact sJ_le (ihk (by omega)) (one (k + 1) hk)
    exact all (b 4) (Nat.le_refl _)
section EQ
variable {a : Nat → Nat} {cnt en z wa sc ho rn rz pn : Int32} {kd tr ln li cu bu of rk rd rb rs rl rr ph pa pl pm s : Nat → Int32} {RL : List RRul}
theorem st_prove (h : InR cnt en z wa sc ho kd tr ln li cu bu of rn rz rk rd rb rs rl rr pn ph pa pl pm s) {rc rm : Int32} {rows rows9 : Nat → Int32} (hW : InW rc rows rm rows9) (p0 len wan bst wys few evh wa0 sc0 ho0 wa1 sc1 ho1 wa2 sc2 ho2 wa3 sc3 ho3 wa4 sc4 ho4 wt st0 ht mo ma fe ev : Int32) (fa acts of0 of1 of2 of3 of4 first ot bp la pi plan sv : Nat → Int32) :
    ∃ r rc' len' wan' bst' wys' few' evh' acts' wa0' sc0' ho0' of0' wa1' sc1' ho1' of1' wa2' sc2' ho2' of2' wa3' sc3' ho3' of3' wa4' sc4' ho4' of4' first' fa' rows' wt' st' ht' ot' mo' ma' fe' ev' rm' bp' la' pi' plan' rows9' s' sv', f_X8_prove p0 rc len wan bst wys few evh acts wa0 sc0 ho0 of0 wa1 sc1 ho1 of1 wa2 sc2 ho2 of2 wa3 sc3 ho3 of3 wa4 sc4 ho4 of4 first cnt en bu cu kd ln li wa sc ho of rn rb rd fa rk rl rr rs tr rows wt st0 ht ot = some (r, rc', len', wan', bst', wys', few', evh', acts', wa0', sc0', ho0', of0', wa1', sc1', ho1', of1', wa2', sc2', ho2', of2', wa3', sc3', ho3', of3', wa4', sc4', ho4', of4', first', fa', rows', wt', st', ht', ot') ∧ f_X9_prove p0 mo ma fe ev rm bp la pi plan rows9 s sv = some (r, mo', ma', fe', ev', rm', bp', la', pi', plan', rows9', s', sv') ∧ InR cnt en z wa sc ho kd tr ln li cu bu of rn rz rk rd rb rs rl rr pn ph pa pl pm s' ∧ InW rc' rows' rm' rows9' := by
  have h0 := h
  obtain ⟨a, RL, hB, hE, hS, he, hC, hn, hz, hP, hM, hMR⟩ := h
  have h4 := hB.1
  have hb1 := hB.2.1
  have hb2 := hB.2.2.1
  have ok : ∀ {s' : Nat → Int32}, MS s' a sc z s → InR cnt en z wa sc ho kd tr ln li cu bu of rn rz rk rd rb rs rl rr pn ph pa pl pm s' := fun g => InR_mk (a := a) (b := a) hB hE hS he hC hn hz hP g hMR rfl
  unfold f_X8_prove f_X9_prove f_X9_isPlan
  rw [show f_X8_within p0 0 4 = f_X9_in1 p0 0 4 from rfl]
  rcases @e_in p0 0 4 0 4 rfl rfl (by decide) (by decide) with ⟨-, e, -⟩ | ⟨n, -, hn4, rfl, -, e⟩
  · rw [e, qb1, qb1, if_pos rfl, qcB0, qb1, if_pos rfl]; exact ⟨_, _, _, _, _, _, _, _, _, _, _, _, _, _, _, _, _, _, _, _, _, _, _, _, _, _, _, _, _, _, _, _, _, _, _, _, _, _, _, _, _, _, _, _, _, _, _, _, rfl, rfl, h0, hW⟩
  · rw [e, qb1, qb1, if_neg n10, qcB1, qb1, if_neg n10]
    have hw : 0 < 64 := by decide
    obtain ⟨fa2, bst2, wys2, few2, evh2, acts2, wa02, sc02, ho02, of02, wa12, sc12, ho12, of12, wa22, sc22, ho22, of22, wa32, sc32, ho32, of32, wa42, sc42, ho42, of42, first2, u1, u2⟩ := e8_study (cnt := cnt) hB hE hS he hC hn4 hw wa1 sc1 ho1 wa2 sc2 ho2 wa3 sc3 ho3 wa4 sc4 ho4 fa acts first of0 of1 of2 of3 of4
    obtain ⟨mo2, ma2, fe2, ev2, bp2, pi2, plan2, s2, sv2, v1, v2, v3⟩ := e9_tries hB hM hMR hn4 hw bp pi plan sv
    obtain ⟨g1, g2, g3, g4, g5, g6, g7, g8⟩ := u2
    obtain ⟨k1, k2, k3, k4, -, -, -, k8⟩ := v2
    rw [← hn] at u1
    have u1' := u1
    have v1' := v1
    rw [show (nI 0 : Int32) = 0 from rfl] at u1' v1'
    obtain ⟨la2, d1, d2⟩ := e9_layDown (la := la) (s := s2)
    have hLB : LB la2 a sc z s := ⟨s2, v3, d2⟩
    have hrows := hW.choose_spec.2.2.2
    have hl4 : min n (a 1 - a 0) ≤ 4 := by omega
    have hle : allLe (a 4) (planR RL 0 n a).2.2.2.2 := sJ_le (fun i => Nat.zero_le _) (sumM_le _ a 0 0 [] rfl h4 hB (by omega) (fun i => Nat.zero_le _))
    have bp8 := g8 planR_pos
    have bp9 := k8 planR_pos
    rw [u1', v1', qb29, qb9, e9_days hB v3 hn4, qb1, d1, qb1, e8_become, qb4]
    have loop : ∀ (d f8 f9 i : Nat) (b : Nat → Nat) (wt st0 ht sc1 : Int32) (fa ot rows rows9 pi s1 : Nat → Int32), i + d = min n (a 1 - a 0) → d < f8 → d < f9 → BA b → CE cnt kd tr ln li cu bu b → CS wt ht ot b → MS s1 b sc1 z s → MRs s b RL → b 4 = a 4 → b 0 + d ≤ b 1 → (∀ j, j < 12 → rows j = rows9 j) → ∃ fa' rows' wt' st' ht' ot' pi' rows9' s', f_X8_prove_L51 cnt bu cu kd ln li (nI RL.length) rb rd rk rl rr rs tr f8 (nI i) (nI (min n (a 1 - a 0))) (nI (min n (a 1 - a 0))) (nI 0) bst2 wys2 few2 evh2 acts2 wa02 sc02 ho02 of02 wa12 sc12 ho12 of12 wa22 sc22 ho22 of22 wa32 sc32 ho32 of32 wa42 sc42 ho42 of42 first2 fa rows wt st0 ht ot = some (nI (min n (a 1 - a 0)), nI (min n (a 1 - a 0)), nI (min n (a 1 - a 0)), nI 0, bst2, wys2, few2, evh2, acts2, wa02, sc02, ho02, of02, wa12, sc12, ho12, of12, wa22, sc22, ho22, of22, wa32, sc32, ho32, of32, wa42, sc42, ho42, of42, first2, fa', rows', wt', st', ht', ot') ∧ f_X9_prove_L30 f9 (nI i) mo2 ma2 fe2 ev2 (nI (min n (a 1 - a 0))) bp2 la2 pi plan2 rows9 s1 sv2 = some (nI (min n (a 1 - a 0)), mo2, ma2, fe2, ev2, nI (min n (a 1 - a 0)), bp2, la2, pi', plan2, rows9', s', sv2) ∧ MS s' a sc z s ∧ ∀ j, j < 12 → rows' j = rows9' j := by
      intro d
      induction d with
      | zero =>
        intro f8 f9 i b wt st0 ht sc1 fa ot rows rows9 pi s1 hi h8 h9 hBb hEb hSb hMb hRb h4b hOb hr
        obtain ⟨n8, rfl⟩ : ∃ n, f8 = n + 1 := ⟨f8 - 1, by omega⟩
        obtain ⟨n9, rfl⟩ : ∃ n, f9 = n + 1 := ⟨f9 - 1, by omega⟩
        obtain ⟨s3, x1, x2⟩ := e9_bk hLB hMb
        rw [f_X8_prove_L51, f_X9_prove_L30, if_pos (nI_le (by omega) (by omega)), if_pos (nI_le (by omega) (by omega)), x1, qb1]
        exact ⟨_, _, _, _, _, _, _, _, _, rfl, rfl, x2, hr⟩
      | succ d ih =>
        intro f8 f9 i b wt st0 ht sc1 fa ot rows rows9 pi s1 hi h8 h9 hBb hEb hSb hMb hRb h4b hOb hr
        obtain ⟨n8, rfl⟩ : ∃ n, f8 = n + 1 := ⟨f8 - 1, by omega⟩
        obtain ⟨n9, rfl⟩ : ∃ n, f9 = n + 1 := ⟨f9 - 1, by omega⟩
        have hact := hle i
        obtain ⟨wx, hox, ofx, fax, p1, p2⟩ := e8_pass (fa := fa) (sc := st0) hBb hEb hSb hC (act := (planR RL 0 n a).2.2.2.2.getD i 0) (by omega)
        obtain ⟨pix, sx, q1, q2⟩ := e9_goesBy (pi := pi) hBb hMb hRb (act := (planR RL 0 n a).2.2.2.2.getD i 0) (by omega)
        have hBg := BA_goA (RL := RL) hBb (act := (planR RL 0 n a).2.2.2.2.getD i 0) (by omega)
        rw [f_X8_prove_L51, f_X9_prove_L30, if_neg (nI_ge (by omega) (by omega)), if_neg (nI_ge (by omega) (by omega))]
        simp (disch := omega) only [ql3, ql1, ql2, ql12, q_mul, q_add, qcI, q_cl, qt1]
        rw [bp8 i (by omega), bp9 i (by omega), p1, q1, qb6, qb3, e9_those hBg q2.1, qb1, p2.2.1]
        exact ih n8 n9 (i + 1) _ _ _ _ _ _ _ _ _ _ _ (by omega) (by omega) (by omega) hBg (CE_goA hBb hEb) (p2.2.1 ▸ p2) q2 (MRs_go hBb hRb) (by rw [goA_4 hBb]; exact h4b) (by rw [goA_0, goA_1 hBb]; omega) (fun j hj => by
          unfold upd
          split
          · rfl
          · split
            · rfl
            · split
              · rfl
              · exact hr j hj)
    obtain ⟨fa3, rows3, wt3, st3, ht3, ot3, pi3, rows93, s3, y1, y2, y3, y4⟩ := loop (min n (a 1 - a 0)) 1000 1000 0 a wa sc ho sc fa2 (va_cpy of ot 0 0 6) rows rows9 pi2 s2 (by omega) (by omega) (by omega) hB hE (CS_cpy hS) v3 hMR rfl (by omega) hrows
    rw [← hn] at y1
    have y1' : f_X8_prove_L51 cnt bu cu kd ln li rn rb rd rk rl rr rs tr 1000 0 (nI (min n (a 1 - a 0))) (nI (min n (a 1 - a 0))) 0 bst2 wys2 few2 evh2 acts2 wa02 sc02 ho02 of02 wa12 sc12 ho12 of12 wa22 sc22 ho22 of22 wa32 sc32 ho32 of32 wa42 sc42 ho42 of42 first2 fa2 rows wa sc ho (va_cpy of ot 0 0 6) = _ := y1
    have y2' : f_X9_prove_L30 1000 0 mo2 ma2 fe2 ev2 (nI (min n (a 1 - a 0))) bp2 la2 pi2 plan2 rows9 s2 sv2 = _ := y2
    rw [y1', y2']
    exact ⟨_, _, _, _, _, _, _, _, _, _, _, _, _, _, _, _, _, _, _, _, _, _, _, _, _, _, _, _, _, _, _, _, _, _, _, _, _, _, _, _, _, _, _, _, _, _, _, _, rfl, rfl, ok y3, ⟨_, hl4, rfl, rfl, y4⟩⟩
end EQ
