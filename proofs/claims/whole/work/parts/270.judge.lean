/-! ===== E: the reader takes rows ===== -/
section EV2
variable {cnt en z wa sc ho rn rz pn : Int32} {kd tr ln li cu bu of rk rd rb rs rl rr ph pa pl pm s : Nat → Int32}
theorem st_judge (h : InR cnt en z wa sc ho kd tr ln li cu bu of rn rz rk rd rb rs rl rr pn ph pa pl pm s) {rc rm : Int32} {rows rows9 : Nat → Int32} (hW : InW rc rows rm rows9) (fa ot la pi : Nat → Int32) :
    ∃ r fa' wt' st' ht' ot' la' pi' s', f_X8_judge rc cnt en bu cu kd ln li wa sc ho of rn rb rd fa rk rl rr rs tr rows ot = some (r, fa', wt', st', ht', ot') ∧ f_X9_judge rm la pi rows9 s = some (r, la', pi', s') ∧ InR cnt en z wa sc ho kd tr ln li cu bu of rn rz rk rd rb rs rl rr pn ph pa pl pm s' := by
  obtain ⟨a, RL, hB, hE, hS, he, hC, hn, hz, hP, hM, hMR⟩ := h
  have h4 := hB.1
  obtain ⟨n, hn4, rfl, rfl, hrows⟩ := hW
  obtain ⟨la2, d1, d2⟩ := e9_layDown (la := la) (s := s)
  have hLB : LB la2 a sc z s := ⟨s, hM, d2⟩
  have loop : ∀ (d f8 f9 i : Nat) (b : Nat → Nat) (wt st ht sc1 : Int32) (fa ot pi s1 : Nat → Int32), i + d = n → d < f8 → d + 1 < f9 → BA b → CE cnt kd tr ln li cu bu b → CS wt ht ot b → MS s1 b sc1 z s → MRs s b RL → b 4 = a 4 → en = nI (b 1) → ∃ r fa' wt' st' ht' ot' pi' s', f_X8_judge_L16 (nI n) cnt en bu cu kd ln li (nI RL.length) rb rd rk rl rr rs tr rows f8 (nI i) fa wt st ht ot = some (r, fa', wt', st', ht', ot') ∧ f_X9_judge_L8 (nI n) rows9 f9 0 (nI i) la2 pi s1 = some (r, la2, pi', s') ∧ MS s' a sc z s := by
    intro d
    induction d with
    | zero =>
      intro f8 f9 i b wt st ht sc1 fa ot pi s1 hi h8 h9 hBb hEb hSb hMb hRb h4b heb
      obtain ⟨n8, rfl⟩ : ∃ n, f8 = n + 1 := ⟨f8 - 1, by omega⟩
      obtain ⟨n9, rfl⟩ : ∃ n, f9 = n + 1 := ⟨f9 - 1, by omega⟩
      obtain ⟨s3, x1, x2⟩ := e9_bk hLB hMb
      rw [f_X8_judge_L16, f_X9_judge_L8, if_pos (nI_le (by omega) (by omega)), if_pos (nI_le (by omega) (by omega)), x1, qb1]
      exact ⟨_, _, _, _, _, _, _, _, rfl, rfl, x2⟩
    | succ d ih =>
      intro f8 f9 i b wt st ht sc1 fa ot pi s1 hi h8 h9 hBb hEb hSb hMb hRb h4b heb
      obtain ⟨n8, rfl⟩ : ∃ n, f8 = n + 1 := ⟨f8 - 1, by omega⟩
      obtain ⟨n9, rfl⟩ : ∃ n, f9 = n + 1 := ⟨f9 - 1, by omega⟩
      -- a wrong row
      have wrong : ∀ (sx pix : Nat → Int32) (bx : Nat → Nat) (scx : Int32), MS sx bx scx z s → ∃ s', f_X9_judge_b111 (f_X9_judge_L8 (nI n) rows9 n9) (nI i) la2 pix sx = some (nI i + 1, la2, pix, s') ∧ MS s' a sc z s := by
        intro sx pix bx scx hx
        obtain ⟨s3, x1, x2⟩ := e9_bk hLB hx
        obtain ⟨m, rfl⟩ : ∃ m, n9 = m + 1 := ⟨n9 - 1, by omega⟩
        unfold f_X9_judge_b111 f_X9_judge_b112
        rw [if_pos rfl, qt1, qt1, f_X9_judge_L8, show (1 : Int32) + nI i = nI i + 1 from Int32.add_comm _ _, show nI i + 1 = nI (i + 1) from q_add i 1, x1, qb1]
        refine ⟨s3, ?_, x2⟩
        by_cases c : nI n ≤ nI (i + 1)
        · rw [if_pos c]
        · rw [if_neg c, if_neg (nI_ne0 (by omega) (by omega))]
      rw [f_X8_judge_L16, f_X9_judge_L8, if_neg (nI_ge (by omega) (by omega)), if_neg (nI_ge (by omega) (by omega)), if_pos rfl]
      simp (disch := omega) only [ql3, ql12, q_mul, qcI, q_cl, qt1]
      rw [hrows (3 * i) (by omega)]
      have e4b : s1 4 = nI (b 4) := hMb.1 4 (by decide) (by decide) (by decide)
      rcases e_isAct (p := rows9 (3 * i)) e4b (by have := hBb.1; omega) with ⟨e6, e7⟩ | ⟨q, hq, ej, e6, e7⟩
      · obtain ⟨s', w1, w2⟩ := wrong s1 pi b sc1 hMb
        rw [hEb.1, e6, e7, qb1, qb1, if_pos rfl, if_pos rfl]
        unfold f_X9_judge_b46 f_X9_judge_b47 f_X9_judge_b68
        rw [if_pos rfl, if_pos rfl, w1]
        exact ⟨_, _, _, _, _, _, _, _, rfl, rfl, w2⟩
      · rw [hEb.1, e6, e7, qb1, qb1, if_neg n10, if_neg n10, ← hEb.1, e8_isOver hSb.1 heb hBb, e9_isOver hBb hMb, qb1, qb1]
        by_cases c : b 0 < b 1
        · rw [if_pos c, if_pos rfl, if_pos rfl]
          obtain ⟨wx, hox, ofx, fax, p1, p2⟩ := e8_pass (fa := fa) (sc := st) hBb hEb hSb hC (act := q) hq
          obtain ⟨pix, sx, q1, q2⟩ := e9_goesBy (pi := pi) hBb hMb hRb (act := q) hq
          have hBg := BA_goA (RL := RL) hBb (act := q) c
          unfold f_X9_judge_b47
          rw [if_neg n10]
          simp (disch := omega) only [ql3, ql12, q_mul, qcI, q_cl]
          rw [ej, p1, qb6, q1, qb3]
          unfold f_X9_judge_b68
          rw [if_neg n10]
          rw [show (1 : Int32) = nI 1 from rfl, show (2 : Int32) = nI 2 from rfl, show (3 : Int32) = nI 3 from rfl, q_mul, q_add, q_add, qcI (show 3 * i + 1 < 12 by omega) (by decide), q_cl (by omega), hrows (3 * i + 1) (by omega), qcI (show 3 * i + 2 < 12 by omega) (by decide), q_cl (by omega), hrows (3 * i + 2) (by omega), p2.2.1]
          obtain ⟨s', w1, w2⟩ := wrong sx pix (goA b RL q) _ q2
          by_cases c2 : nI (goW b RL q) = rows9 (3 * i + 1)
          · rw [if_pos c2, if_pos c2, qcI (show 3 * i + 1 < 12 by omega) (by decide), e9_those hBg q2.1, qb1, qcI (show 3 * i + 2 < 12 by omega) (by decide)]
            by_cases c3 : nI (hb (goA b RL q)) = rows9 (3 * i + 2)
            · rw [if_pos c3, if_pos c3, show nI i + nI 1 = nI (i + 1) from q_add i 1]
              unfold f_X9_judge_b112
              rw [if_neg (show ¬ nI 1 = 0 by decide), qt1, show nI i + 1 = nI (i + 1) from q_add i 1]
              exact ih n8 n9 (i + 1) (goA b RL q) _ _ _ _ _ _ _ _ (by omega) (by omega) (by omega) hBg (CE_goA hBb hEb) (p2.2.1 ▸ p2) q2 (MRs_go hBb hRb) (by rw [goA_4 hBb]; exact h4b) (by rw [goA_1 hBb]; exact heb)
            · rw [if_neg c3, if_neg c3, show nI i + nI 1 = nI i + 1 from rfl, w1]
              exact ⟨_, _, _, _, _, _, _, _, rfl, rfl, w2⟩
          · rw [if_neg c2, if_neg c2, show nI i + nI 1 = nI i + 1 from rfl, qcI (show 3 * i + 1 < 12 by omega) (by decide), w1]
            exact ⟨_, _, _, _, _, _, _, _, rfl, rfl, w2⟩
        · obtain ⟨s', w1, w2⟩ := wrong s1 pi b sc1 hMb
          rw [if_neg c, if_neg n10, if_neg n10]
          unfold f_X9_judge_b46 f_X9_judge_b47 f_X9_judge_b68
          rw [if_pos rfl, if_pos rfl, w1]
          exact ⟨_, _, _, _, _, _, _, _, rfl, rfl, w2⟩
  obtain ⟨r, fa3, wt3, st3, ht3, ot3, pi3, s3, y1, y2, y3⟩ := loop n 1000 1000 0 a wa sc ho sc fa (va_cpy of ot 0 0 6) pi s (by omega) (by omega) (by omega) hB hE (CS_cpy hS) hM hMR rfl he
  rw [← hn] at y1
  refine ⟨r, fa3, wt3, st3, ht3, ot3, la2, pi3, s3, ?_, ?_, InR_mk (a := a) (b := a) hB hE hS he hC hn hz hP y3 hMR rfl⟩
  · unfold f_X8_judge
    rw [e8_become, qb4]
    exact y1
  · unfold f_X9_judge
    rw [d1, qb1]
    exact y2
end EV2
