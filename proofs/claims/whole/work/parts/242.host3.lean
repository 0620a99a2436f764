/-! ===== E: the host: taken, goAll, wouldBe ===== -/
section SH3
variable {cnt en z wa sc hom rn rz pn : Int32} {kd tr ln li cu bu of rk rd rb rs rl rr ph pa pl pm s fa pi : Nat → Int32} {a : Nat → Nat} {RL : List RRul}
variable {so sz it ho sh ss sw ms mz mn mh mo : Nat → Int32}
theorem q_m3 {n : Nat} (hn : n < 2 ^ 30) : f_X3_has (-3) (nI n) = some 0 := by unfold f_X3_has; exact if_pos (by decide)
theorem st_taken (h : InH so sz it ho sh ss sw ms mz mn mh mo) (hI : InR cnt en z wa sc hom kd tr ln li cu bu of rn rz rk rd rb rs rl rr pn ph pa pl pm s) (p0 p1 : Int32) : ∃ r, f_X8_taken p0 p1 ho sh sw ss cnt kd = some r ∧ f_X9_taken p0 p1 mo mh s = some r := by
  obtain ⟨h1, h2, h3⟩ := h
  obtain ⟨a, RL, hB, hE, hS, he, hC, hn, hz, hP, hM, hMR⟩ := hI
  have h4 := hB.1
  unfold f_X8_taken f_X9_taken
  rcases e_sh (p := p0) with ⟨-, e1, e2⟩ | ⟨k, hk, rfl, -, e1, e2⟩
  · rw [e1, e2, qb1, qb1, if_pos rfl, if_pos rfl]; exact ⟨_, rfl, rfl⟩
  · rw [e1, e2, qb1, qb1, if_neg n10, if_neg n10]
    have main : ∀ q : Nat, (q ≤ 5 ∨ (10 ≤ q ∧ q ≤ 14)) → p1 = nI q → ∃ r, f_X8_taken_b29 (nI k) p1 ho sh sw ss cnt kd = some r ∧ f_X9_taken_b29 (nI k) p1 mo mh s = some r := by
      intro q hq hp
      subst hp
      unfold f_X8_taken_b29 f_X9_taken_b29 f_X9_heldOn f_X9_taken_b74 f_X9_taken_b88 f_X0_holdsRow f_X0_shipOn f_X0_sortOn f_X0_sizeOn
      simp (disch := omega) only [qcI, q_cl]
      rcases h3 k hk with ⟨g1, g2⟩ | ⟨j, hj, g1, g2, g3, g4⟩ | ⟨w, n, hw, hn, g1, g2, g3, g4, g5⟩
      · rw [g1, g2, if_neg (show ¬ (0 : Int32) = 2 by decide), qb1, if_pos rfl, if_neg (show ¬ (0 : Int32) = 1 by decide), qb1, hE.1, q_m3 (by omega), qb1, if_pos rfl, if_neg (show ¬ (-1 : Int32) = 0 by decide), qb1, if_neg (show ¬ (0 : Int32) ≤ -1 by decide)]
        exact ⟨_, rfl, rfl⟩
      · rw [g1, g2, g3, g4, if_neg (show ¬ (1 : Int32) = 2 by decide), qb1, if_pos rfl, if_pos rfl, qb1, hE.1, if_pos rfl]
        rcases e_has (p := nI j) (n := a 4) (hM.1 4 (by decide) (by decide) (by decide)) (by omega) with ⟨e6, e7⟩ | ⟨j2, hj2, ej, e6, e7⟩
        · rw [e6, e7, qb1, qb1, if_pos rfl, if_pos rfl, qb1, if_neg (show ¬ (0 : Int32) ≤ -1 by decide)]; exact ⟨_, rfl, rfl⟩
        · rw [e6, e7, qb1, qb1, if_neg n10, if_neg n10, qb1, if_pos (show (0 : Int32) ≤ 0 by decide), if_pos rfl]
          by_cases c : q ≤ 5
          · have b1 := hB.2.2.2.1 j hj
            have nl : ¬ (10 : Int32) ≤ nI q := nI_ge (b := 10) (a := q) (by omega) (by decide)
            rw [if_neg nl, if_neg nl, qcI hj (by decide), q_cl (by omega), hE.ekd j hj, e8_under _ (by omega) _ (by omega), qb1, e9_kind hM.1 hj, qb1, e9_under _ (by omega) _ (by omega), qb1]
            by_cases u : under (a (35 + 5 * j)) q
            · rw [if_pos u, if_neg n10, if_neg n10]; exact ⟨_, rfl, rfl⟩
            · rw [if_neg u, if_pos rfl, if_pos rfl]; exact ⟨_, rfl, rfl⟩
          · have yl : (10 : Int32) ≤ nI q := nI_le (a := 10) (b := q) (by omega) (by omega)
            rw [if_pos yl, if_pos yl]; exact ⟨_, rfl, rfl⟩
      · rw [g1, g2, g3, g4, g5, if_pos rfl, qb1, if_neg n10, qb1, qb1, if_neg (show ¬ nI (10 + w) = 0 from nI_ne0 (by omega) (by omega)), qb1, if_pos (nI_pos' (by omega)), if_neg (show ¬ nI (10 + w) = 0 from nI_ne0 (by omega) (by omega))]
        by_cases c : q = 10 + w
        · have e : nI w = nI q - 10 := by
            have := @pk_sub q 10 (by omega)
            rw [show q - 10 = w by omega] at this
            exact this.symm
          rw [if_pos e, if_pos (show nI (10 + w) = nI q by rw [c]), if_neg n10]; exact ⟨_, rfl, rfl⟩
        · have e : ¬ nI w = nI q - 10 := by
            intro z
            have h5 : (nI w).toInt = (nI q - 10).toInt := by rw [z]
            have h6 := @pk_sub_toInt q 10 (by omega) (by decide)
            have h7 : (nI q - 10).toInt = (q : Int) - 10 := h6
            rw [nI_toInt (by omega), h7] at h5
            omega
          rw [if_neg e, if_neg (show ¬ nI (10 + w) = nI q by rw [q_eq (by omega) (by omega)]; omega)]; exact ⟨_, rfl, rfl⟩
    rcases e_in (p := p1) (lo := 0) (hi := 5) 0 5 rfl rfl (by decide) (by decide) with ⟨e3, e4, -⟩ | ⟨q, -, q2, hq, e3, e4⟩
    · rw [e3, e4, qb1, qb1, if_pos rfl, if_pos rfl]
      rcases e_in (p := p1) (lo := 10) (hi := 14) 10 14 rfl rfl (by decide) (by decide) with ⟨e5, e6, -⟩ | ⟨q, q1, q2, hq, e5, e6⟩
      · rw [e5, e6, qb1, qb1, if_pos rfl, if_pos rfl]; exact ⟨_, rfl, rfl⟩
      · rw [e5, e6, qb1, qb1, if_neg n10, if_neg n10]; exact main q (Or.inr ⟨q1, q2⟩) hq
    · rw [e3, e4, qb1, qb1, if_neg n10, if_neg n10]; exact main q (Or.inl q2) hq
theorem e_isAct {p : Int32} {n : Nat} (h4 : s 4 = nI n) (hn : n < 2 ^ 30) : (f_X3_hasAct p (nI n) = some 0 ∧ f_X9_isAct p s = some 0) ∨ ∃ q : Nat, q ≤ n ∧ p = nI q ∧ f_X3_hasAct p (nI n) = some 1 ∧ f_X9_isAct p s = some 1 := by
  unfold f_X3_hasAct f_X9_isAct f_X9_in1
  rw [h4]
  by_cases c : p < 0
  · refine Or.inl ⟨if_pos c, ?_⟩
    rw [if_pos c, qb1]; rfl
  · rw [if_neg c]
    obtain ⟨q, hq, rfl⟩ := nI_of c
    by_cases d : nI n < nI q
    · rw [if_pos d, qb1]; exact Or.inl ⟨rfl, rfl⟩
    · rw [if_neg d, qb1]
      rw [q_lt (by omega) hq] at d
      exact Or.inr ⟨q, by omega, rfl, rfl, rfl⟩
theorem e9_isItem {k n i j : Nat} (hk : k < 4) (hz : mz k = nI n) (hn : n ≤ 40) (hi : i < 2 ^ 29) (hj : j ≤ 40) : f_X9_isItem (nI k) (nI i) (nI j) mz = some (if i + j < n then 1 else 0) := by
  unfold f_X9_isItem
  rw [if_neg (nI_pos (by omega)), qcI hk (by decide), q_cl (by omega), hz]
  have h1 : (nI n - nI j).toInt = (n : Int) - j := pk_sub_toInt (by omega) (by omega)
  by_cases c : i + j < n
  · rw [if_pos c, if_neg (by rw [Int32.le_iff_toInt_le, h1, nI_toInt (by omega)]; omega)]
  · rw [if_neg c, if_pos (by rw [Int32.le_iff_toInt_le, h1, nI_toInt (by omega)]; omega)]
theorem e8_hasItemX {k n i j : Nat} (hk : k < 4) (hz : sz k = nI n) (hn : n ≤ 40) (hi : i < 2 ^ 29) (hj : j ≤ 40) : f_X0_hasItem (nI k) (nI i + nI j) sz = some (if i + j < n then 1 else 0) := by
  unfold f_X0_hasItem
  rw [q_add, if_neg (nI_pos (by omega)), qcI hk (by decide), q_cl (by omega), hz]
  by_cases c : i + j < n
  · rw [if_pos c, if_neg (nI_ge c (by omega))]
  · rw [if_neg c, if_pos (nI_le (by omega) (by omega))]
theorem e_goAllL {T : Nat → Int32} {k n i N : Nat} (hk : k < 4) (hz8 : sz k = nI n) (hz9 : mz k = nI n) (hn : n ≤ 40) (hi : i ≤ 40) (hN : N ≤ 20) (hit : ∀ j, j < 160 → it j = mn j) : ∀ (d fuel j v : Nat) (b : Nat → Nat) (s pi fa of : Nat → Int32) (wa sc hom : Int32), j + d = N → d < fuel → v + 21 * d < 10000 → BA b → CE cnt kd tr ln li cu bu b → CS wa hom of b → en = nI (b 1) → CRs rk rd rb rs rl rr RL → MS s b sc z T → MRs T b RL →
    ∃ r wa' sc' hom' of' fa' pi' s' b', f_X8_goAll_L44 (nI k) (nI i) (nI N) it sz cnt en bu cu kd ln li (nI RL.length) rb rd rk rl rr rs tr fuel (nI v) (nI j) wa sc hom of fa = some (r, wa', sc', hom', of', fa') ∧ f_X9_goAll_L41 (nI k) (nI i) (nI N) mn mz fuel (nI v) (nI j) pi s = some (r, pi', s') ∧
      BA b' ∧ CE cnt kd tr ln li cu bu b' ∧ CS wa' hom' of' b' ∧ MS s' b' sc' z T ∧ (∀ x, x ≠ 0 → (x < 35 ∨ 65 ≤ x) → b' x = b x) := by
  intro d
  induction d with
  | zero =>
    intro fuel j v b s pi fa of wa sc hom hj hf hv hB hE hS he hC hM hMR
    obtain ⟨m, rfl⟩ : ∃ m, fuel = m + 1 := ⟨fuel - 1, by omega⟩
    rw [f_X8_goAll_L44, f_X9_goAll_L41, if_pos (nI_le (by omega) (by omega)), if_pos (nI_le (by omega) (by omega))]
    exact ⟨_, _, _, _, _, _, _, _, b, rfl, rfl, hB, hE, hS, hM, fun _ _ _ => rfl⟩
  | succ d ih =>
    intro fuel j v b s pi fa of wa sc hom hj hf hv hB hE hS he hC hM hMR
    obtain ⟨m, rfl⟩ : ∃ m, fuel = m + 1 := ⟨fuel - 1, by omega⟩
    have h4 := hB.1
    have e0 : nI v + (0 : Int32) = nI v := Int32.add_zero _
    rw [f_X8_goAll_L44, f_X9_goAll_L41, if_neg (nI_ge (by omega) (by omega)), if_neg (nI_ge (by omega) (by omega)), e8_hasItemX hk hz8 hn (by omega) (by omega), e9_isItem hk hz9 hn (by omega) (by omega), qb1, qb1]
    by_cases c : i + j < n
    · unfold f_X0_get
      rw [if_pos c, if_neg n10, if_neg n10, ql40, q_mul, q_mul, q_add, q_add, q_add, q_add, qcI (by omega) (by omega), qcI (by omega) (by omega), qb1, qt1, q_cl (by omega), q_cl (by omega), show k * 40 + (i + j) = 40 * k + i + j by omega, hit _ (by omega), hE.1, ql1, q_add, e0]
      simp only [qt1]
      rcases e_isAct (p := mn (40 * k + i + j)) (s := s) (n := b 4) (hM.1 4 (by decide) (by decide) (by decide)) (by omega) with ⟨e1, e2⟩ | ⟨q, hq, ep, e1, e2⟩
      · rw [e1, e2, qb1, qb1, if_pos rfl, if_pos rfl, ← hE.1]
        exact ih m (j + 1) v b s pi fa of wa sc hom (by omega) (by omega) (by omega) hB hE hS he hC hM hMR
      · rw [e1, e2, qb1, qb1, if_neg n10, if_neg n10, e8_isOver hS.1 he hB, e9_isOver hB hM, qb1, qb1, ← hE.1]
        by_cases c2 : b 0 < b 1
        · obtain ⟨wa1, ho1, of1, fa1, e3, e4⟩ := e8_pass (fa := fa) (sc := sc) hB hE hS hC hq
          obtain ⟨pi1, s1, e5, e6⟩ := e9_goesBy (pi := pi) hB hM hMR hq
          have gw := goW_le (RL := RL) hB q
          rw [if_pos c2, if_pos rfl, if_pos rfl, ep, e3, e5, qb6, qb3, q_add]
          obtain ⟨r, wa', sc', hom', of', fa', pi', s', b', f1, f2, f3, f4, f5, f6, f7⟩ := ih m (j + 1) (v + goW b RL q) (goA b RL q) s1 pi1 fa1 of1 wa1 _ ho1 (by omega) (by omega) (by omega) (BA_goA hB c2) (CE_goA hB hE) e4 (by rw [goA_1 hB]; exact he) hC e6 (MRs_go hB hMR)
          exact ⟨_, _, _, _, _, _, _, _, b', f1, f2, f3, f4, f5, f6, fun x h1 h2 => by rw [f7 x h1 h2, goA_oth h1 (by omega) hB.1]⟩
        · rw [if_neg c2, if_neg n10, if_neg n10]
          exact ih m (j + 1) v b s pi fa of wa sc hom (by omega) (by omega) (by omega) hB hE hS he hC hM hMR
    · rw [if_neg c, if_pos rfl, if_pos rfl]
      exact ⟨_, _, _, _, _, _, _, _, b, rfl, rfl, hB, hE, hS, hM, fun _ _ _ => rfl⟩
theorem st_goAll (h : InH so sz it ho sh ss sw ms mz mn mh mo) (hI : InR cnt en z wa sc hom kd tr ln li cu bu of rn rz rk rd rb rs rl rr pn ph pa pl pm s) (p0 p1 p2 : Int32) :
    ∃ r wa' sc' hom' of' fa' pi' s', f_X8_goAll p0 p1 p2 it sz so cnt en bu cu kd ln li wa sc hom of rn rb rd fa rk rl rr rs tr = some (r, wa', sc', hom', of', fa') ∧ f_X9_goAll p0 p1 p2 mn pi s mz ms = some (r, pi', s') ∧ InR cnt en z wa' sc' hom' kd tr ln li cu bu of' rn rz rk rd rb rs rl rr pn ph pa pl pm s' := by
  have hI0 := hI
  obtain ⟨h1, h2, h3⟩ := h
  obtain ⟨a, RL, hB, hE, hS, he, hC, hn, hz, hP, hM, hMR⟩ := hI
  unfold f_X8_goAll f_X9_goAll
  rcases e_sh (p := p0) with ⟨e1, -, e2⟩ | ⟨k, hk, rfl, e1, -, e2⟩
  · simp only [e1, e2, qb1, if_true]; exact ⟨_, _, _, _, _, _, _, _, rfl, rfl, hI0⟩
  · simp only [e1, e2, qb1, n10, if_false]
    rcases e_in (p := p2) (lo := 0) (hi := 20) 0 20 rfl rfl (by decide) (by decide) with ⟨e3, e4, -⟩ | ⟨N, -, hN, rfl, e3, e4⟩
    · simp only [e3, e4, qb1, if_true]; exact ⟨_, _, _, _, _, _, _, _, rfl, rfl, hI0⟩
    · obtain ⟨q, n, hq, hn4, g1, g2, g3, g4⟩ := h1 k hk
      obtain ⟨r, e5, e6, e7, -⟩ := e_refuse hk hq g1 g2 0
      simp only [e3, e4, e5, e6, qb1, n10, if_false]
      by_cases c : r = 0
      · rw [if_pos c, if_pos c]
        have e8 := e_upto (p := p1) (n := n) (by omega)
        by_cases cN : N = 0
        · subst cN
          rw [f_X8_goAll_L44, f_X9_goAll_L41, if_pos (show nI 0 ≤ 0 by decide), if_pos (show nI 0 ≤ 0 by decide)]
          exact ⟨_, _, _, _, _, _, _, _, rfl, rfl, hI0⟩
        · rcases e8 with ⟨e8, -⟩ | ⟨i, hi, rfl, -⟩
          · have n1 : ¬ nI N ≤ 0 := nI_nle (by omega) (by omega)
            have e9 : f_X9_isItem (nI k) p1 0 mz = some 0 := by
              unfold f_X9_isItem
              rcases e8 with e8 | ⟨e8, e8b⟩
              · exact if_pos e8
              · rw [if_neg e8, qcI hk (by decide), q_cl (by omega), g4, show nI n - 0 = nI n from Int32.sub_zero _, if_pos e8b]
            rw [f_X8_goAll_L44, f_X9_goAll_L41, if_neg n1, if_neg n1, show p1 + 0 = p1 from Int32.add_zero _, e_hasItem hk g3 e8, e9]
            exact ⟨_, _, _, _, _, _, _, _, rfl, rfl, hI0⟩
          · obtain ⟨r2, wa', sc', hom', of', fa', pi', s', b', f1, f2, f3, f4, f5, f6, f7⟩ := e_goAllL (z := z) (T := s) hk g3 g4 hn4 (show i ≤ 40 by omega) hN h2 N 1000 0 0 a s pi fa of wa sc hom (by omega) (by omega) (by omega) hB hE hS he hC hM hMR
            rw [← hn] at f1
            exact ⟨_, _, _, _, _, _, _, _, f1, f2, InR_mk (a := b') (b := a) f3 f4 f5 (by rw [f7 1 (by decide) (by decide)]; exact he) hC hn hz (RP_congr hP (fun y hy => f7 y (by omega) (by omega))) f6 hMR (f7 5 (by decide) (by decide))⟩
      · rw [if_neg c, if_neg c]
        exact ⟨_, _, _, _, _, _, _, _, rfl, rfl, hI0⟩
theorem e9_wbEnd {T la : Nat → Int32} {b0 b : Nat → Nat} {sc1 z1 sc0 z0 : Int32} (hla : LB la b0 sc0 z0 T) (hM : MS s b sc1 z1 T) (v4 v5 : Int32) : ∃ s', f_X9_wouldBe_b145 v4 v5 la pi s = some (if v4 = 0 then v5 else v4, la, pi, s') ∧ MS s' b0 sc0 z0 T := by
  obtain ⟨s', e1, e2⟩ := e9_bk hla hM
  refine ⟨s', ?_, e2⟩
  unfold f_X9_wouldBe_b145
  rw [e1, qb1]
  split <;> rfl
theorem e_wouldBeL {T la : Nat → Int32} {b0 : Nat → Nat} {sc0 z0 : Int32} (hla : LB la b0 sc0 z0 T) {k n i N : Nat} (hk : k < 4) (hz8 : sz k = nI n) (hz9 : mz k = nI n) (hn : n ≤ 40) (hi : i ≤ 40) (hN : N ≤ 20) (hit : ∀ j, j < 160 → it j = mn j) : ∀ (d fuel j v : Nat) (b : Nat → Nat) (s pi fa of : Nat → Int32) (wa sc hom sc9 z : Int32), j + d = N → d + 1 < fuel → v + 21 * d < 10000 → BA b → CE cnt kd tr ln li cu bu b → CS wa hom of b → en = nI (b 1) → CRs rk rd rb rs rl rr RL → MS s b sc9 z T → MRs T b RL →
    ∃ r wa' sc' hom' of' fa' pi' s', f_X8_wouldBe_L58 (nI k) (nI i) (nI N) it sz cnt en bu cu kd ln li (nI RL.length) rb rd rk rl rr rs tr fuel (nI v) (nI j) fa wa sc hom of = some (r, fa', wa', sc', hom', of') ∧ f_X9_wouldBe_L37 (nI k) (nI i) (nI N) mn mz fuel 0 (nI v) (nI j) la pi s = some (r, la, pi', s') ∧ MS s' b0 sc0 z0 T := by
  intro d
  induction d with
  | zero =>
    intro fuel j v b s pi fa of wa sc hom sc9 z hj hf hv hB hE hS he hC hM hMR
    obtain ⟨m, rfl⟩ : ∃ m, fuel = m + 1 := ⟨fuel - 1, by omega⟩
    obtain ⟨s', e1, e2⟩ := e9_wbEnd (pi := pi) hla hM 0 (nI v)
    rw [f_X8_wouldBe_L58, f_X9_wouldBe_L37, if_pos (nI_le (by omega) (by omega)), if_pos (nI_le (by omega) (by omega)), e1, if_pos rfl]
    exact ⟨_, _, _, _, _, _, _, _, rfl, rfl, e2⟩
  | succ d ih =>
    intro fuel j v b s pi fa of wa sc hom sc9 z hj hf hv hB hE hS he hC hM hMR
    obtain ⟨m, rfl⟩ : ∃ m, fuel = m + 1 + 1 := ⟨fuel - 2, by omega⟩
    have h4 := hB.1
    have e0 : nI v + (0 : Int32) = nI v := Int32.add_zero _
    rw [f_X8_wouldBe_L58, f_X9_wouldBe_L37, if_neg (nI_ge (by omega) (by omega)), if_neg (nI_ge (by omega) (by omega)), if_pos rfl, e8_hasItemX hk hz8 hn (by omega) (by omega), e9_isItem hk hz9 hn (by omega) (by omega), qb1, qb1]
    have stop : ∀ (x : Int32), ¬ x = 0 → ∃ pi' s', f_X9_wouldBe_L37 (nI k) (nI i) (nI N) mn mz (m + 1) x (nI v) (nI (j + 1)) la pi s = some (x, la, pi', s') ∧ MS s' b0 sc0 z0 T := by
      intro x hx
      obtain ⟨s', e1, e2⟩ := e9_wbEnd (pi := pi) hla hM x (nI v)
      rw [if_neg hx] at e1
      rw [f_X9_wouldBe_L37, if_neg hx, e1]
      refine ⟨pi, s', ?_, e2⟩
      split <;> rfl
    by_cases c : i + j < n
    · unfold f_X0_get
      rw [if_pos c, if_neg n10, if_neg n10, ql40, q_mul, q_mul, q_add, q_add, q_add, q_add, qcI (by omega) (by omega), qcI (by omega) (by omega), qb1, q_cl (by omega), q_cl (by omega), show k * 40 + (i + j) = 40 * k + i + j by omega, hit _ (by omega), hE.1]
      unfold f_X9_wouldBe_b77 f_X9_wouldBe_b111 f_X9_wouldBe_b117
      rw [e9_isItem hk hz9 hn (by omega) (by omega), qb1, if_pos c, if_neg n10]
      simp only [qt1, e0]
      rcases e_isAct (p := mn (40 * k + i + j)) (s := s) (n := b 4) (hM.1 4 (by decide) (by decide) (by decide)) (by omega) with ⟨e1, e2⟩ | ⟨q, hq, ep, e1, e2⟩
      · obtain ⟨pi', s', e3, e4⟩ := stop (-4) (by decide)
        rw [e1, e2, qb1, qb1, if_pos rfl, if_pos rfl, if_neg (show ¬ (-4 : Int32) = 0 by decide), nI_1, e3]
        exact ⟨_, _, _, _, _, _, _, _, rfl, rfl, e4⟩
      · rw [e1, e2, qb1, qb1, if_neg n10, if_neg n10, e8_isOver hS.1 he hB, e9_isOver hB hM, qb1, qb1, ← hE.1]
        by_cases c2 : b 0 < b 1
        · obtain ⟨wa1, ho1, of1, fa1, e3, e4⟩ := e8_pass (fa := fa) (sc := sc) hB hE hS hC hq
          obtain ⟨pi1, s1, e5, e6⟩ := e9_goesBy (pi := pi) hB hM hMR hq
          have gw := goW_le (RL := RL) hB q
          rw [if_pos c2, if_pos rfl, if_pos rfl, if_pos trivial, ep, e3, e5, qb6, qb3, q_add, nI_1]
          exact ih (m + 1) (j + 1) (v + goW b RL q) (goA b RL q) s1 pi1 fa1 of1 wa1 _ ho1 _ z (by omega) (by omega) (by omega) (BA_goA hB c2) (CE_goA hB hE) e4 (by rw [goA_1 hB]; exact he) hC e6 (MRs_go hB hMR)
        · obtain ⟨pi', s', e3, e4⟩ := stop (-4) (by decide)
          rw [if_neg c2, if_neg n10, if_neg n10, if_neg (show ¬ (-4 : Int32) = 0 by decide), nI_1, e3]
          exact ⟨_, _, _, _, _, _, _, _, rfl, rfl, e4⟩
    · unfold f_X9_wouldBe_b77 f_X9_wouldBe_b117
      obtain ⟨pi', s', e3, e4⟩ := stop (-12) (by decide)
      rw [if_neg c, if_pos rfl, if_pos rfl, e9_isItem hk hz9 hn (by omega) (by omega), qb1, if_neg c, if_pos rfl, if_neg (show ¬ (-12 : Int32) = 0 by decide)]
      simp only [qt1, e0, nI_1, e3]
      exact ⟨_, _, _, _, _, _, _, _, rfl, rfl, e4⟩
theorem st_wouldBe (h : InH so sz it ho sh ss sw ms mz mn mh mo) (hI : InR cnt en z wa sc hom kd tr ln li cu bu of rn rz rk rd rb rs rl rr pn ph pa pl pm s) {wt st ht : Int32} {ot la : Nat → Int32} (p0 p1 p2 : Int32) :
    ∃ r fa' wt' st' ht' ot' la' pi' s', f_X8_wouldBe p0 p1 p2 it sz so cnt en bu cu kd ln li wa sc hom of rn rb rd fa rk rl rr rs tr wt st ht ot = some (r, fa', wt', st', ht', ot') ∧ f_X9_wouldBe p0 p1 p2 la mn pi s mz ms = some (r, la', pi', s') ∧ InR cnt en z wa sc hom kd tr ln li cu bu of rn rz rk rd rb rs rl rr pn ph pa pl pm s' := by
  have hI0 := hI
  obtain ⟨h1, h2, h3⟩ := h
  obtain ⟨a, RL, hB, hE, hS, he, hC, hn, hz, hP, hM, hMR⟩ := hI
  unfold f_X8_wouldBe f_X9_wouldBe
  rcases e_sh (p := p0) with ⟨e1, -, e2⟩ | ⟨k, hk, rfl, e1, -, e2⟩
  · simp only [e1, e2, qb1, if_true]; exact ⟨_, _, _, _, _, _, _, _, _, rfl, rfl, hI0⟩
  · simp only [e1, e2, qb1, n10, if_false]
    rcases e_in (p := p2) (lo := 0) (hi := 20) 0 20 rfl rfl (by decide) (by decide) with ⟨e3, e4, -⟩ | ⟨N, -, hN, rfl, e3, e4⟩
    · simp only [e3, e4, qb1, if_true]; exact ⟨_, _, _, _, _, _, _, _, _, rfl, rfl, hI0⟩
    · obtain ⟨q, n, hq, hn4, g1, g2, g3, g4⟩ := h1 k hk
      obtain ⟨r, e5, e6, e7, -⟩ := e_refuse hk hq g1 g2 0
      obtain ⟨la1, f5, f6⟩ := e9_layDown (la := la) (s := s)
      have hLB : LB la1 a sc z s := ⟨s, hM, f6⟩
      simp only [e3, e4, e5, e6, qb1, n10, if_false, f5, e8_become, qb4]
      by_cases c : r = 0
      · subst c
        rw [if_pos rfl]
        by_cases cN : N = 0
        · subst cN
          obtain ⟨s', d1, d2⟩ := e9_wbEnd (pi := pi) hLB hM 0 0
          rw [f_X8_wouldBe_L58, f_X9_wouldBe_L37, if_pos (show nI 0 ≤ 0 by decide), if_pos (show nI 0 ≤ 0 by decide), d1, if_pos rfl]
          exact ⟨_, _, _, _, _, _, _, _, _, rfl, rfl, InR_mk (a := a) (b := a) hB hE hS he hC hn hz hP d2 hMR rfl⟩
        · rcases e_upto (p := p1) (n := n) (by omega) with ⟨e8, -⟩ | ⟨i, hi, rfl, -⟩
          · have n1 : ¬ nI N ≤ 0 := nI_nle (by omega) (by omega)
            have e9 : f_X9_isItem (nI k) p1 0 mz = some 0 := by
              unfold f_X9_isItem
              rcases e8 with e8 | ⟨e8, e8b⟩
              · exact if_pos e8
              · rw [if_neg e8, qcI hk (by decide), q_cl (by omega), g4, show nI n - 0 = nI n from Int32.sub_zero _, if_pos e8b]
            obtain ⟨s', d1, d2⟩ := e9_wbEnd (pi := pi) hLB hM (-12) (0 + 0)
            have d3 : f_X9_wouldBe_L37 (nI k) p1 (nI N) mn mz 999 (-12) (0 + 0) (0 + 1) la1 pi s = some (-12, la1, pi, s') := by
              rw [f_X9_wouldBe_L37, d1, if_neg (show ¬ (-12 : Int32) = 0 by decide)]
              split <;> rfl
            rw [f_X8_wouldBe_L58, f_X9_wouldBe_L37, if_neg n1, if_neg n1, if_pos rfl, show p1 + 0 = p1 from Int32.add_zero _, e_hasItem hk g3 e8, e9, qb1, qb1, if_pos rfl, if_pos rfl]
            unfold f_X9_wouldBe_b77 f_X9_wouldBe_b117
            rw [e9, qb1, if_pos rfl, if_neg (show ¬ (-12 : Int32) = 0 by decide), qt1, qt1, d3]
            exact ⟨_, _, _, _, _, _, _, _, _, rfl, rfl, InR_mk (a := a) (b := a) hB hE hS he hC hn hz hP d2 hMR rfl⟩
          · obtain ⟨r2, wa', sc', hom', of', fa', pi', s', f1, f2, f3⟩ := e_wouldBeL hLB hk g3 g4 hn4 (show i ≤ 40 by omega) hN h2 N 1000 0 0 a s pi fa (va_cpy of ot 0 0 6) wa sc hom sc z (by omega) (by omega) (by omega) hB hE (CS_cpy hS) he hC hM hMR
            rw [← hn] at f1
            exact ⟨_, _, _, _, _, _, _, _, _, f1, f2, InR_mk (a := a) (b := a) hB hE hS he hC hn hz hP f3 hMR rfl⟩
      · obtain ⟨s', d1, d2⟩ := e9_wbEnd (pi := pi) hLB hM r 0
        rw [if_neg c] at d1
        rw [if_neg c]
        have d3 : f_X9_wouldBe_L37 (nI k) p1 (nI N) mn mz 1000 r 0 0 la1 pi s = some (r, la1, pi, s') := by
          rw [f_X9_wouldBe_L37, d1, if_neg c]
          split <;> rfl
        exact ⟨_, _, _, _, _, _, _, _, _, rfl, d3, InR_mk (a := a) (b := a) hB hE hS he hC hn hz hP d2 hMR rfl⟩
end SH3
