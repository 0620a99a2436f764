/-! ===== E: calls of the rest: when, rock, safe, least ===== -/
/-- what lies laid down -/
def LB (la : Nat → Int32) (b0 : Nat → Nat) (sc0 z0 : Int32) (T : Nat → Int32) : Prop := ∃ s0, MS s0 b0 sc0 z0 T ∧ ∀ i, i < 65 → la i = s0 i
theorem e9_bk {la s1 T : Nat → Int32} {b b0 : Nat → Nat} {sc1 z1 sc0 z0 : Int32} (h : LB la b0 sc0 z0 T) (h1 : MS s1 b sc1 z1 T) : ∃ s', f_X9_layBack la s1 = some s' ∧ MS s' b0 sc0 z0 T := by
  obtain ⟨s0, g1, g2⟩ := h
  exact e9_back g1 g2 h1
section S4
variable {cnt en z wa sc ho rn rz pn : Int32} {kd tr ln li cu bu of rk rd rb rs rl rr ph pa pl pm s fa pi : Nat → Int32} {a : Nat → Nat} {RL : List RRul}
theorem nneg {n : Nat} (h : n < 2 ^ 31) : ¬ nI n < 0 := nI_pos h
theorem e8_whenL {N : Nat} (k : Nat) (hk : k < 6) : ∀ (m fuel i : Nat) (b : Nat → Nat) (fa of : Nat → Int32) (wa sc ho : Int32), i + m = 16 → m < fuel → BA b → b 1 - b 0 ≤ m → en = nI (b 1) → CE cnt kd tr ln li cu bu b → CS wa ho of b → CRs rk rd rb rs rl rr RL →
    ∃ r fa' wa' sc' ho' of', f_X8_when_L46 (nI k) cnt en bu cu kd ln li (nI RL.length) rb rd rk rl rr rs tr fuel (nI i) fa wa sc ho of = some (r, fa', wa', sc', ho', of') ∧
    ∀ (T la s pi : Nat → Int32) (sc2 z sc0 z0 : Int32) (fuel2 : Nat) (b0 : Nat → Nat), m + 1 < fuel2 → MS s b sc2 z T → MRs T b RL → LB la b0 sc0 z0 T →
      ∃ pi' s', f_X9_when_L32 (nI k) fuel2 (-3) 1 la pi s = some (r, la, pi', s') ∧ MS s' b0 sc0 z0 T := by
  intro m
  induction m with
  | zero =>
    intro fuel i b fa of wa sc ho hi hf hB hm he hE hS hC
    obtain ⟨n, rfl⟩ : ∃ n, fuel = n + 1 := ⟨fuel - 1, by omega⟩
    refine ⟨-3, fa, wa, sc, ho, of, by rw [f_X8_when_L46, ql16, if_pos (nI_le (by omega) (by omega))], ?_⟩
    intro T la s pi sc2 z sc0 z0 fuel2 b0 hf2 hM hMR hla
    obtain ⟨n2, rfl⟩ : ∃ n, fuel2 = n + 1 := ⟨fuel2 - 1, by omega⟩
    have hov : ¬ b 0 < b 1 := by omega
    obtain ⟨s', e1, e2⟩ := e9_bk hla hM
    rw [f_X9_when_L32, if_neg (by decide), e9_isOver hB hM, if_neg hov, qb1, if_neg (by decide), e1, qb1]
    exact ⟨_, _, rfl, e2⟩
  | succ m ih =>
    intro fuel i b fa of wa sc ho hi hf hB hm he hE hS hC
    obtain ⟨n, rfl⟩ : ∃ n, fuel = n + 1 := ⟨fuel - 1, by omega⟩
    rw [f_X8_when_L46, ql16, if_neg (nI_ge (by omega) (by omega)), e8_isOver hS.1 he hB, qb1]
    by_cases c : b 0 < b 1
    · obtain ⟨wa1, ho1, of1, fa1, e1, e2⟩ := e8_passRest (fa := fa) (sc := sc) hB hE hS hC
      have hB1 := BA_goA (RL := RL) (act := rAct b RL) hB c
      have g0 := goA_0 (a := b) (RL := RL) (act := rAct b RL)
      have g1 := goA_1 (RL := RL) (act := rAct b RL) hB
      have bb1 := hB.2.2.1
      rw [if_pos c, if_pos rfl, e1, qb6, e2.2.1, e8_isHome hB1 hk, qb1, ← e2.2.1, ql0]
      have hh := (hB1.2.2.2.1 k hk).2.2.2.2
      by_cases d : goA b RL (rAct b RL) (39 + 5 * k) = 0
      · rw [d, if_pos rfl, ql1, q_add, qt1]
        obtain ⟨r, fa2, wa2, sc2, ho2, of2, e3, e4⟩ := ih n (i + 1) (goA b RL (rAct b RL)) fa1 of1 wa1 (sc + nI (goW b RL (rAct b RL))) ho1 (by omega) (by omega) hB1 (by omega) (by rw [g1]; exact he) (CE_goA hB hE) e2 hC
        refine ⟨r, fa2, wa2, sc2, ho2, of2, e3, ?_⟩
        intro T la s pi sc3 z sc0 z0 fuel2 b0 hf2 hM hMR hla
        obtain ⟨n2, rfl⟩ : ∃ n, fuel2 = n + 1 := ⟨fuel2 - 1, by omega⟩
        obtain ⟨pi1, s1, e5, e6⟩ := e9_goesRest (pi := pi) hB hM hMR
        obtain ⟨pi2, s2, e7, e8⟩ := e4 T la s1 pi1 _ z sc0 z0 n2 b0 (by omega) e6 (MRs_go hB hMR) hla
        rw [f_X9_when_L32, if_neg (by decide), e9_isOver hB hM, if_pos c, qb1, if_pos rfl, e5, qb3, e9_home e6.1 hk, qb1, d, if_pos (show nI 0 = 0 from rfl)]
        unfold f_X9_when_b64
        rw [if_neg (by decide)]
        exact ⟨_, _, e7, e8⟩
      · have d1 : goA b RL (rAct b RL) (39 + 5 * k) = 1 := by omega
        rw [d1, if_neg (by decide), e2.1, g0]
        have ew : nI (b 0 + 1) - 1 = nI (b 0) := nI_pred _
        refine ⟨nI (b 0 + 1) - 1, _, _, _, _, _, rfl, ?_⟩
        intro T la s pi sc3 z sc0 z0 fuel2 b0 hf2 hM hMR hla
        obtain ⟨n2, rfl⟩ : ∃ n, fuel2 = n + 1 + 1 := ⟨fuel2 - 2, by omega⟩
        obtain ⟨pi1, s1, e5, e6⟩ := e9_goesRest (pi := pi) hB hM hMR
        obtain ⟨s', e7, e8⟩ := e9_bk hla e6
        have gw := goW_le (RL := RL) hB (rAct b RL)
        rw [f_X9_when_L32, if_neg (by decide), e9_isOver hB hM, if_pos c, qb1, if_pos rfl, e5, qb3, e9_home e6.1 hk, qb1, d1, if_neg (by decide)]
        unfold f_X9_when_b64
        rw [if_pos rfl, if_pos (nI_pos' (by omega)), qt1, e6.1 0 (by decide) (by decide) (by decide), g0, f_X9_when_L32, if_pos rfl, e7, qb1]
        exact ⟨_, _, rfl, e8⟩
    · rw [if_neg c, if_neg (by decide)]
      refine ⟨-3, _, _, _, _, _, rfl, ?_⟩
      intro T la s pi sc2 z sc0 z0 fuel2 b0 hf2 hM hMR hla
      obtain ⟨n2, rfl⟩ : ∃ n, fuel2 = n + 1 := ⟨fuel2 - 1, by omega⟩
      obtain ⟨s', e1, e2⟩ := e9_bk hla hM
      rw [f_X9_when_L32, if_neg (by decide), e9_isOver hB hM, if_neg c, qb1, if_neg (by decide), e1, qb1]
      exact ⟨_, _, rfl, e2⟩
theorem st_when (h : InR cnt en z wa sc ho kd tr ln li cu bu of rn rz rk rd rb rs rl rr pn ph pa pl pm s) {wt st ht : Int32} {ot la : Nat → Int32} (p0 : Int32) :
    ∃ r fa' wt' st' ht' ot' la' pi' s', f_X8_when p0 cnt en bu cu kd ln li wa sc ho of rn rb rd fa rk rl rr rs tr wt st ht ot = some (r, fa', wt', st', ht', ot') ∧ f_X9_when p0 la pi s = some (r, la', pi', s') ∧ InR cnt en z wa sc ho kd tr ln li cu bu of rn rz rk rd rb rs rl rr pn ph pa pl pm s' := by
  have h0 := h
  obtain ⟨a, RL, hB, hE, hS, he, hC, hn, hz, hP, hM, hMR⟩ := h
  have h4 := hB.1
  unfold f_X8_when f_X9_when
  rcases e_has (p := p0) (n := a 4) (hM.1 4 (by decide) (by decide) (by decide)) (by omega) with ⟨e1, e2⟩ | ⟨k, hk, rfl, e1, e2⟩
  · exact ⟨-1, _, _, _, _, _, _, _, _, by rw [hE.1, e1, qb1, if_pos rfl], by rw [e2, qb1, if_pos rfl], h0⟩
  · have hk6 : k < 6 := by omega
    have hh := (hB.2.2.2.1 k hk6).2.2.2.2
    obtain ⟨la1, e5, e6⟩ := e9_layDown (la := la) (s := s)
    have hLB : LB la1 a sc z s := ⟨s, hM, e6⟩
    rw [hE.1, e1, qb1, if_neg (show ¬ (1 : Int32) = 0 by decide), hS.2.1, e8_isHome hB hk6, qb1, e2, qb1, if_neg (show ¬ (1 : Int32) = 0 by decide), e5, qb1, e9_home hM.1 hk6, qb1, ← hE.1, ← hS.2.1]
    by_cases c : a (39 + 5 * k) = 0
    · rw [c, if_pos (show nI 0 = 0 from rfl), if_pos (show nI 0 = 0 from rfl), e8_become, qb4]
      have b1 := hB.2.2.1
      obtain ⟨r, fa2, wa2, sc2, ho2, of2, e7, e8⟩ := e8_whenL (N := 0) k hk6 16 1000 0 a fa (va_cpy of ot 0 0 6) wa sc ho (by omega) (by omega) hB (by omega) he hE (CS_cpy hS) hC
      obtain ⟨pi2, s2, e9, e10⟩ := e8 s la1 s pi sc z sc z 1000 a (by omega) hM hMR hLB
      rw [← hn] at e7
      exact ⟨r, _, _, _, _, _, _, _, _, e7, e9, InR_mk (a := a) (b := a) hB hE hS he hC hn hz hP e10 hMR rfl⟩
    · rw [if_neg (show ¬ nI (a (39 + 5 * k)) = 0 by rw [ql0, q_eq (by omega) (by omega)]; exact c), if_neg (show ¬ nI (a (39 + 5 * k)) = 0 by rw [ql0, q_eq (by omega) (by omega)]; exact c)]
      obtain ⟨s2, e9, e10⟩ := e9_bk hLB hM
      unfold f_X9_when_b31
      rw [f_X9_when_L32, if_pos rfl, e9, qb1]
      exact ⟨_, _, _, _, _, _, _, _, _, rfl, rfl, InR_mk (a := a) (b := a) hB hE hS he hC hn hz hP e10 hMR rfl⟩
theorem e8_rockL (k : Nat) (hk : k < 6) : ∀ (m fuel i : Nat) (b : Nat → Nat) (fa of : Nat → Int32) (wa sc ho : Int32), i + m = 16 → m + 1 < fuel → BA b → b 1 - b 0 ≤ m → en = nI (b 1) → CE cnt kd tr ln li cu bu b → CS wa ho of b → CRs rk rd rb rs rl rr RL →
    ∃ r fa' wa' sc' ho' of', f_X8_rock_L29 (nI k) cnt en bu cu kd ln li (nI RL.length) rb rd rk rl rr rs tr fuel (nI i) fa wa sc ho of = some (r, fa', wa', sc', ho', of') ∧
    ∀ (T la s pi : Nat → Int32) (sc2 z sc0 z0 : Int32) (fuel2 v : Nat) (b0 : Nat → Nat), m + 1 < fuel2 → v + 21 * m < 10000 → MS s b sc2 z T → MRs T b RL → LB la b0 sc0 z0 T →
      ∃ pi' s', f_X9_rock_L16 (nI k) fuel2 (nI v) la pi s = some (r, la, pi', s') ∧ MS s' b0 sc0 z0 T := by
  intro m
  induction m with
  | zero =>
    intro fuel i b fa of wa sc ho hi hf hB hm he hE hS hC
    obtain ⟨n, rfl⟩ : ∃ n, fuel = n + 1 + 1 := ⟨fuel - 2, by omega⟩
    have hov : ¬ b 0 < b 1 := by omega
    rw [f_X8_rock_L29, ql16, if_neg (nI_nlt (by omega) (by omega)), e8_onRock hB hS hk, qb1]
    by_cases d : b (39 + 5 * k) = 0 ∧ b (36 + 5 * k) = 0
    · rw [if_pos d, if_neg (by decide)]
      refine ⟨wa, _, _, _, _, _, rfl, ?_⟩
      intro T la s pi sc2 z sc0 z0 fuel2 v b0 hf2 hv hM hMR hla
      obtain ⟨n2, rfl⟩ : ∃ n, fuel2 = n + 1 := ⟨fuel2 - 1, by omega⟩
      obtain ⟨s', e1, e2⟩ := e9_bk hla hM
      rw [f_X9_rock_L16, e9_onRock hM.1 hB hk, qb1, if_pos d, if_neg (by decide)]
      unfold f_X9_rock_b42
      rw [e9_onRock hM.1 hB hk, qb1, if_pos d, if_neg (by decide), if_neg (nI_pos (by omega)), qt1, e1, qb1, hM.1 0 (by decide) (by decide) (by decide), ← hS.1]
      exact ⟨_, _, rfl, e2⟩
    · rw [if_neg d, if_pos rfl, e8_isOver hS.1 he hB, qb1, if_neg hov, if_neg (by decide)]
      refine ⟨-3, _, _, _, _, _, rfl, ?_⟩
      intro T la s pi sc2 z sc0 z0 fuel2 v b0 hf2 hv hM hMR hla
      obtain ⟨n2, rfl⟩ : ∃ n, fuel2 = n + 1 := ⟨fuel2 - 1, by omega⟩
      obtain ⟨s', e1, e2⟩ := e9_bk hla hM
      rw [f_X9_rock_L16, e9_onRock hM.1 hB hk, qb1, if_neg d, if_pos rfl, e9_isOver hB hM, qb1, if_neg hov, if_neg (by decide)]
      unfold f_X9_rock_b42
      rw [e9_onRock hM.1 hB hk, qb1, if_neg d, if_pos rfl, e1, qb1]
      exact ⟨_, _, rfl, e2⟩
  | succ m ih =>
    intro fuel i b fa of wa sc ho hi hf hB hm he hE hS hC
    obtain ⟨n, rfl⟩ : ∃ n, fuel = n + 1 := ⟨fuel - 1, by omega⟩
    rw [f_X8_rock_L29, ql16, if_neg (nI_nlt (by omega) (by omega)), e8_onRock hB hS hk, qb1]
    by_cases d : b (39 + 5 * k) = 0 ∧ b (36 + 5 * k) = 0
    · rw [if_pos d, if_neg (by decide)]
      refine ⟨wa, _, _, _, _, _, rfl, ?_⟩
      intro T la s pi sc2 z sc0 z0 fuel2 v b0 hf2 hv hM hMR hla
      obtain ⟨n2, rfl⟩ : ∃ n, fuel2 = n + 1 := ⟨fuel2 - 1, by omega⟩
      obtain ⟨s', e1, e2⟩ := e9_bk hla hM
      rw [f_X9_rock_L16, e9_onRock hM.1 hB hk, qb1, if_pos d, if_neg (by decide)]
      unfold f_X9_rock_b42
      rw [e9_onRock hM.1 hB hk, qb1, if_pos d, if_neg (by decide), if_neg (nI_pos (by omega)), qt1, e1, qb1, hM.1 0 (by decide) (by decide) (by decide), ← hS.1]
      exact ⟨_, _, rfl, e2⟩
    · rw [if_neg d, if_pos rfl, e8_isOver hS.1 he hB, qb1]
      by_cases c : b 0 < b 1
      · obtain ⟨wa1, ho1, of1, fa1, e1, e2⟩ := e8_passRest (fa := fa) (sc := sc) hB hE hS hC
        have hB1 := BA_goA (RL := RL) (act := rAct b RL) hB c
        have g0 := goA_0 (a := b) (RL := RL) (act := rAct b RL)
        have g1 := goA_1 (RL := RL) (act := rAct b RL) hB
        have gw := goW_le (RL := RL) hB (rAct b RL)
        rw [if_pos c, if_pos rfl, e1, qb6, ql1, q_add, qt1]
        obtain ⟨r, fa2, wa2, sc2, ho2, of2, e3, e4⟩ := ih n (i + 1) (goA b RL (rAct b RL)) fa1 of1 wa1 (sc + nI (goW b RL (rAct b RL))) ho1 (by omega) (by omega) hB1 (by omega) (by rw [g1]; exact he) (CE_goA hB hE) e2 hC
        refine ⟨r, fa2, wa2, sc2, ho2, of2, e3, ?_⟩
        intro T la s pi sc3 z sc0 z0 fuel2 v b0 hf2 hv hM hMR hla
        obtain ⟨n2, rfl⟩ : ∃ n, fuel2 = n + 1 := ⟨fuel2 - 1, by omega⟩
        obtain ⟨pi1, s1, e5, e6⟩ := e9_goesRest (pi := pi) hB hM hMR
        obtain ⟨pi2, s2, e7, e8⟩ := e4 T la s1 pi1 _ z sc0 z0 n2 (v + goW b RL (rAct b RL)) b0 (by omega) (by omega) e6 (MRs_go hB hMR) hla
        rw [f_X9_rock_L16, e9_onRock hM.1 hB hk, qb1, if_neg d, if_pos rfl, e9_isOver hB hM, qb1, if_pos c, if_pos rfl, e5, qb3, q_add, qt1]
        exact ⟨_, _, e7, e8⟩
      · rw [if_neg c, if_neg (by decide)]
        refine ⟨-3, _, _, _, _, _, rfl, ?_⟩
        intro T la s pi sc2 z sc0 z0 fuel2 v b0 hf2 hv hM hMR hla
        obtain ⟨n2, rfl⟩ : ∃ n, fuel2 = n + 1 := ⟨fuel2 - 1, by omega⟩
        obtain ⟨s', e1, e2⟩ := e9_bk hla hM
        rw [f_X9_rock_L16, e9_onRock hM.1 hB hk, qb1, if_neg d, if_pos rfl, e9_isOver hB hM, qb1, if_neg c, if_neg (by decide)]
        unfold f_X9_rock_b42
        rw [e9_onRock hM.1 hB hk, qb1, if_neg d, if_pos rfl, e1, qb1]
        exact ⟨_, _, rfl, e2⟩
theorem st_rock (h : InR cnt en z wa sc ho kd tr ln li cu bu of rn rz rk rd rb rs rl rr pn ph pa pl pm s) {wt st ht : Int32} {ot la : Nat → Int32} (p0 : Int32) :
    ∃ r fa' wt' st' ht' ot' la' pi' s', f_X8_rock p0 cnt en bu cu kd ln li wa sc ho of rn rb rd fa rk rl rr rs tr wt st ht ot = some (r, fa', wt', st', ht', ot') ∧ f_X9_rock p0 la pi s = some (r, la', pi', s') ∧ InR cnt en z wa sc ho kd tr ln li cu bu of rn rz rk rd rb rs rl rr pn ph pa pl pm s' := by
  have h0 := h
  obtain ⟨a, RL, hB, hE, hS, he, hC, hn, hz, hP, hM, hMR⟩ := h
  have h4 := hB.1
  unfold f_X8_rock f_X9_rock
  rcases e_has (p := p0) (n := a 4) (hM.1 4 (by decide) (by decide) (by decide)) (by omega) with ⟨e1, e2⟩ | ⟨k, hk, rfl, e1, e2⟩
  · exact ⟨-1, _, _, _, _, _, _, _, _, by rw [hE.1, e1, qb1, if_pos rfl], by rw [e2, qb1, if_pos rfl], h0⟩
  · have hk6 : k < 6 := by omega
    have b1 := hB.2.2.1
    obtain ⟨la1, e5, e6⟩ := e9_layDown (la := la) (s := s)
    have hLB : LB la1 a sc z s := ⟨s, hM, e6⟩
    rw [hE.1, e1, qb1, if_neg (show ¬ (1 : Int32) = 0 by decide), e8_become, qb4, e2, qb1, if_neg (show ¬ (1 : Int32) = 0 by decide), e5, qb1, ← hE.1]
    obtain ⟨r, fa2, wa2, sc2, ho2, of2, e7, e8⟩ := e8_rockL k hk6 16 1000 0 a fa (va_cpy of ot 0 0 6) wa sc ho (by omega) (by omega) hB (by omega) he hE (CS_cpy hS) hC
    obtain ⟨pi2, s2, e9, e10⟩ := e8 s la1 s pi sc z sc z 1000 0 a (by omega) (by omega) hM hMR hLB
    rw [← hn] at e7
    exact ⟨r, _, _, _, _, _, _, _, _, e7, e9, InR_mk (a := a) (b := a) hB hE hS he hC hn hz hP e10 hMR rfl⟩
theorem e8_lstL (hB : BA a) (hE : CE cnt kd tr ln li cu bu a) (hS : CS wa ho of a) (hR : RM s a) {k : Nat} (hk : k < 6) : ∀ (d fuel t : Nat), t + d = 10 → d < fuel → ∃ r, f_X8_least_L15 (nI k) bu kd ln li wa ho of fuel (nI t) = some r ∧ f_X9_least_L12 (nI k) s fuel (nI t) = some r := by
  intro d
  induction d with
  | zero =>
    intro fuel t ht hf
    obtain ⟨n, rfl⟩ : ∃ n, fuel = n + 1 := ⟨fuel - 1, by omega⟩
    rw [f_X8_least_L15, f_X9_least_L12, ql9, if_pos (nI_lt (by omega) (by omega)), if_pos (nI_lt (by omega) (by omega))]
    exact ⟨_, rfl, rfl⟩
  | succ d ih =>
    intro fuel t ht hf
    obtain ⟨n, rfl⟩ : ∃ n, fuel = n + 1 := ⟨fuel - 1, by omega⟩
    rw [f_X8_least_L15, f_X9_least_L12, ql9, if_neg (nI_nlt (by omega) (by omega)), if_neg (nI_nlt (by omega) (by omega)), e8_inReach hB hE hS hk (by omega), e9_inReach hB hR hk (by omega), qb1, qb1, ql1, q_add, qt1, qt1]
    by_cases c : inR a k t
    · rw [if_pos c, if_neg (by decide), if_neg (by decide)]; exact ⟨_, rfl, rfl⟩
    · rw [if_neg c, if_pos rfl, if_pos rfl]; exact ih n (t + 1) (by omega) (by omega)
theorem st_least (h : InR cnt en z wa sc ho kd tr ln li cu bu of rn rz rk rd rb rs rl rr pn ph pa pl pm s) (p0 : Int32) :
    ∃ r, f_X8_least p0 cnt bu kd ln li wa ho of = some r ∧ f_X9_least p0 s = some r := by
  obtain ⟨a, RL, hB, hE, hS, he, hC, hn, hz, hP, hM, hMR⟩ := h
  have h4 := hB.1
  unfold f_X8_least f_X9_least
  rcases e_has (p := p0) (n := a 4) (hM.1 4 (by decide) (by decide) (by decide)) (by omega) with ⟨e1, e2⟩ | ⟨k, hk, rfl, e1, e2⟩
  · exact ⟨-1, by rw [hE.1, e1, qb1, if_pos rfl], by rw [e2, qb1, if_pos rfl]⟩
  · rw [hE.1, e1, qb1, if_neg (show ¬ (1 : Int32) = 0 by decide), e2, qb1, if_neg (show ¬ (1 : Int32) = 0 by decide)]
    exact e8_lstL hB hE hS hM.1 (by omega) 10 1000 0 (by omega) (by omega)
/-- those not on the rock, up to the j-th -/
def nrk (a : Nat → Nat) : Nat → Nat
  | 0 => 0
  | j + 1 => nrk a j + (if a (39 + 5 * j) = 0 ∧ a (36 + 5 * j) = 0 then 0 else 2 ^ j)
theorem nrk_lt (a : Nat → Nat) : ∀ j, nrk a j < 2 ^ j := by
  intro j
  induction j with
  | zero => exact Nat.one_pos
  | succ j ih =>
    show nrk a j + (if a (39 + 5 * j) = 0 ∧ a (36 + 5 * j) = 0 then 0 else 2 ^ j) < 2 ^ (j + 1)
    rw [Nat.pow_succ]
    split <;> omega
theorem e8_safeL (hB : BA a) (hS : CS wa ho of a) {x1 : Int32} : ∀ (d fuel j : Nat), j + d = a 4 → d < fuel → f_X8_safe_L22 (nI (a 4)) fuel (nI (nrk a j)) (nI j) fa wa x1 ho of = some (nI (nrk a (a 4)), fa, wa, x1, ho, of) := by
  have h4 := hB.1
  intro d
  induction d with
  | zero =>
    intro fuel j hj hf
    obtain ⟨n, rfl⟩ : ∃ n, fuel = n + 1 := ⟨fuel - 1, by omega⟩
    rw [f_X8_safe_L22, if_pos (nI_le (by omega) (by omega)), show j = a 4 by omega]
  | succ d ih =>
    intro fuel j hj hf
    obtain ⟨n, rfl⟩ : ∃ n, fuel = n + 1 := ⟨fuel - 1, by omega⟩
    have hj6 : j < 6 := by omega
    have := ih n (j + 1) (by omega) (by omega)
    rw [f_X8_safe_L22, if_neg (nI_ge (by omega) (by omega)), e8_onRock hB hS hj6, qb1, q_or j hj6 _ (nrk_lt a j), ql1, q_add, qt1, qt1, qt1]
    have hs : nrk a (j + 1) = nrk a j + (if a (39 + 5 * j) = 0 ∧ a (36 + 5 * j) = 0 then 0 else 2 ^ j) := rfl
    rw [hs] at this
    by_cases c : a (39 + 5 * j) = 0 ∧ a (36 + 5 * j) = 0
    · rw [if_pos c, Nat.add_zero] at this
      rw [if_pos c, if_neg (by decide)]; exact this
    · rw [if_neg c] at this
      rw [if_neg c, if_pos (by decide)]; exact this
theorem e9_safe51 (hB : BA a) {T la : Nat → Int32} {b0 : Nat → Nat} {sc1 z1 sc0 z0 : Int32} (hM : MS s a sc1 z1 T) (hla : LB la b0 sc0 z0 T) {v : Nat} (hv : v < 10000) : ∀ (d fuel j : Nat), j + d = a 4 → d < fuel → ∃ s', f_X9_safe_L51 fuel (nI v) (nI (nrk a j)) (nI j) la pi s = some (nI (nrk a (a 4)), la, pi, s') ∧ MS s' b0 sc0 z0 T := by
  have h4 := hB.1
  intro d
  induction d with
  | zero =>
    intro fuel j hj hf
    obtain ⟨n, rfl⟩ : ∃ n, fuel = n + 1 := ⟨fuel - 1, by omega⟩
    obtain ⟨s', e1, e2⟩ := e9_bk hla hM
    rw [f_X9_safe_L51, hM.1 4 (by decide) (by decide) (by decide), if_pos (nI_le (by omega) (by omega)), show j = a 4 by omega, e1, qb1]
    exact ⟨_, rfl, e2⟩
  | succ d ih =>
    intro fuel j hj hf
    obtain ⟨n, rfl⟩ : ∃ n, fuel = n + 1 := ⟨fuel - 1, by omega⟩
    have hj6 : j < 6 := by omega
    have := ih n (j + 1) (by omega) (by omega)
    have e0 : nI (nrk a j) ||| (0 : Int32) = nI (nrk a j) := Int32.or_zero
    rw [f_X9_safe_L51, hM.1 4 (by decide) (by decide) (by decide), if_neg (nI_ge (by omega) (by omega)), if_neg (nI_pos (by omega)), e9_onRock hM.1 hB hj6, qb1, q_or j hj6 _ (nrk_lt a j), e0, ql1, q_add, qt1, qt1, qt1, qt1]
    have hs : nrk a (j + 1) = nrk a j + (if a (39 + 5 * j) = 0 ∧ a (36 + 5 * j) = 0 then 0 else 2 ^ j) := rfl
    rw [hs] at this
    by_cases c : a (39 + 5 * j) = 0 ∧ a (36 + 5 * j) = 0
    · rw [if_pos c, Nat.add_zero] at this
      rw [if_pos c, if_neg (by decide)]; exact this
    · rw [if_neg c] at this
      rw [if_neg c, if_pos (by decide)]; exact this
theorem e9_safeL {T la : Nat → Int32} {b0 : Nat → Nat} {sc0 z0 z1 : Int32} {N : Nat} (hN : N ≤ 16) (hla : LB la b0 sc0 z0 T) : ∀ (m fuel i v : Nat) (b : Nat → Nat) (s pi : Nat → Int32) (sc1 : Int32), i + m = N → m < fuel → v + 21 * m < 10000 → BA b → MS s b sc1 z1 T → MRs T b RL →
    ∃ pi' s', f_X9_safe_L20 (nI N) fuel (nI v) (nI i) la pi s = some (nI (nrk (rsA RL m b) (rsA RL m b 4)), la, pi', s') ∧ MS s' b0 sc0 z0 T := by
  intro m
  induction m with
  | zero =>
    intro fuel i v b s pi sc1 hi hf hv hB hM hC
    obtain ⟨n, rfl⟩ : ∃ n, fuel = n + 1 := ⟨fuel - 1, by omega⟩
    rw [f_X9_safe_L20, if_pos (nI_le (by omega) (by omega))]
    obtain ⟨s', e1, e2⟩ := e9_safe51 (pi := pi) hB hM hla (v := v) (by omega) (b 4) 1000 0 (by omega) (by have := hB.1; omega)
    exact ⟨_, _, e1, e2⟩
  | succ m ih =>
    intro fuel i v b s pi sc1 hi hf hv hB hM hC
    obtain ⟨n, rfl⟩ : ∃ n, fuel = n + 1 := ⟨fuel - 1, by omega⟩
    rw [f_X9_safe_L20, if_neg (nI_ge (by omega) (by omega)), e9_isOver hB hM, qb1, rsA_s]
    by_cases c : b 0 < b 1
    · obtain ⟨pi1, s1, e1, e2⟩ := e9_goesRest (pi := pi) hB hM hC
      have gw := goW_le (RL := RL) hB (rAct b RL)
      rw [if_pos c, if_pos rfl, e1, qb3, ql1, q_add, q_add, qt1, qt1, if_pos c]
      exact ih n (i + 1) (v + goW b RL (rAct b RL)) (goA b RL (rAct b RL)) s1 pi1 _ (by omega) (by omega) (by omega) (BA_goA hB c) e2 (MRs_go hB hC)
    · rw [if_neg c, if_neg (by decide), if_neg c]
      obtain ⟨s', e1, e2⟩ := e9_safe51 (pi := pi) hB hM hla (v := v) (by omega) (b 4) 1000 0 (by omega) (by have := hB.1; omega)
      exact ⟨_, _, e1, e2⟩
theorem st_safe (h : InR cnt en z wa sc ho kd tr ln li cu bu of rn rz rk rd rb rs rl rr pn ph pa pl pm s) {wt st ht : Int32} {ot la : Nat → Int32} (p0 : Int32) :
    ∃ r fa' wt' st' ht' ot' la' pi' s', f_X8_safe p0 cnt en bu cu kd ln li wa sc ho of rn rb rd fa rk rl rr rs tr wt st ht ot = some (r, fa', wt', st', ht', ot') ∧ f_X9_safe p0 la pi s = some (r, la', pi', s') ∧ InR cnt en z wa sc ho kd tr ln li cu bu of rn rz rk rd rb rs rl rr pn ph pa pl pm s' := by
  have h0 := h
  obtain ⟨a, RL, hB, hE, hS, he, hC, hn, hz, hP, hM, hMR⟩ := h
  unfold f_X8_safe f_X9_safe
  rcases e_in (p := p0) (lo := 0) (hi := 16) 0 16 rfl rfl (by decide) (by decide) with ⟨e1, e2, -⟩ | ⟨k, k1, k2, rfl, e1, e2⟩
  · exact ⟨-1, _, _, _, _, _, _, _, _, by rw [e1, qb1, if_pos rfl], by rw [e2, qb1, if_pos rfl], h0⟩
  · rw [e1, qb1, if_neg (by decide), e2, qb1, if_neg (by decide)]
    obtain ⟨fa1, wa1, sc1, ho1, of1, e3, e4⟩ := e8_worth (fa := fa) (of0 := ot) hB hE hS hC he k2
    obtain ⟨la1, e5, e6⟩ := e9_layDown (la := la) (s := s)
    have hLB : LB la1 a sc z s := ⟨s, hM, e6⟩
    have hBr := BA_rsA (RL := RL) k hB
    have hr4 : rsA RL k a 4 = a 4 := rsA_oth k hB (by decide) (by decide)
    rw [← hn] at e3
    have e7 := e8_safeL (fa := fa1) (x1 := sc1) hBr e4 (rsA RL k a 4) 1000 0 (by omega) (by have := hBr.1; omega)
    obtain ⟨pi2, s2, e8, e9⟩ := e9_safeL (RL := RL) k2 hLB k 1000 0 0 a s pi sc (by omega) (by omega) (by omega) hB hM hMR
    rw [hr4] at e7
    refine ⟨_, _, _, _, _, _, _, _, _, by rw [e3, qb6, hE.1]; exact e7, by rw [e5, qb1]; rw [hr4] at e8; exact e8, InR_mk (a := a) (b := a) hB hE hS he hC hn hz hP e9 hMR rfl⟩
end S4
