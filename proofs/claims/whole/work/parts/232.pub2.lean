/-! ===== E: calls on the rock, more ===== -/
theorem e_out {p lo hi : Int32} (l h : Nat) (hlo : lo = nI l) (hhi : hi = nI h) (hh : h < 2 ^ 31) (ho : p < lo ∨ hi < p) (q : Nat) (h1 : l ≤ q) (h2 : q ≤ h) : ¬ p = nI q := by
  rintro rfl
  subst hlo hhi
  rcases ho with ho | ho
  · exact nI_nlt h1 (by omega) ho
  · exact nI_nlt h2 hh ho
theorem MS_updg {s : Nat → Int32} {a : Nat → Nat} {sc z : Int32} {T : Nat → Int32} (h : MS s a sc z T) {j : Nat} (x : Nat) (h2 : j ≠ 2) (h3 : j ≠ 3) (hj2 : j < 65) : MS (upd s j (nI x)) (updN a j x) sc z T := by
  obtain ⟨g1, g2, g3, g4⟩ := h
  exact ⟨RM_upd g1 j x, by rw [upd_ne _ _ (by omega)]; exact g2, by rw [upd_ne _ _ (by omega)]; exact g3, fun i hi => by rw [upd_ne _ _ (by omega)]; exact g4 i hi⟩
theorem BA_cnt {a : Nat → Nat} (hB : BA a) {x : Nat} (h1 : a 4 ≤ x) (h2 : x ≤ 6) : BA (updN a 4 x) := by
  obtain ⟨g1, g2, g3, g4, g5, g6, g7⟩ := hB
  have e : ∀ j, j ≠ 4 → updN a 4 x j = a j := fun j hj => updN_ne _ _ hj
  refine ⟨by rw [updN_at]; exact h2, by rw [e 0 (by decide), e 1 (by decide)]; exact g2, by rw [e 1 (by decide)]; exact g3, fun k hk => ?_, fun w hw => by rw [e _ (by omega)]; exact g5 w hw, fun c hc => by rw [e _ (by omega), e _ (by omega)]; exact g6 c hc, fun k hk h => ?_⟩
  · rw [e _ (by omega), e _ (by omega), e _ (by omega), e _ (by omega), e _ (by omega)]; exact g4 k hk
  · rw [updN_at] at h
    rw [e _ (by omega)]; exact g7 k hk (by omega)
/-- the set of those at home, up to the j-th -/
def hp (a : Nat → Nat) : Nat → Nat
  | 0 => 0
  | j + 1 => hp a j + a (39 + 5 * j) * 2 ^ j
theorem hp_lt {a : Nat → Nat} (hB : BA a) : ∀ j, j ≤ 6 → hp a j < 2 ^ j := by
  intro j
  induction j with
  | zero => intro _; exact Nat.one_pos
  | succ j ih =>
    intro hj
    have h1 := ih (by omega)
    have h2 := (hB.2.2.2.1 j (by omega)).2.2.2.2
    have h3 : a (39 + 5 * j) * 2 ^ j ≤ 1 * 2 ^ j := Nat.mul_le_mul_right _ h2
    show hp a j + a (39 + 5 * j) * 2 ^ j < 2 ^ (j + 1)
    rw [Nat.pow_succ]
    omega
theorem hp_6 (a : Nat → Nat) : hp a 6 = hb a := by
  show 0 + a 39 * 1 + a 44 * 2 + a 49 * 4 + a 54 * 8 + a 59 * 16 + a 64 * 32 = _
  unfold hb
  omega
theorem hp_all {a : Nat → Nat} (hB : BA a) : ∀ d j, j + d = 6 → a 4 ≤ j → hp a j = hp a 6 := by
  intro d
  induction d with
  | zero => intro j h1 _; rw [show j = 6 by omega]
  | succ d ih =>
    intro j h1 h2
    have := ih (j + 1) (by omega) (by omega)
    rw [← this]
    show _ = hp a j + a (39 + 5 * j) * 2 ^ j
    rw [hB.2.2.2.2.2.2 j (by omega) h2]
    omega
theorem q_or : ∀ j, j < 6 → ∀ h, h < 2 ^ j → nI h ||| ((1 : Int32) <<< (nI j &&& 31)) = nI (h + 2 ^ j) := by decide +kernel
section EM2
variable {a : Nat → Nat} {s : Nat → Int32}
theorem e9_thoseL (hB : BA a) (hR : RM s a) : ∀ (d fuel j : Nat), j + d = a 4 → d < fuel → f_X9_those_L4 4 s fuel (nI (hp a j)) (nI j) = some (nI (hp a (a 4))) := by
  have h4 := hB.1
  intro d
  induction d with
  | zero =>
    intro fuel j hj hf
    obtain ⟨n, rfl⟩ : ∃ n, fuel = n + 1 := ⟨fuel - 1, by omega⟩
    rw [f_X9_those_L4, hR 4 (by decide) (by decide) (by decide), if_pos (nI_le (by omega) (by omega)), show j = a 4 by omega]
  | succ d ih =>
    intro fuel j hj hf
    obtain ⟨n, rfl⟩ : ∃ n, fuel = n + 1 := ⟨fuel - 1, by omega⟩
    have hj6 : j < 6 := by omega
    have b1 := (hB.2.2.2.1 j hj6).2.2.2.2
    have b2 := hp_lt hB j (by omega)
    have e0 : nI (hp a j) ||| (0 : Int32) = nI (hp a j) := Int32.or_zero
    rw [f_X9_those_L4, hR 4 (by decide) (by decide) (by decide), if_neg (nI_ge (by omega) (by omega)), e9_home hR hj6, qb1, qt1, qt1, qt1, qt1, q_or j hj6 _ b2, e0, ql1, q_add]
    have hs : hp a (j + 1) = hp a j + a (39 + 5 * j) * 2 ^ j := rfl
    rcases (by omega : a (39 + 5 * j) = 0 ∨ a (39 + 5 * j) = 1) with c | c
    · have := ih n (j + 1) (by omega) (by omega)
      rw [hs, c, Nat.zero_mul, Nat.add_zero] at this
      rw [c, if_pos (by decide)]; exact this
    · have := ih n (j + 1) (by omega) (by omega)
      rw [hs, c, Nat.one_mul] at this
      rw [c, if_neg (by decide)]; exact this
theorem e9_those (hB : BA a) (hR : RM s a) : f_X9_those 4 s = some (nI (hb a)) := by
  have h4 := hB.1
  have := e9_thoseL hB hR (a 4) 1000 0 (by omega) (by omega)
  rw [hp_all hB (6 - a 4) (a 4) (by omega) (Nat.le_refl _), hp_6] at this
  exact this
end EM2
section S2
variable {cnt en z wa sc ho rn rz pn : Int32} {kd tr ln li cu bu of rk rd rb rs rl rr ph pa pl pm s fa pi : Nat → Int32}
theorem st_shipOf (h : InR cnt en z wa sc ho kd tr ln li cu bu of rn rz rk rd rb rs rl rr pn ph pa pl pm s) (p0 p1 : Int32) :
    ∃ r fa' pi', f_X8_shipOf p0 p1 cnt bu cu kd ln li wa ho of rn rb rd fa rk rl rr rs tr = some (r, fa') ∧ f_X9_shipOf p0 p1 pi s = some (r, pi') := by
  obtain ⟨a, RL, hB, hE, hS, he, hC, hn, hz, hP, hM, hMR⟩ := h
  have h4 := hB.1
  have hML := MRl_congr (fun j hj => hM.2.2.2 j (by omega)) RL 0 0 hMR.1
  unfold f_X8_shipOf f_X9_shipOf
  rcases e_has (p := p0) (n := a 4) (hM.1 4 (by decide) (by decide) (by decide)) (by omega) with ⟨e1, e2⟩ | ⟨k, hk, rfl, e1, e2⟩
  · exact ⟨-1, _, _, by rw [hE.1, e1, qb1, if_pos rfl], by rw [e2, qb1, if_pos rfl]⟩
  · have hk6 : k < 6 := by omega
    have b1 := hB.2.2.2.1 k hk6
    rw [hE.1, e1, qb1, if_neg (show ¬ (1 : Int32) = 0 by decide), e2, qb1, if_neg (show ¬ (1 : Int32) = 0 by decide), ← hE.1]
    rcases e_in (p := p1) (lo := 0) (hi := 9) 0 9 rfl rfl (by decide) (by decide) with ⟨-, e4, e5⟩ | ⟨q, q1, q2, rfl, -, e4⟩
    · have no := e_out 0 9 rfl rfl (by decide) e5
      rw [e4, qb1, if_pos rfl, if_neg (show ¬ p1 = 0 from no 0 (by decide) (by decide)), if_neg (show ¬ p1 = 1 from no 1 (by decide) (by decide)), if_neg (show ¬ p1 = 2 from no 2 (by decide) (by decide)), if_neg (show ¬ p1 = 3 from no 3 (by decide) (by decide)), if_neg (show ¬ p1 = 4 from no 4 (by decide) (by decide)), if_neg (show ¬ p1 = 5 from no 5 (by decide) (by decide)), if_neg (show ¬ p1 = 6 from no 6 (by decide) (by decide)), if_neg (show ¬ p1 = 7 from no 7 (by decide) (by decide)), if_neg (show ¬ p1 = 8 from no 8 (by decide) (by decide)), if_neg (show ¬ p1 = 9 from no 9 (by decide) (by decide))]
      exact ⟨-1, _, _, rfl, rfl⟩
    · rw [e4, qb1, if_neg (show ¬ (1 : Int32) = 0 by decide)]
      obtain ⟨fa1, m1⟩ := e8_mayEnter (fa := fa) hB hE hS hC.1 hC.2.1 hC.2.2 hk6
      obtain ⟨fa2, m2⟩ := e8_will (fa := fa) hB hE hS hC.1 hC.2.1 hC.2.2 hk6
      obtain ⟨pi1, m3⟩ := e9_mayEnter (pi := pi) hB hM.1 hML hMR.2.1 hMR.2.2.1 hMR.2.2.2 hk6
      obtain ⟨pi2, m4⟩ := e9_will (pi := pi) hB hM.1 hML hMR.2.1 hMR.2.2.1 hMR.2.2.2 hk6
      rw [← hn] at m1 m2
      have hne : ∀ i j : Nat, i < 100 → j < 100 → i ≠ j → ¬ nI i = nI j := fun i j h1 h2 h3 => by rw [q_eq (by omega) (by omega)]; exact h3
      rcases (by omega : q = 0 ∨ q = 1 ∨ q = 2 ∨ q = 3 ∨ q = 4 ∨ q = 5 ∨ q = 6 ∨ q = 7 ∨ q = 8 ∨ q = 9) with rfl | rfl | rfl | rfl | rfl | rfl | rfl | rfl | rfl | rfl
      · rw [if_pos (show nI 0 = 0 from rfl), qcI (by omega) (by omega), q_cl (by omega), hE.ekd k hk6, if_neg (show ¬ nI 0 = 5 by decide), if_neg (show ¬ nI 0 = 6 by decide), if_neg (show ¬ nI 0 = 7 by decide), if_neg (show ¬ nI 0 = 8 by decide), if_neg (show ¬ nI 0 = 9 by decide), show nI 0 = 0 from rfl, e9_kind hM.1 hk6, qb1]
        exact ⟨_, _, _, rfl, rfl⟩
      · rw [if_neg (show ¬ nI 1 = 0 by decide), if_pos (show nI 1 = 1 from rfl), qcI (by omega) (by omega), q_cl (by omega), hS.2.2 k hk6, if_neg (show ¬ nI 1 = 5 by decide), if_neg (show ¬ nI 1 = 6 by decide), if_neg (show ¬ nI 1 = 7 by decide), if_neg (show ¬ nI 1 = 8 by decide), if_neg (show ¬ nI 1 = 9 by decide), show nI 1 = 1 from rfl, e9_off hM.1 hk6, qb1]
        exact ⟨_, _, _, rfl, rfl⟩
      · rw [if_neg (show ¬ nI 2 = 0 by decide), if_neg (show ¬ nI 2 = 1 by decide), if_pos (show nI 2 = 2 from rfl), qcI (by omega) (by omega), q_cl (by omega), hE.etr k hk6, if_neg (show ¬ nI 2 = 5 by decide), if_neg (show ¬ nI 2 = 6 by decide), if_neg (show ¬ nI 2 = 7 by decide), if_neg (show ¬ nI 2 = 8 by decide), if_neg (show ¬ nI 2 = 9 by decide), show nI 2 = 2 from rfl, e9_trim hM.1 hk6, qb1]
        exact ⟨_, _, _, rfl, rfl⟩
      · rw [if_neg (show ¬ nI 3 = 0 by decide), if_neg (show ¬ nI 3 = 1 by decide), if_neg (show ¬ nI 3 = 2 by decide), if_pos (show nI 3 = 3 from rfl), qcI (by omega) (by omega), q_cl (by omega), hE.eln k hk6, if_neg (show ¬ nI 3 = 5 by decide), if_neg (show ¬ nI 3 = 6 by decide), if_neg (show ¬ nI 3 = 7 by decide), if_neg (show ¬ nI 3 = 8 by decide), if_neg (show ¬ nI 3 = 9 by decide), show nI 3 = 3 from rfl, e9_lane hM.1 hk6, qb1]
        exact ⟨_, _, _, rfl, rfl⟩
      · rw [if_neg (show ¬ nI 4 = 0 by decide), if_neg (show ¬ nI 4 = 1 by decide), if_neg (show ¬ nI 4 = 2 by decide), if_neg (show ¬ nI 4 = 3 by decide), if_pos (show nI 4 = 4 from rfl), hS.2.1, e8_isHome hB hk6, qb1, if_neg (show ¬ nI 4 = 5 by decide), if_neg (show ¬ nI 4 = 6 by decide), if_neg (show ¬ nI 4 = 7 by decide), if_neg (show ¬ nI 4 = 8 by decide), if_neg (show ¬ nI 4 = 9 by decide), show nI 4 = 4 from rfl, e9_home hM.1 hk6, qb1]
        rcases (by omega : a (39 + 5 * k) = 0 ∨ a (39 + 5 * k) = 1) with c | c
        · rw [c, if_pos (show nI 0 = 0 from rfl)]; exact ⟨_, _, _, rfl, rfl⟩
        · rw [c, if_neg (by decide)]; exact ⟨_, _, _, rfl, rfl⟩
      · rw [if_neg (show ¬ nI 5 = 0 by decide), if_neg (show ¬ nI 5 = 1 by decide), if_neg (show ¬ nI 5 = 2 by decide), if_neg (show ¬ nI 5 = 3 by decide), if_neg (show ¬ nI 5 = 4 by decide), if_pos (show nI 5 = 5 from rfl), e8_nears hB hE hS hk6, qb1, if_pos (show nI 5 = 5 from rfl), e9_nears hB hM.1 hk6, qb1]
        exact ⟨_, _, _, rfl, rfl⟩
      · rw [if_neg (show ¬ nI 6 = 0 by decide), if_neg (show ¬ nI 6 = 1 by decide), if_neg (show ¬ nI 6 = 2 by decide), if_neg (show ¬ nI 6 = 3 by decide), if_neg (show ¬ nI 6 = 4 by decide), if_neg (show ¬ nI 6 = 5 by decide), if_pos (show nI 6 = 6 from rfl), qcI (by omega) (by omega), q_cl (by omega), hE.etr k hk6, e8_reaches hB hE hS.1 hk6 b1.2.2.1, qb1, if_neg (show ¬ nI 6 = 5 by decide), if_pos (show nI 6 = 6 from rfl), e9_trim hM.1 hk6, qb1, e9_reaches hB hM.1 hk6 b1.2.2.1, qb1]
        exact ⟨_, _, _, rfl, rfl⟩
      · rw [if_neg (show ¬ nI 7 = 0 by decide), if_neg (show ¬ nI 7 = 1 by decide), if_neg (show ¬ nI 7 = 2 by decide), if_neg (show ¬ nI 7 = 3 by decide), if_neg (show ¬ nI 7 = 4 by decide), if_neg (show ¬ nI 7 = 5 by decide), if_neg (show ¬ nI 7 = 6 by decide), if_pos (show nI 7 = 7 from rfl), e8_pays hB hE hS hk6, qb1, if_neg (show ¬ nI 7 = 5 by decide), if_neg (show ¬ nI 7 = 6 by decide), if_pos (show nI 7 = 7 from rfl), e9_pays hB hM.1 hk6, qb1]
        exact ⟨_, _, _, rfl, rfl⟩
      · rw [if_neg (show ¬ nI 8 = 0 by decide), if_neg (show ¬ nI 8 = 1 by decide), if_neg (show ¬ nI 8 = 2 by decide), if_neg (show ¬ nI 8 = 3 by decide), if_neg (show ¬ nI 8 = 4 by decide), if_neg (show ¬ nI 8 = 5 by decide), if_neg (show ¬ nI 8 = 6 by decide), if_neg (show ¬ nI 8 = 7 by decide), if_pos (show nI 8 = 8 from rfl), m1, qb2, if_neg (show ¬ nI 8 = 5 by decide), if_neg (show ¬ nI 8 = 6 by decide), if_neg (show ¬ nI 8 = 7 by decide), if_pos (show nI 8 = 8 from rfl), m3, qb2]
        by_cases c : may a RL k = true
        · rw [if_pos c, if_neg (show ¬ (1 : Int32) = 0 by decide), if_neg (show ¬ (1 : Int32) = 0 by decide)]; exact ⟨_, _, _, rfl, rfl⟩
        · rw [if_neg c, if_pos rfl, if_pos rfl]; exact ⟨_, _, _, rfl, rfl⟩
      · rw [if_neg (show ¬ nI 9 = 0 by decide), if_neg (show ¬ nI 9 = 1 by decide), if_neg (show ¬ nI 9 = 2 by decide), if_neg (show ¬ nI 9 = 3 by decide), if_neg (show ¬ nI 9 = 4 by decide), if_neg (show ¬ nI 9 = 5 by decide), if_neg (show ¬ nI 9 = 6 by decide), if_neg (show ¬ nI 9 = 7 by decide), if_neg (show ¬ nI 9 = 8 by decide), if_pos (show nI 9 = 9 from rfl), m2, qb2, if_neg (show ¬ nI 9 = 5 by decide), if_neg (show ¬ nI 9 = 6 by decide), if_neg (show ¬ nI 9 = 7 by decide), if_neg (show ¬ nI 9 = 8 by decide), if_pos (show nI 9 = 9 from rfl), m4, qb2]
        exact ⟨_, _, _, rfl, rfl⟩
end S2
