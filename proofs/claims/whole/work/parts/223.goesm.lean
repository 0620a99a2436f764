/-! ===== E: a watch in the reference ===== -/
def MS (s : Nat → Int32) (a : Nat → Nat) (sc z : Int32) (T : Nat → Int32) : Prop := RM s a ∧ s 2 = sc ∧ s 3 = z ∧ ∀ j, 65 ≤ j → s j = T j
theorem MRl_congr {s T : Nat → Int32} (h : ∀ j, 89 ≤ j → s j = T j) : ∀ (RL : List RRul) (r p : Nat), MRl T RL r p → MRl s RL r p := by
  intro RL
  induction RL with
  | nil => intro r p _; trivial
  | cons x t ih =>
    intro r p hM
    obtain ⟨c1, c2, c3, c4, c5, c7⟩ := hM
    refine ⟨by rw [h _ (by omega)]; exact c1, by rw [h _ (by omega)]; exact c2, by rw [h _ (by omega)]; exact c3, c4, fun i hi => by rw [h _ (by omega)]; exact c5 i hi, ih _ _ c7⟩
def MRs (T : Nat → Int32) (a : Nat → Nat) (RL : List RRul) : Prop := MRl T RL 0 0 ∧ okR RL ∧ RL.length ≤ 8 ∧ a 5 = RL.length
theorem RM_upd {s : Nat → Int32} {a : Nat → Nat} (h : RM s a) (j x : Nat) : RM (upd s j (nI x)) (updN a j x) := by
  intro i h1 h2 h3
  unfold upd updN
  by_cases c : i = j
  · rw [if_pos c, if_pos c]
  · rw [if_neg c, if_neg c]; exact h i h1 h2 h3
theorem MS_upd {s : Nat → Int32} {a : Nat → Nat} {sc z : Int32} {T : Nat → Int32} (h : MS s a sc z T) {j : Nat} (x : Nat) (hj : 35 ≤ j) (hj2 : j < 65) : MS (upd s j (nI x)) (updN a j x) sc z T := by
  obtain ⟨h1, h2, h3, h4⟩ := h
  exact ⟨RM_upd h1 j x, by rw [upd_ne _ _ (by omega)]; exact h2, by rw [upd_ne _ _ (by omega)]; exact h3, fun i hi => by rw [upd_ne _ _ (by omega)]; exact h4 i hi⟩
theorem updN_self {a : Nat → Nat} {j x : Nat} (h : a j = x) : updN a j x = a := by
  funext i
  unfold updN
  by_cases c : i = j
  · rw [if_pos c, c, h]
  · rw [if_neg c]
section EG
variable {a : Nat → Nat} {s pi T : Nat → Int32} {sc z : Int32} {RL : List RRul}
theorem e9_puts {k f : Nat} (hk : k < 6) (hf : f < 5) (x : Int32) : f_X9_puts (nI k) (nI f) x s = some (upd s (35 + 5 * k + f) x) := by
  unfold f_X9_puts
  rw [ql35, ql5, q_mul, q_add, q_add, qcI (by omega) (by omega), q_cl (by omega)]
theorem e9_putOff {k : Nat} (hk : k < 6) (x : Int32) : f_X9_puts (nI k) 1 x s = some (upd s (36 + 5 * k) x) := by rw [show 36 + 5 * k = 35 + 5 * k + 1 by omega]; exact e9_puts (f := 1) hk (by decide) x
theorem e9_putHome {k : Nat} (hk : k < 6) (x : Int32) : f_X9_puts (nI k) 4 x s = some (upd s (39 + 5 * k) x) := by rw [show 39 + 5 * k = 35 + 5 * k + 4 by omega]; exact e9_puts (f := 4) hk (by decide) x
theorem e9_onRock (hR : RM s a) (hB : BA a) {k : Nat} (hk : k < 6) : f_X9_isOnRock (nI k) s = some (if a (39 + 5 * k) = 0 ∧ a (36 + 5 * k) = 0 then 1 else 0) := by
  have b1 := hB.2.2.2.1 k hk
  unfold f_X9_isOnRock
  rw [e9_home hR hk, qb1, e9_off hR hk, qb1]
  simp (disch := omega) only [ql0, q_eq]
  by_cases c1 : a (39 + 5 * k) = 0
  · rw [if_pos c1]
    by_cases c2 : a (36 + 5 * k) = 0
    · rw [if_pos c2, if_pos ⟨c1, c2⟩]
    · rw [if_neg c2, if_neg (fun z => c2 z.2)]
  · rw [if_neg c1, if_neg (fun z => c1 z.1)]
theorem e9_onRockL (hR : RM s a) (hB : BA a) : ∀ (d fuel j v : Nat), j + d = a 4 → d < fuel → v + d < 100 → f_X9_onRock_L4 s fuel (nI v) (nI j) = some (nI (v + rocks a d j)) := by
  have h4 := hB.1
  intro d
  induction d with
  | zero =>
    intro fuel j v hj hf hv
    obtain ⟨n, rfl⟩ : ∃ n, fuel = n + 1 := ⟨fuel - 1, by omega⟩
    rw [f_X9_onRock_L4, hR 4 (by decide) (by decide) (by decide), if_pos (nI_le (by omega) (by omega))]
    rfl
  | succ d ih =>
    intro fuel j v hj hf hv
    obtain ⟨n, rfl⟩ : ∃ n, fuel = n + 1 := ⟨fuel - 1, by omega⟩
    rw [f_X9_onRock_L4, hR 4 (by decide) (by decide) (by decide), if_neg (nI_ge (by omega) (by omega)), e9_onRock hR hB (by omega), qb1, ql0, ql1, q_add, q_add, q_add, qt1, qt1, qt1, qt1]
    unfold rocks
    by_cases c : a (39 + 5 * j) = 0 ∧ a (36 + 5 * j) = 0
    · rw [if_pos c, if_neg (by decide), ih _ _ _ (by omega) (by omega) (by omega), if_pos c]
      congr 2; omega
    · rw [if_neg c, if_pos rfl, ih _ _ _ (by omega) (by omega) (by omega), if_neg c]
      congr 2; omega
theorem e9_onRockN (hR : RM s a) (hB : BA a) : f_X9_onRock s = some (nI (rockN a)) := by
  have h4 := hB.1
  have := e9_onRockL hR hB (a 4) 1000 0 0 (by omega) (by omega) (by omega)
  rw [Nat.zero_add] at this
  exact this
theorem e9_meets (hB : BA a) (hM : MS s a sc z T) (hC : MRs T a RL) {k : Nat} (hk : k < a 4) :
    ∃ pi' s', f_X9_meets (nI k) pi s = some (nI (meetW a RL k), pi', s') ∧ MS s' (meetA a RL k) sc z T := by
  have h4 := hB.1
  have hk6 : k < 6 := by omega
  have hR := hM.1
  have b1 := hB.2.2.2.1 k hk6
  obtain ⟨pi1, hw⟩ := e9_will (pi := pi) hB hR (MRl_congr (fun j hj => hM.2.2.2 j (by omega)) RL 0 0 hC.1) hC.2.1 hC.2.2.1 hC.2.2.2 hk6
  have hwl := @will_le a RL k hC.2.1
  have bl : lightN a ≤ 15 := lightW_le hB (a 0)
  unfold f_X9_meets meetW meetA
  rw [hw, qb2, e9_home hR hk6, qb1, ql1]
  by_cases ch : a (39 + 5 * k) = 0
  · rw [if_pos ch, if_pos ch, if_neg (show ¬ nI (a (39 + 5 * k)) = nI 1 by rw [ch]; decide)]
    rcases (by omega : will a RL k = 0 ∨ will a RL k = 1 ∨ will a RL k = 2) with c | c | c
    · rw [c, if_neg (show ¬ nI 0 = nI 1 by decide), if_pos (show nI 0 = 0 from rfl), if_pos (show (0 : Nat) = 0 from rfl), if_pos (show (0 : Nat) = 0 from rfl)]
      unfold f_X9_enters
      rw [e9_pays hB hR hk6, qb1, e9_putHome hk6, e9_putHome hk6, qb1, qb1]
      unfold pay
      by_cases d : inR a k (a (37 + 5 * k))
      · rw [if_pos d, if_neg (nI_nle (by omega) (by omega)), qb2, if_pos d]
        exact ⟨_, _, rfl, MS_upd hM 1 (by omega) (by omega)⟩
      · rw [if_neg d, if_pos (show nI 0 ≤ 0 by decide), qb2, if_neg d]
        refine ⟨_, _, rfl, ?_⟩
        have := MS_upd hM (j := 39 + 5 * k) 0 (by omega) (by omega)
        rw [updN_self ch] at this
        exact this
    · rw [c, if_pos rfl, if_neg (show ¬ (1 : Nat) = 0 by decide), if_neg (show ¬ (1 : Nat) = 2 by decide), if_neg (show ¬ (1 : Nat) = 0 by decide), if_neg (show ¬ (1 : Nat) = 2 by decide)]
      exact ⟨_, _, rfl, hM⟩
    · rw [c, if_neg (show ¬ nI 2 = nI 1 by decide), if_neg (show ¬ nI 2 = 0 by decide), if_neg (show ¬ (2 : Nat) = 0 by decide), if_pos (show (2 : Nat) = 2 from rfl), if_neg (show ¬ (2 : Nat) = 0 by decide), if_pos (show (2 : Nat) = 2 from rfl), ← ql1, e9_off hR hk6, qb1]
      have eh : f_X9_held (nI (a (36 + 5 * k)) + 12) 99 = some (nI (min 99 (a (36 + 5 * k) + 12))) := by
        unfold f_X9_held
        rw [ql12, q_add, if_pos (nI_pos' (by omega)), ql99]
        by_cases d : a (36 + 5 * k) + 12 ≤ 99
        · rw [if_pos (nI_le d (by omega)), Nat.min_eq_right d]
        · rw [if_neg (nI_ge (by omega) (by omega)), Nat.min_eq_left (by omega)]
      have h1 := MS_upd hM (j := 36 + 5 * k) (min 99 (a (36 + 5 * k) + 12)) (by omega) (by omega)
      have hB2 : BA (updN a (36 + 5 * k) (min 99 (a (36 + 5 * k) + 12))) := by
        have := BA_meet (RL := RL) hB hk
        unfold meetA at this
        rw [if_pos ch, c, if_neg (by decide), if_pos rfl] at this
        exact this
      have el := e9_light hB2 h1.1
      rw [lightN_congr (a := a) (fun x hx => updN_ne _ _ (by omega))] at el
      rw [eh, qb1, e9_putOff hk6, qb1, el, qb1, ql4, q_rem (by omega) (by decide) (by decide), ql1]
      simp (disch := omega) only [q_le]
      by_cases d : lightN a % 4 ≤ 1
      · rw [if_pos d, if_pos d]; exact ⟨_, _, rfl, h1⟩
      · rw [if_neg d, if_neg d]; exact ⟨_, _, rfl, h1⟩
  · have : a (39 + 5 * k) = 1 := by omega
    rw [if_neg ch, if_neg ch, if_pos (show nI (a (39 + 5 * k)) = nI 1 by rw [this])]
    exact ⟨_, _, rfl, hM⟩
def hsum (a : Nat → Nat) : Nat → Nat → Nat
  | 0, _ => 0
  | d + 1, j => a (39 + 5 * j) + hsum a d (j + 1)
theorem hsum_0 (hB : BA a) : ∀ d j, j + d = 6 → a 4 ≤ j → hsum a d j = 0 := by
  intro d
  induction d with
  | zero => intro j _ _; rfl
  | succ d ih =>
    intro j h1 h2
    unfold hsum
    rw [ih (j + 1) (by omega) (by omega), hB.2.2.2.2.2.2 j (by omega) h2]
theorem hsum_cut (hB : BA a) : ∀ d e j, j + d = a 4 → a 4 + e = 6 → hsum a d j = hsum a (d + e) j := by
  intro d
  induction d with
  | zero => intro e j h1 h2; rw [Nat.zero_add, hsum_0 hB e j (by omega) (by omega)]; rfl
  | succ d ih =>
    intro e j h1 h2
    rw [show d + 1 + e = d + e + 1 by omega]
    unfold hsum
    rw [ih e (j + 1) (by omega) h2]
theorem hsum_all (hB : BA a) : hsum a (a 4) 0 = homeN a := by
  have h4 := hB.1
  rw [hsum_cut hB (a 4) (6 - a 4) 0 (by omega) (by omega), show a 4 + (6 - a 4) = 6 by omega]
  unfold homeN
  show a 39 + (a 44 + (a 49 + (a 54 + (a 59 + (a 64 + 0))))) = _
  omega
theorem e9_goL (hB : BA a) {v3 : Int32} : ∀ (d fuel j v : Nat) (s : Nat → Int32), j + d = a 4 → d < fuel → v + d < 100 → MS s (mid a j) sc z T →
    ∃ s', f_X9_goesBy_L35 fuel v3 (nI v) (nI j) pi s = f_X9_goesBy_b115 v3 (nI (v + hsum a d j)) pi s' ∧ MS s' (offA a) sc z T := by
  have h4 := hB.1
  intro d
  induction d with
  | zero =>
    intro fuel j v s hj hf hv hM
    obtain ⟨n, rfl⟩ : ∃ n, fuel = n + 1 := ⟨fuel - 1, by omega⟩
    have e4 : mid a j 4 = a 4 := mid_oth (by omega)
    refine ⟨s, ?_, ?_⟩
    · rw [f_X9_goesBy_L35, hM.1 4 (by decide) (by decide) (by decide), e4, if_pos (nI_le (by omega) (by omega))]
      rfl
    · rw [show j = a 4 by omega] at hM; exact hM
  | succ d ih =>
    intro fuel j v s hj hf hv hM
    obtain ⟨n, rfl⟩ : ∃ n, fuel = n + 1 := ⟨fuel - 1, by omega⟩
    have e4 : mid a j 4 = a 4 := mid_oth (by omega)
    have hj6 : j < 6 := by omega
    have b1 := hB.2.2.2.1 j hj6
    have bm := BA_mid hB j
    have e1 : ∀ x, x % 5 ≠ 1 ∨ x < 35 → mid a j x = a x := fun x hx => mid_oth hx
    have nl := near_le hB hj6
    have eh : f_X9_held (nI (a (36 + 5 * j)) - nI (near a j)) 99 = some (nI (a (36 + 5 * j) - near a j)) := by
      unfold f_X9_held
      by_cases c : near a j ≤ a (36 + 5 * j)
      · rw [pk_sub c, if_pos (nI_pos' (by omega)), ql99, if_pos (nI_le (by omega) (by omega))]
      · rw [if_neg]
        · rw [show a (36 + 5 * j) - near a j = 0 by omega]; rfl
        · rw [Int32.le_iff_toInt_le, pk_sub_toInt (by omega) (by omega)]
          have : (0 : Int32).toInt = 0 := rfl
          omega
    rw [f_X9_goesBy_L35, hM.1 4 (by decide) (by decide) (by decide), e4, if_neg (nI_ge (by omega) (by omega)), e9_home hM.1 hj6, qb1, qt1, e9_off hM.1 hj6, qb1, e9_nears bm hM.1 hj6, qb1, qb1, near_congr hB e1 hj6, e1 (39 + 5 * j) (by omega), mid_off, if_neg (fun z => by omega), eh]
    simp only [qb1, e9_putOff hj6, qt1]
    simp only [ql1, q_add]
    unfold hsum
    by_cases c : a (39 + 5 * j) = 1
    · rw [if_pos (show nI (a (39 + 5 * j)) = nI 1 by rw [c])]
      have h1 := MS_upd hM (j := 36 + 5 * j) (a (36 + 5 * j)) (by omega) (by omega)
      have h2 := mid_s a j
      rw [if_neg (by omega)] at h2
      rw [← h2] at h1
      obtain ⟨s', e5, e6⟩ := ih n (j + 1) (v + a (39 + 5 * j)) _ (by omega) (by omega) (by omega) h1
      exact ⟨s', by rw [e5, Nat.add_assoc], e6⟩
    · have c0 : a (39 + 5 * j) = 0 := by omega
      rw [if_neg (show ¬ nI (a (39 + 5 * j)) = nI 1 by rw [c0]; decide)]
      have h1 := MS_upd hM (j := 36 + 5 * j) (a (36 + 5 * j) - near a j) (by omega) (by omega)
      have h2 := mid_s a j
      rw [if_pos c0] at h2
      rw [← h2] at h1
      obtain ⟨s', e5, e6⟩ := ih n (j + 1) (v + a (39 + 5 * j)) _ (by omega) (by omega) (by omega) h1
      exact ⟨s', by rw [e5, Nat.add_assoc], e6⟩
theorem e9_go28 (hB : BA a) (hM : MS s a sc z T) {w : Nat} (hw : w ≤ 100) :
    ∃ s', f_X9_goesBy_b28 (nI w) pi s = some (nI (w + (homeN a - rockN (offA a))), pi, s') ∧ MS s' (updN (offA a) 0 (a 0 + 1)) (sc + nI (w + (homeN a - rockN (offA a)))) z T := by
  have h4 := hB.1
  obtain ⟨s1, e1, e2⟩ := e9_goL (pi := pi) hB (v3 := nI w) (a 4) 1000 0 0 s (by omega) (by omega) (by omega) (by rw [mid_0]; exact hM)
  unfold f_X9_goesBy_b28
  rw [ql0, e1, Nat.zero_add, hsum_all hB]
  have bo : BA (offA a) := BA_mid hB _
  have hr : rockN (offA a) ≤ 6 := by
    have := rocks_le (offA a) (offA a 4) 0
    have := bo.1
    unfold rockN
    omega
  have hh := homeN_le hB
  have ha0 : offA a 0 = a 0 := mid_oth (by omega)
  unfold f_X9_goesBy_b115
  rw [e9_onRockN e2.1 bo, qb1, qt1]
  have key : ∀ m : Nat, m = homeN a - rockN (offA a) → ∃ s', f_X9_goesBy_b136 (nI w) (nI m) pi s1 = some (nI (w + (homeN a - rockN (offA a))), pi, s') ∧ MS s' (updN (offA a) 0 (a 0 + 1)) (sc + nI (w + (homeN a - rockN (offA a)))) z T := by
    intro m hm
    subst hm
    unfold f_X9_goesBy_b136
    rw [q_add, qt1, qt1, qt1, e2.1 0 (by decide) (by decide) (by decide), ha0, ql1, q_add, upd_ne s1 _ (show (2 : Nat) ≠ 0 by decide), e2.2.1]
    refine ⟨_, rfl, ?_, upd_at _ _ _, ?_, fun j hj => ?_⟩
    · intro i h1 h2 h3
      rw [upd_ne _ _ h2]
      exact RM_upd e2.1 0 _ i h1 h2 h3
    · rw [upd_ne _ _ (by decide), upd_ne _ _ (by decide)]; exact e2.2.2.1
    · rw [upd_ne _ _ (by omega), upd_ne _ _ (by omega)]; exact e2.2.2.2 j hj
  by_cases c : rockN (offA a) < homeN a
  · rw [pk_sub (by omega), if_neg (nI_nle (by omega) (by omega))]
    exact key _ rfl
  · rw [if_pos]
    · exact key 0 (by omega)
    · rw [Int32.le_iff_toInt_le, pk_sub_toInt (by omega) (by omega)]
      have : (0 : Int32).toInt = 0 := rfl
      omega
/-- a watch in the reference -/
theorem e9_goesBy (hB : BA a) (hM : MS s a sc z T) (hC : MRs T a RL) {act : Nat} (ha : act ≤ a 4) :
    ∃ pi' s', f_X9_goesBy (nI act) pi s = some (nI (goW a RL act), pi', s') ∧ MS s' (goA a RL act) (sc + nI (goW a RL act)) z T := by
  have h4 := hB.1
  have hBM := BA_goM (RL := RL) hB act
  have hmw : goMW a RL act ≤ 15 := by
    unfold goMW; split
    · exact meetW_le hB (by omega)
    · exact Nat.zero_le _
  have fin : ∀ (pi' s' : Nat → Int32), MS s' (goM a RL act) sc z T → ∃ pi2 s2, f_X9_goesBy_b28 (nI (goMW a RL act)) pi' s' = some (nI (goW a RL act), pi2, s2) ∧ MS s2 (goA a RL act) (sc + nI (goW a RL act)) z T := by
    intro pi' s' hM'
    obtain ⟨s2, e1, e2⟩ := e9_go28 (pi := pi') hBM hM' (w := goMW a RL act) (by omega)
    rw [goM_lt (by decide)] at e2
    exact ⟨_, _, e1, e2⟩
  unfold f_X9_goesBy f_X9_goesBy_b14
  rw [if_pos (nI_pos' (by omega))]
  by_cases c0 : act = 0
  · subst c0
    rw [if_pos (by decide)]
    have f1 := fin pi s (by unfold goM; rw [if_neg (by omega)]; exact hM)
    rw [show goMW a RL 0 = 0 from if_neg (by omega)] at f1
    exact f1
  · have e0 : nI act - 1 = nI (act - 1) := by
      have := nI_pred (act - 1)
      rw [show act - 1 + 1 = act by omega] at this
      exact this
    have hm1 : goM a RL act = meetA a RL (act - 1) := if_pos ⟨by omega, ha⟩
    have hm2 : goMW a RL act = meetW a RL (act - 1) := if_pos ⟨by omega, ha⟩
    rw [e0, if_neg (nI_pos (by omega))]
    obtain ⟨pi', s', e2, e3⟩ := e9_meets (pi := pi) hB hM hC (k := act - 1) (by omega)
    rw [e2, qb3]
    have f1 := fin pi' s' (by rw [hm1]; exact e3)
    rw [hm2] at f1
    exact f1
end EG
