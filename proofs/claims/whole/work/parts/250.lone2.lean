/-! ===== E: strangers, the class ===== -/
section EF
variable {a : Nat → Nat} {li ph pa pl pm : Nat → Int32} {pn : Int32}
theorem q_imax {x y : Nat} (hx : x < 2 ^ 31) (hy : y < 2 ^ 31) : imax (nI x) (nI y) = nI (max x y) := by
  unfold imax
  by_cases c : x < y
  · rw [if_pos ((q_lt hx hy).mpr c), Nat.max_eq_right (by omega)]
  · rw [if_neg (fun h => c ((q_lt hx hy).mp h)), Nat.max_eq_left (by omega)]
def ltP (a : Nat → Nat) : Nat → Nat
  | 0 => 0
  | r + 1 => max (ltP a r) (a (65 + 4 * r))
theorem ltP_le {a : Nat → Nat} (h : ∀ r, r < 6 → a (65 + 4 * r) ≤ 15) : ∀ n, n ≤ 6 → ltP a n ≤ 15 ∧ ∀ r, r < n → a (65 + 4 * r) ≤ ltP a n := by
  intro n
  induction n with
  | zero => intro _; exact ⟨Nat.zero_le _, fun r hr => absurd hr (Nat.not_lt_zero _)⟩
  | succ n ih =>
    intro hn
    obtain ⟨i1, i2⟩ := ih (by omega)
    have := h n (by omega)
    rw [ltP]
    refine ⟨by omega, fun r hr => ?_⟩
    by_cases c : r = n
    · rw [c]; omega
    · have := i2 r (by omega); omega
theorem e8_latest (hP : RP pn ph pa pl pm a) (h0 : 0 < a 6) : f_X2_latest pn ph = some (nI (ltP a (a 6))) := by
  have h6 := hP.2.1
  have lp := fun n hn => ltP_le (fun r hr => (hP.2.2.2 r hr).1) n hn
  have loop : ∀ (d fuel r : Nat), r + d = a 6 → d < fuel → f_X2_latest_L4 pn ph fuel (nI (ltP a r)) (nI r) = some (nI (ltP a (a 6))) := by
    intro d
    induction d with
    | zero =>
      intro fuel r hr hf
      obtain ⟨n, rfl⟩ : ∃ n, fuel = n + 1 := ⟨fuel - 1, by omega⟩
      rw [f_X2_latest_L4, hP.1, if_pos (nI_le (by omega) (by omega)), show r = a 6 by omega]
    | succ d ih =>
      intro fuel r hr hf
      obtain ⟨n, rfl⟩ : ∃ n, fuel = n + 1 := ⟨fuel - 1, by omega⟩
      have b := hP.2.2.2 r (by omega)
      have l1 := lp r (by omega)
      rw [f_X2_latest_L4, hP.1, if_neg (nI_ge (by omega) (by omega)), ← hP.1, qcI (show r < 6 by omega) (by decide), q_cl (by omega), (hP.2.2.1 r (by omega)).1, q_imax (by omega) (by omega), qt1, qt1, show nI r + 1 = nI (r + 1) from q_add r 1]
      exact ih n (r + 1) (by omega) (by omega)
  unfold f_X2_latest
  obtain ⟨m, hm⟩ : ∃ m, a 6 = m + 1 := ⟨a 6 - 1, by omega⟩
  rw [f_X2_latest_L4, show (0 : Int32) = nI 0 from rfl, hP.1, if_neg (nI_ge (show 0 < a 6 by omega) (by omega)), ← hP.1, qcI (show 0 < 6 by omega) (by decide), q_cl (by omega), (hP.2.2.1 0 (by omega)).1, qt1, qt1, show nI 0 + 1 = nI 1 from rfl]
  have b := hP.2.2.2 0 (by omega)
  have e : imax (-1) (nI (a (65 + 4 * 0))) = nI (ltP a 1) := by
    unfold imax
    rw [if_pos (Int32.lt_of_lt_of_le (by decide) (nI_pos' (show a (65 + 4 * 0) < 2 ^ 31 by omega)))]
    show _ = nI (max 0 _)
    rw [Nat.max_eq_right (Nat.zero_le _)]
  rw [e]
  exact loop m 999 1 (by omega) (by omega)
theorem e8_wrongBehind (hP : RP pn ph pa pl pm a) {w o p : Nat} (hw : w ≤ 16) (ho : o ≤ 99) (hp : p ≤ 99) : f_X2_wrongBehind (nI w) (nI o) (nI p) pn pa ph pl pm = some (nI (wm (fun r => decide (a (65 + 4 * r) = w) && wrV a r o p) (a 6))) := by
  have h6 := hP.2.1
  have loop : ∀ (d fuel r : Nat), r + d = a 6 → d < fuel → f_X2_wrongBehind_L6 (nI w) (nI o) (nI p) pn pa ph pl pm fuel (nI (wm (fun r => decide (a (65 + 4 * r) = w) && wrV a r o p) r)) (nI r) = some (nI (wm (fun r => decide (a (65 + 4 * r) = w) && wrV a r o p) (a 6))) := by
    intro d
    induction d with
    | zero =>
      intro fuel r hr hf
      obtain ⟨n, rfl⟩ : ∃ n, fuel = n + 1 := ⟨fuel - 1, by omega⟩
      rw [f_X2_wrongBehind_L6, hP.1, if_pos (nI_le (by omega) (by omega)), show r = a 6 by omega]
    | succ d ih =>
      intro fuel r hr hf
      obtain ⟨n, rfl⟩ : ∃ n, fuel = n + 1 := ⟨fuel - 1, by omega⟩
      obtain ⟨b1, b2, b3, b4⟩ := hP.2.2.2 r (by omega)
      obtain ⟨g1, g2, g3, g4⟩ := hP.2.2.1 r (by omega)
      have hr6 : r < 6 := by omega
      rw [f_X2_wrongBehind_L6, hP.1, if_neg (nI_ge (by omega) (by omega)), ← hP.1]
      have key : ∀ v : Nat, v ≤ 99 → (if a (66 + 4 * r) = 0 then o else p) = v → f_X2_wrongBehind_b30 (f_X2_wrongBehind_L6 (nI w) (nI o) (nI p) pn pa ph pl pm n) (nI w) ph pl pm (nI (wm (fun r => decide (a (65 + 4 * r) = w) && wrV a r o p) r)) (nI r) (nI v) = some (nI (wm (fun r => decide (a (65 + 4 * r) = w) && wrV a r o p) (a 6))) := by
        intro v hv ev
        have nx := ih n (r + 1) (by omega) (by omega)
        rw [wm] at nx
        have ew : wrV a r o p = decide (v < a (67 + 4 * r) ∨ a (68 + 4 * r) < v) := by unfold wrV; rw [ev]
        have hlt := wm_lt (fun r => decide (a (65 + 4 * r) = w) && wrV a r o p) r
        unfold f_X2_wrongBehind_b30 f_X2_wrongBehind_b67
        simp (disch := omega) only [qcI, q_cl]
        rw [g1, g3, g4, show nI r + 1 = nI (r + 1) from q_add r 1, q_or r hr6 _ hlt, qt1, qt1, qt1]
        by_cases c1 : a (65 + 4 * r) = w
        · rw [if_pos (by rw [c1])]
          by_cases c2 : v < a (67 + 4 * r)
          · rw [if_pos ((q_lt (by omega) (by omega)).mpr c2)]
            rw [if_pos (by rw [ew, decide_eq_true c1, decide_eq_true (Or.inl c2)]; rfl)] at nx
            exact nx
          · rw [if_neg (fun h => c2 ((q_lt (by omega) (by omega)).mp h))]
            by_cases c3 : v ≤ a (68 + 4 * r)
            · rw [if_pos ((q_le (by omega) (by omega)).mpr c3)]
              rw [if_neg (by rw [ew, decide_eq_true c1, decide_eq_false (by omega)]; decide), Nat.add_zero] at nx
              exact nx
            · rw [if_neg (fun h => c3 ((q_le (by omega) (by omega)).mp h))]
              rw [if_pos (by rw [ew, decide_eq_true c1, decide_eq_true (by omega)]; rfl)] at nx
              exact nx
        · rw [if_neg (by rw [q_eq (by omega) (by omega)]; exact c1)]
          rw [if_neg (by rw [decide_eq_false c1, Bool.false_and]; decide), Nat.add_zero] at nx
          exact nx
      rw [qcI hr6 (by decide), q_cl (by omega), g2]
      by_cases c : a (66 + 4 * r) = 0
      · rw [if_pos (by rw [c]; rfl)]; exact key o ho (if_pos c)
      · rw [if_neg (nI_ne0 (by omega) (by omega))]; exact key p hp (if_neg c)
  unfold f_X2_wrongBehind
  exact loop (a 6) 1000 0 (by omega) (by omega)
theorem e8_wrongFor (hP : RP pn ph pa pl pm a) (hli : ∀ w, w < 16 → li w = nI (a (7 + w)) ∧ a (7 + w) ≤ 15) {x : Nat} (hx : x < 500) : f_X2_wrongFor (nI x) 16 li pn pa ph pl pm = some (nI (maskX a x)) := by
  have h6 := hP.2.1
  obtain ⟨t1, t2, t3⟩ := snT hx
  have e1 : f_X2_kindOf (nI x) = some (nI (1 + x / 100)) := by unfold f_X2_kindOf; rw [t2]
  have e2 : f_X2_trimOf (nI x) = some (nI (x / 10 % 10)) := by unfold f_X2_trimOf; rw [t1]
  have e3 : f_X2_offOf (nI x) = some (nI (9 * (x % 10) + 9)) := by
    unfold f_X2_offOf
    rw [t3, show (1 : Int32) = nI 1 from rfl, q_add, ql9, q_mul, Nat.mul_add]
  unfold f_X2_wrongFor
  rw [e1, qb1, e3, qb1]
  by_cases c0 : a 6 = 0
  · have e4 : f_X2_latest pn ph = some (-1) := by
      unfold f_X2_latest
      rw [f_X2_latest_L4, hP.1, c0, if_pos (by decide)]
    rw [e4, qb1, qt1, show imin (-1) 15 = -1 from by decide, f_X2_wrongFor_L31, if_pos (by decide)]
    unfold maskX
    rw [c0]; rfl
  · obtain ⟨l1, l2⟩ := ltP_le (fun r hr => (hP.2.2.2 r hr).1) (a 6) h6
    have em : imin (nI (ltP a (a 6))) 15 = nI (ltP a (a 6)) := by
      unfold imin
      rw [if_neg (by rw [ql15, q_lt (by decide) (by omega)]; omega)]
    rw [e8_latest hP (by omega), qb1, em, qt1]
    have loop : ∀ (d fuel w : Nat), w + d = ltP a (a 6) + 1 → d < fuel → f_X2_wrongFor_L31 (nI x) 16 li pn pa ph pl pm fuel (nI (1 + x / 100)) (nI (snA a x w).1) (nI (ltP a (a 6))) (nI (snA a x w).2) (nI (wm (fun r => decide (a (65 + 4 * r) < w) && wrG a x r) (a 6))) (nI w) = some (nI (maskX a x)) := by
      intro d
      induction d with
      | zero =>
        intro fuel w hw hf
        obtain ⟨n, rfl⟩ : ∃ n, fuel = n + 1 := ⟨fuel - 1, by omega⟩
        rw [f_X2_wrongFor_L31, if_pos ((q_lt (by omega) (by omega)).mpr (by omega))]
        congr 2
        unfold maskX
        refine wm_congr _ (fun r hr => ?_)
        rw [decide_eq_true (by have := l2 r hr; omega), Bool.true_and]
      | succ d ih =>
        intro fuel w hw hf
        obtain ⟨n, rfl⟩ : ∃ n, fuel = n + 1 := ⟨fuel - 1, by omega⟩
        obtain ⟨s1, s2⟩ := snA_le a x w
        obtain ⟨g1, g2⟩ := hli w (by omega)
        have nx := ih n (w + 1) (by omega) (by omega)
        rw [f_X2_wrongFor_L31, if_neg (fun h => by have := (q_lt (by omega) (by omega)).mp h; omega), e8_wrongBehind hP (by omega) (by omega) (by omega), qb1, wm_or _ _ h6, qt1]
        have em2 : wm (fun r => (decide (a (65 + 4 * r) < w) && wrG a x r) || (decide (a (65 + 4 * r) = w) && wrV a r (snA a x w).1 (snA a x w).2)) (a 6) = wm (fun r => decide (a (65 + 4 * r) < w + 1) && wrG a x r) (a 6) := by
          refine wm_congr _ (fun r hr => ?_)
          by_cases c : a (65 + 4 * r) = w
          · rw [decide_eq_false (by omega), decide_eq_true c, decide_eq_true (by omega), Bool.false_and, Bool.false_or, Bool.true_and, Bool.true_and]
            unfold wrG
            rw [c]
          · rw [decide_eq_false c, Bool.false_and, Bool.or_false]
            by_cases c2 : a (65 + 4 * r) < w
            · rw [decide_eq_true c2, decide_eq_true (by omega)]
            · rw [decide_eq_false c2, decide_eq_false (by omega)]
        rw [em2]
        have fin : ∀ p2 : Nat, p2 = (snA a x (w + 1)).2 → f_X2_wrongFor_b79 (f_X2_wrongFor_L31 (nI x) 16 li pn pa ph pl pm n) 16 li (nI (1 + x / 100)) (nI (snA a x w).1) (nI (ltP a (a 6))) (nI p2) (nI (wm (fun r => decide (a (65 + 4 * r) < w + 1) && wrG a x r) (a 6))) (nI w) = some (nI (maskX a x)) := by
          intro p2 hp2
          unfold f_X2_wrongFor_b79
          rw [qcI (show w < 16 by omega) (by decide), q_cl (by omega), g1, e8_nearsAlone (by omega) g2 (by omega), qb1, show (0 : Int32) = nI 0 from rfl]
          have hna : nearA (1 + x / 100) (a (7 + w)) w < 2 ^ 30 := by
            have q1 : a (7 + w) / 4 ≤ 3 := by omega
            have q2 : a (7 + w) % 4 ≤ 3 := by omega
            have q3 : a (7 + w) / 4 * (a (7 + w) % 4) ≤ 3 * 3 := Nat.mul_le_mul q1 q2
            unfold nearA
            repeat' split
            all_goals omega
          rw [q_max0 (by omega) hna, qt1, qt1, show nI w + 1 = nI (w + 1) from q_add w 1, hp2]
          exact nx
        by_cases c : (snA a x w).1 = 0
        · rw [if_pos (by rw [ql1, q_lt (by omega) (by decide)]; omega)]
          refine fin _ ?_
          rw [snA]
          show _ = _ + _
          rw [if_neg (by omega), Nat.add_zero]
        · rw [if_neg (by rw [ql1, q_lt (by omega) (by decide)]; omega), e2, qb1, qcI (show w < 16 by omega) (by decide), q_cl (by omega), g1, e8_reachesAlone (by omega) g2 (by omega), qb1]
          have hre : reachA (1 + x / 100) (x / 10 % 10) (a (7 + w)) < 2 ^ 30 := by
            unfold reachA
            repeat' split
            all_goals omega
          by_cases c2 : reachA (1 + x / 100) (x / 10 % 10) (a (7 + w)) < (snA a x w).1
          · rw [if_pos ((q_lt (by omega) (by omega)).mpr c2)]
            refine fin _ ?_
            rw [snA]
            show _ = _ + _
            rw [if_neg (by omega), Nat.add_zero]
          · rw [if_neg (fun h => c2 ((q_lt (by omega) (by omega)).mp h)), qt1, show nI (snA a x w).2 + 1 = nI ((snA a x w).2 + 1) from q_add _ 1]
            refine fin _ ?_
            rw [snA]
            show _ = _ + _
            rw [if_pos ⟨by omega, by omega⟩]
    have e := loop (ltP a (a 6) + 1) 1000 0 (by omega) (by omega)
    have z : wm (fun r => decide (a (65 + 4 * r) < 0) && wrG a x r) (a 6) = 0 := by
      have : ∀ n, wm (fun r => decide (a (65 + 4 * r) < 0) && wrG a x r) n = 0 := by
        intro n
        induction n with
        | zero => rfl
        | succ n ih => rw [wm, ih, if_neg (by rw [decide_eq_false (Nat.not_lt_zero _), Bool.false_and]; decide)]
      exact this _
    rw [z] at e
    exact e
end EF
