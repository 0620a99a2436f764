/-! ===== E: strangers, lone and liar ===== -/
section EI2
variable {cnt en z wa sc ho rn rz pn : Int32} {kd tr ln li cu bu of rk rd rb rs rl rr ph pa pl pm s : Nat → Int32}
theorem fsN_c {F G : Nat → Bool} : ∀ d x, (∀ y, F y = G y) → fsN F d x = fsN G d x ∧ cnF F d x = cnF G d x := by
  intro d x h
  have : F = G := funext h
  rw [this]
  exact ⟨rfl, rfl⟩
theorem e8_count {a : Nat → Nat} (hB : BA a) (hP : RP pn ph pa pl pm a) (hE : CE cnt kd tr ln li cu bu a) : f_X8_countLone li pn pa ph pl pm = some (nI (cnF (fitB a (-1)) 500 0)) := by
  have h6 := hP.2.1
  have hl : ∀ w, w < 16 → li w = nI (a (7 + w)) ∧ a (7 + w) ≤ 15 := fun w hw => ⟨hE.eli w hw, hB.2.2.2.2.1 w hw⟩
  have loop : ∀ (d fuel x c : Nat), x + d = 500 → d < fuel → f_X8_countLone_L4 li pn pa ph pl pm fuel (nI c) (nI x) = some (nI (c + cnF (fitB a (-1)) d x)) := by
    intro d
    induction d with
    | zero =>
      intro fuel x c hx hf
      obtain ⟨n, rfl⟩ : ∃ n, fuel = n + 1 := ⟨fuel - 1, by omega⟩
      rw [f_X8_countLone_L4, ql500, if_pos (nI_le (by omega) (by omega))]; rfl
    | succ d ih =>
      intro fuel x c hx hf
      obtain ⟨n, rfl⟩ : ∃ n, fuel = n + 1 := ⟨fuel - 1, by omega⟩
      have hm := wm_64 (wrG a x) h6
      rw [f_X8_countLone_L4, ql500, if_neg (nI_ge (by omega) (by omega)), e8_wrongFor hP hl (by omega), qb1, cnF, show nI x + 1 = nI (x + 1) from q_add x 1, show nI c + 1 = nI (c + 1) from q_add c 1, fitB_m a h6]
      by_cases k : maskX a x = 0
      · rw [if_pos (by rw [k]; rfl), qt1, qt1, if_pos (decide_eq_true k), ← Nat.add_assoc]
        exact ih n (x + 1) (c + 1) (by omega) (by omega)
      · rw [if_neg (nI_ne0 (by omega) (by unfold maskX; omega)), qt1, if_neg (by rw [decide_eq_false k]; decide), Nat.zero_add]
        exact ih n (x + 1) c (by omega) (by omega)
  unfold f_X8_countLone
  have e := loop 500 1000 0 0 (by omega) (by omega)
  rw [Nat.zero_add] at e
  exact e
def oJ : Option Nat → Int32
  | none => -3
  | some y => nI y
theorem e8_first {a : Nat → Nat} (hB : BA a) (hP : RP pn ph pa pl pm a) (hE : CE cnt kd tr ln li cu bu a) : f_X8_firstLone li pn pa ph pl pm = some (oJ (fsN (fitB a (-1)) 500 0)) := by
  have h6 := hP.2.1
  have hl : ∀ w, w < 16 → li w = nI (a (7 + w)) ∧ a (7 + w) ≤ 15 := fun w hw => ⟨hE.eli w hw, hB.2.2.2.2.1 w hw⟩
  have loop : ∀ (d fuel x : Nat), x + d = 500 → d < fuel → f_X8_firstLone_L2 li pn pa ph pl pm fuel (nI x) = some (oJ (fsN (fitB a (-1)) d x)) := by
    intro d
    induction d with
    | zero =>
      intro fuel x hx hf
      obtain ⟨n, rfl⟩ : ∃ n, fuel = n + 1 := ⟨fuel - 1, by omega⟩
      rw [f_X8_firstLone_L2, ql500, if_pos (nI_le (by omega) (by omega))]; rfl
    | succ d ih =>
      intro fuel x hx hf
      obtain ⟨n, rfl⟩ : ∃ n, fuel = n + 1 := ⟨fuel - 1, by omega⟩
      have hm := wm_64 (wrG a x) h6
      rw [f_X8_firstLone_L2, ql500, if_neg (nI_ge (by omega) (by omega)), e8_wrongFor hP hl (by omega), qb1, fsN, show nI x + 1 = nI (x + 1) from q_add x 1, fitB_m a h6]
      by_cases k : maskX a x = 0
      · rw [if_pos (by rw [k]; rfl), if_pos (decide_eq_true k)]; rfl
      · rw [if_neg (nI_ne0 (by omega) (by unfold maskX; omega)), qt1, if_neg (by rw [decide_eq_false k]; decide)]
        exact ih n (x + 1) (by omega) (by omega)
  unfold f_X8_firstLone
  exact loop 500 1000 0 (by omega) (by omega)
theorem st_lone (h : InR cnt en z wa sc ho kd tr ln li cu bu of rn rz rk rd rb rs rl rr pn ph pa pl pm s) (p0 ff : Int32) (g1 g2 : Nat → Int32) : ∃ r ff' h1 h2, f_X8_lone p0 li pn pa ph pl pm = some r ∧ f_X9_lone p0 ff g1 g2 s = some (r, ff', h1, h2) := by
  obtain ⟨a, RL, hB, hE, hS, he, hC, hn, hz, hP, hM, hMR⟩ := h
  unfold f_X8_lone f_X9_lone
  rw [show f_X8_within p0 0 3 = f_X9_in1 p0 0 3 from rfl]
  rcases @e_in p0 0 3 0 3 rfl rfl (by decide) (by decide) with ⟨-, e, -⟩ | ⟨q, -, hq, rfl, -, e⟩
  · rw [e, qb1, qb1, if_pos rfl, if_pos rfl]; exact ⟨_, _, _, _, rfl, rfl⟩
  · obtain ⟨h1, h2, e2⟩ := e9_fit hB hP hM.1 (-1) g1 g2
    have hc := cnF_le (fitB a (-1)) 500 0
    rw [e, qb1, qb1, if_neg n10, if_neg n10, e2, qb4]
    unfold f_X9_lone_b28
    by_cases c : q = 0
    · subst c
      rw [if_pos (show nI 0 = 0 from rfl), e8_count hB hP hE, if_pos (show nI 0 ≤ 0 by decide), if_pos (show nI 0 = 0 from rfl)]
      exact ⟨_, _, _, _, rfl, rfl⟩
    · rw [if_neg (nI_ne0 (by omega) (by omega)), e8_first hB hP hE, qb1, if_neg (show ¬ nI q ≤ (0 : Int32) by rw [ql0]; exact nI_ge (by omega) (by omega))]
      have hcn := fsN_cn (fitB a (-1)) 500 0
      cases ho : fsN (fitB a (-1)) 500 0 with
      | none =>
        rw [hcn.mp ho, if_pos (show oJ none = -3 from rfl), if_pos (show nI 0 = 0 from rfl)]
        exact ⟨_, _, _, _, rfl, rfl⟩
      | some y =>
        have hy := (fsN_lt (fitB a (-1)) 500 0 y ho).1
        obtain ⟨t1, t2, t3⟩ := snT (show y < 500 by omega)
        have hn0 : cnF (fitB a (-1)) 500 0 ≠ 0 := fun h0 => by rw [hcn.mpr h0] at ho; exact (nomatch ho)
        have nj : ¬ oJ (some y) = -3 := by
          intro h
          have h5 : nI y = -3 := h
          have h6 := nI_pos' (show y < 2 ^ 31 by omega)
          rw [h5] at h6
          exact absurd h6 (by decide)
        rw [if_neg nj, if_neg (nI_ne0 (by omega) (by omega)), if_neg (nI_ne0 (by omega) (by omega))]
        unfold f_X2_kindOf f_X2_trimOf f_X2_offOf
        show ∃ r ff' h1' h2', (if nI q = 1 then bd1 (some (1 + nI y / 100)) fun r10 => some r10 else if nI q = 2 then bd1 (some (nI y / 10 - nI y / 10 / 10 * 10)) fun r12 => some r12 else bd1 (some (9 * (nI y - nI y / 10 * 10 + 1))) fun r14 => some r14) = some r ∧ (if nI q = 1 then some (1 + nI y / 100, nI y, h1, h2) else if nI q = 2 then some (nI y / 10 - nI y / 10 / 10 * 10, nI y, h1, h2) else some (9 * (nI y - nI y / 10 * 10) + 9, nI y, h1, h2)) = some (r, ff', h1', h2')
        rw [t3, show nI (y % 10) + 1 = nI (y % 10 + 1) from q_add _ 1, ql9, q_mul, q_mul, q_add, qb1, qb1, qb1, Nat.mul_add]
        repeat' split
        all_goals exact ⟨_, _, _, _, rfl, rfl⟩
theorem ls_end {V : Nat} (hV : V < 64) : ∀ (d fuel r : Nat), r + d = 6 → d < fuel → (∀ k, r ≤ k → k < 6 → V / 2 ^ k % 2 = 0) → f_X8_leastOfSet_L2 (nI V) fuel (nI r) = some (-3) := by
  intro d
  induction d with
  | zero =>
    intro fuel r hr hf _
    obtain ⟨n, rfl⟩ : ∃ n, fuel = n + 1 := ⟨fuel - 1, by omega⟩
    rw [f_X8_leastOfSet_L2, ql6, if_pos (nI_le (by omega) (by omega))]
  | succ d ih =>
    intro fuel r hr hf h
    obtain ⟨n, rfl⟩ : ∃ n, fuel = n + 1 := ⟨fuel - 1, by omega⟩
    have := h r (by omega) (by omega)
    rw [f_X8_leastOfSet_L2, ql6, if_neg (nI_ge (by omega) (by omega)), if_neg (by rw [q_bit (by omega) (by omega)]; omega), qt1, show nI r + 1 = nI (r + 1) from q_add r 1]
    exact ih n (r + 1) (by omega) (by omega) (fun k h1 h2 => h k (by omega) h2)
theorem wm_single (P : Nat → Bool) {n r : Nat} (hn : n ≤ 6) (hr : r < n) (h : ∀ q, q < n → q ≠ r → P q = false) (h2 : P r = true) : wm P n = 2 ^ r := by
  refine ext6 (wm_64 P hn) (pc_one r (by omega)).2.1 (fun k hk => ?_)
  rw [wm_bit P n hn k hk]
  have tab : ∀ r, r < 6 → ∀ k, k < 6 → 2 ^ r / 2 ^ k % 2 = if k = r then 1 else 0 := by decide +kernel
  rw [tab r (by omega) k hk]
  by_cases c : k = r
  · rw [if_pos c, if_pos ⟨by omega, by rw [c]; exact h2⟩]
  · rw [if_neg c, if_neg (fun g => by rw [h k g.1 c] at g; exact absurd g.2 (by decide))]
theorem st_liar (h : InR cnt en z wa sc ho kd tr ln li cu bu of rn rz rk rd rb rs rl rr pn ph pa pl pm s) (g1 g2 : Nat → Int32) : ∃ r ff' h1 h2, f_X8_liar li pn pa ph pl pm = some r ∧ f_X9_liar g1 g2 s = some (r, ff', h1, h2) := by
  obtain ⟨a, RL, hB, hE, hS, he, hC, hn, hz, hP, hM, hMR⟩ := h
  have h6 := hP.2.1
  have e6 := hM.1 6 (by decide) (by decide) (by decide)
  have hl : ∀ w, w < 16 → li w = nI (a (7 + w)) ∧ a (7 + w) ≤ 15 := fun w hw => ⟨hE.eli w hw, hB.2.2.2.2.1 w hw⟩
  obtain ⟨f1, f2, e2⟩ := e9_fit hB hP hM.1 (-1) g1 g2
  have hc := cnF_le (fitB a (-1)) 500 0
  have c0 := cnF_0 (fitB a (-1)) 500 0
  -- the class's way
  have loop : ∀ (d fuel x V : Nat), x + d = 500 → d < fuel → V < 64 → (∀ y, y < x → maskX a y ≠ 0) → (∀ r, r < 6 → (V / 2 ^ r % 2 = 1 ↔ ∃ y, y < x ∧ maskX a y = 2 ^ r)) → (∃ y, y < 500 ∧ maskX a y = 0) ∧ f_X8_liar_L4 li pn pa ph pl pm fuel (nI V) (nI x) = some (-3) ∨ (∀ y, y < 500 → maskX a y ≠ 0) ∧ ∃ W, W < 64 ∧ (∀ r, r < 6 → (W / 2 ^ r % 2 = 1 ↔ ∃ y, y < 500 ∧ maskX a y = 2 ^ r)) ∧ f_X8_liar_L4 li pn pa ph pl pm fuel (nI V) (nI x) = f_X8_leastOfSet (nI W) := by
    intro d
    induction d with
    | zero =>
      intro fuel x V hx hf hV h1 h2
      obtain ⟨n, rfl⟩ : ∃ n, fuel = n + 1 := ⟨fuel - 1, by omega⟩
      have : x = 500 := by omega
      subst this
      refine Or.inr ⟨h1, V, hV, h2, ?_⟩
      rw [f_X8_liar_L4, if_pos (by decide)]
      cases f_X8_leastOfSet (nI V) <;> rfl
    | succ d ih =>
      intro fuel x V hx hf hV h1 h2
      obtain ⟨n, rfl⟩ : ∃ n, fuel = n + 1 := ⟨fuel - 1, by omega⟩
      have hm : maskX a x < 64 := wm_64 (wrG a x) h6
      rw [f_X8_liar_L4, ql500, if_neg (nI_ge (by omega) (by omega)), e8_wrongFor hP hl (by omega), qb1, show nI x + 1 = nI (x + 1) from q_add x 1]
      by_cases k : maskX a x = 0
      · rw [if_pos (by rw [k]; rfl)]
        exact Or.inl ⟨⟨x, by omega, k⟩, rfl⟩
      · obtain ⟨p1, p2, p3⟩ := q_pc _ hm
        rw [if_neg (nI_ne0 (by omega) (by omega)), p1, qb1]
        have h1' : ∀ y, y < x + 1 → maskX a y ≠ 0 := fun y hy => by
          by_cases c : y = x
          · rw [c]; exact k
          · exact h1 y (by omega)
        by_cases k2 : pc (maskX a x) = 1
        · obtain ⟨t1, t2, t3⟩ := or_tab V hV _ hm
          rw [if_pos (by rw [k2]; rfl), t1, qt1, qt1]
          refine ih n (x + 1) _ (by omega) (by omega) t2 h1' (fun r hr => ?_)
          rw [t3 r hr]
          obtain ⟨r2, hr2, e⟩ := p3.mp k2
          have tab : ∀ r, r < 6 → ∀ k, k < 6 → (2 ^ r / 2 ^ k % 2 = 1 ↔ r = k) ∧ (2 ^ r = 2 ^ k → r = k) := by decide +kernel
          have hb2 := h2 r hr
          rw [e]
          constructor
          · intro g
            by_cases c1 : V / 2 ^ r % 2 = 1
            · obtain ⟨y, hy, ey⟩ := hb2.mp c1; exact ⟨y, by omega, ey⟩
            · by_cases c2 : 2 ^ r2 / 2 ^ r % 2 = 1
              · exact ⟨x, by omega, by rw [e, ((tab r2 hr2 r hr).1.mp c2)]⟩
              · rw [if_neg (fun o => o.elim c1 c2)] at g; exact absurd g (by decide)
          · intro ⟨y, hy, ey⟩
            by_cases c : y = x
            · rw [c, e] at ey
              rw [if_pos (Or.inr ((tab r2 hr2 r hr).1.mpr ((tab r2 hr2 r hr).2 ey)))]
            · rw [if_pos (Or.inl (hb2.mpr ⟨y, by omega, ey⟩))]
        · rw [if_neg (by rw [ql1, q_eq (by omega) (by decide)]; exact k2), qt1]
          refine ih n (x + 1) V (by omega) (by omega) hV h1' (fun r hr => ?_)
          rw [h2 r hr]
          constructor
          · intro ⟨y, hy, ey⟩; exact ⟨y, by omega, ey⟩
          · intro ⟨y, hy, ey⟩
            by_cases c : y = x
            · exact absurd (p3.mpr ⟨r, hr, by rw [← ey, c]⟩) k2
            · exact ⟨y, by omega, ey⟩
  unfold f_X8_liar f_X9_liar
  rw [e2, qb4]
  rcases loop 500 1000 0 0 (by omega) (by omega) (by omega) (fun y hy => absurd hy (Nat.not_lt_zero _)) (fun r hr => ⟨fun g => by rw [Nat.zero_div] at g; exact absurd g (by decide), fun ⟨y, hy, _⟩ => absurd hy (Nat.not_lt_zero _)⟩) with ⟨⟨y, hy, ey⟩, e⟩ | ⟨hno, W, hW, hbits, e⟩
  · have : cnF (fitB a (-1)) 500 0 ≠ 0 := fun h0 => by
      have := c0.mp h0 y (by omega) (by omega)
      rw [fitB_m a h6, decide_eq_true ey] at this
      exact absurd this (by decide)
    rw [if_neg (show ¬ nI (cnF (fitB a (-1)) 500 0) ≤ (0 : Int32) by rw [ql0]; exact nI_ge (by omega) (by omega))]
    exact ⟨_, _, _, _, e, rfl⟩
  · have : cnF (fitB a (-1)) 500 0 = 0 := c0.mpr (fun y _ hy => by rw [fitB_m a h6, decide_eq_false (hno y (by omega))])
    rw [this, if_pos (show nI 0 ≤ 0 by decide)]
    have e' : f_X8_liar_L4 li pn pa ph pl pm 1000 0 0 = f_X8_leastOfSet_L2 (nI W) 1000 (nI 0) := e
    rw [e']
    have fin : ∀ (d f8 f9 r : Nat) (y : Int32) (g1 g2 : Nat → Int32), r + d = a 6 → 6 < f8 + r → d < f9 → ∃ v ff' h1 h2, f_X8_leastOfSet_L2 (nI W) f8 (nI r) = some v ∧ f_X9_liar_L13 s f9 (nI r) y g1 g2 = some (v, ff', h1, h2) := by
      intro d
      induction d with
      | zero =>
        intro f8 f9 r y g1 g2 hr h8 h9
        obtain ⟨n, rfl⟩ : ∃ n, f9 = n + 1 := ⟨f9 - 1, by omega⟩
        rw [f_X9_liar_L13, e6, if_pos (nI_le (by omega) (by omega)), ls_end hW (6 - r) f8 r (by omega) (by omega) (fun k h1 h2 => ?_)]
        · exact ⟨_, _, _, _, rfl, rfl⟩
        · have nb : ¬ W / 2 ^ k % 2 = 1 := by
            intro g
            obtain ⟨x, hx, ex⟩ := (hbits k h2).mp g
            have := wm_lt (wrG a x) (a 6)
            have mono : 2 ^ a 6 ≤ 2 ^ k := Nat.pow_le_pow_right (by decide) (by omega)
            unfold maskX at ex
            omega
          omega
      | succ d ih =>
        intro f8 f9 r y g1 g2 hr h8 h9
        obtain ⟨n, rfl⟩ : ∃ n, f9 = n + 1 := ⟨f9 - 1, by omega⟩
        obtain ⟨m, rfl⟩ : ∃ m, f8 = m + 1 := ⟨f8 - 1, by omega⟩
        obtain ⟨k1, k2, e3⟩ := e9_fit hB hP hM.1 (nI r) g1 g2
        have hcc := cnF_le (fitB a (nI r)) 500 0
        rw [f_X9_liar_L13, e6, if_neg (nI_ge (by omega) (by omega)), e3, qb4, f_X8_leastOfSet_L2, ql6, if_neg (nI_ge (by omega) (by omega)), show nI r + 1 = nI (r + 1) from q_add r 1]
        by_cases c : W / 2 ^ r % 2 = 1
        · obtain ⟨x, hx, ex⟩ := (hbits r (by omega)).mp c
          have ft : fitB a (nI r) x = true := by
            refine decide_eq_true (fun q hq => ?_)
            by_cases d : q = r
            · exact Or.inl (by rw [d])
            · refine Or.inr ?_
              have t := wm_bit (wrG a x) (a 6) h6 q (by omega)
              unfold maskX at ex
              rw [ex] at t
              have tab : ∀ r, r < 6 → ∀ k, k < 6 → 2 ^ r / 2 ^ k % 2 = if k = r then 1 else 0 := by decide +kernel
              rw [tab r (by omega) q (by omega), if_neg d] at t
              by_cases w : wrG a x q = true
              · rw [if_pos ⟨hq, w⟩] at t; exact absurd t (by decide)
              · exact Bool.eq_false_iff.mpr w
          have : cnF (fitB a (nI r)) 500 0 ≠ 0 := fun h0 => by
            have := (cnF_0 (fitB a (nI r)) 500 0).mp h0 x (by omega) (by omega)
            rw [ft] at this; exact absurd this (by decide)
          rw [if_pos ((q_bit (by omega) (by omega)).mpr c), if_neg (show ¬ nI (cnF (fitB a (nI r)) 500 0) ≤ (0 : Int32) by rw [ql0]; exact nI_ge (by omega) (by omega))]
          exact ⟨_, _, _, _, rfl, rfl⟩
        · have : cnF (fitB a (nI r)) 500 0 = 0 := (cnF_0 _ 500 0).mpr (fun x _ hx => by
            refine decide_eq_false (fun g => c ((hbits r (by omega)).mpr ⟨x, by omega, ?_⟩))
            have oth : ∀ q, q < a 6 → q ≠ r → wrG a x q = false := fun q hq hne => by
              rcases g q hq with e | e
              · exact absurd ((q_eq (by omega) (by omega)).mp e) hne
              · exact e
            refine wm_single (wrG a x) h6 (by omega) oth ?_
            by_cases w : wrG a x r = true
            · exact w
            · exfalso
              refine hno x (by omega) ((wm_0 _ _).mpr (fun q hq => ?_))
              by_cases d : q = r
              · rw [d]; exact Bool.eq_false_iff.mpr w
              · exact oth q hq d)
          rw [this, if_pos (show nI 0 ≤ 0 by decide), if_neg (fun g => c ((q_bit (by omega) (by omega)).mp g)), qt1, qt1]
          exact ih m n (r + 1) _ k1 k2 (by omega) (by omega) (by omega)
    exact fin (a 6) 1000 1000 0 _ f1 f2 (by omega) (by omega) (by omega)
end EI2
