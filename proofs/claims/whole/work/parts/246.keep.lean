/-! ===== E: kept rocks ===== -/
section EW
variable {rk rd rb rs rl rr rk' rd' rb' rs' rl' rr' : Nat → Int32}
theorem CRl_tot : ∀ (RL : List RRul) (r q : Nat), CRl rk rd rb rs rl rr RL r q → q ≤ 200 → q + tot RL ≤ 200 := by
  intro RL
  induction RL with
  | nil => intro r q _ h; exact h
  | cons x t ih =>
    intro r q h _
    obtain ⟨-, -, -, -, h1, -, h2⟩ := h
    have := ih _ _ h2 h1
    unfold tot
    omega
theorem CRl_congr {T : Nat} (hk : ∀ i, i < 8 → rk' i = rk i) (hd : ∀ i, i < 8 → rd' i = rd i) (hb : ∀ i, i < 9 → rb' i = rb i) (hs : ∀ i, i < T → rs' i = rs i) (hl : ∀ i, i < T → rl' i = rl i) (hr : ∀ i, i < T → rr' i = rr i) : ∀ (RL : List RRul) (r q : Nat), r + RL.length ≤ 8 → q + tot RL ≤ T → CRl rk rd rb rs rl rr RL r q → CRl rk' rd' rb' rs' rl' rr' RL r q := by
  intro RL
  induction RL with
  | nil => intro r q _ _ _; exact trivial
  | cons x t ih =>
    intro r q h1 h2 h
    obtain ⟨g1, g2, g3, g4, g5, g6, g7⟩ := h
    rw [List.length_cons] at h1
    unfold tot at h2
    refine ⟨by rw [hk _ (by omega)]; exact g1, by rw [hd _ (by omega)]; exact g2, by rw [hb _ (by omega)]; exact g3, by rw [hb _ (by omega)]; exact g4, g5, fun i hi => ?_, ih _ _ (by omega) (by omega) g7⟩
    rw [hs _ (by omega), hl _ (by omega), hr _ (by omega)]; exact g6 i hi
theorem MRl_congrN {s T : Nat → Int32} (h : ∀ j, j < 313 → s j = T j) : ∀ (RL : List RRul) (r p : Nat), r + RL.length ≤ 8 → MRl T RL r p → MRl s RL r p := by
  intro RL
  induction RL with
  | nil => intro r p _ _; exact trivial
  | cons x t ih =>
    intro r p h1 g
    obtain ⟨g1, g2, g3, g4, g5, g6⟩ := g
    rw [List.length_cons] at h1
    refine ⟨by rw [h _ (by omega)]; exact g1, by rw [h _ (by omega)]; exact g2, by rw [h _ (by omega)]; exact g3, g4, fun i hi => ?_, ih _ _ (by omega) g6⟩
    rw [h _ (by omega)]; exact g5 i hi
variable {cnt en z wa sc ho rn rz pn : Int32} {kd tr ln li cu bu of ph pa pl pm s kd' tr' ln' li' cu' bu' of' ph' pa' pl' pm' s' : Nat → Int32}
theorem InR_congr (h : InR cnt en z wa sc ho kd tr ln li cu bu of rn rz rk rd rb rs rl rr pn ph pa pl pm s) (c1 : ∀ i, i < 6 → kd' i = kd i) (c2 : ∀ i, i < 6 → tr' i = tr i) (c3 : ∀ i, i < 6 → ln' i = ln i) (c4 : ∀ i, i < 16 → li' i = li i) (c5 : ∀ i, i < 6 → cu' i = cu i) (c6 : ∀ i, i < 6 → bu' i = bu i) (c7 : ∀ i, i < 6 → of' i = of i) (d1 : ∀ i, i < 8 → rk' i = rk i) (d2 : ∀ i, i < 8 → rd' i = rd i) (d3 : ∀ i, i < 9 → rb' i = rb i) (d4 : ∀ i, i < rz.toNatClampNeg → rs' i = rs i) (d5 : ∀ i, i < rz.toNatClampNeg → rl' i = rl i) (d6 : ∀ i, i < rz.toNatClampNeg → rr' i = rr i) (f1 : ∀ i, i < 6 → ph' i = ph i) (f2 : ∀ i, i < 6 → pa' i = pa i) (f3 : ∀ i, i < 6 → pl' i = pl i) (f4 : ∀ i, i < 6 → pm' i = pm i) (e : ∀ i, i < 313 → s' i = s i) : InR cnt en z wa sc ho kd' tr' ln' li' cu' bu' of' rn rz rk' rd' rb' rs' rl' rr' pn ph' pa' pl' pm' s' := by
  obtain ⟨a, RL, hB, hE, hS, he, hC, hn, hz, hP, hM, hMR⟩ := h
  have ht := CRl_tot RL 0 0 hC.1 (by omega)
  have ez : rz.toNatClampNeg = tot RL := by rw [hz, q_cl (by omega)]
  rw [ez] at d4 d5 d6
  refine ⟨a, RL, hB, ⟨hE.1, fun k hk => ?_, fun w hw => ?_, fun c hc => ?_⟩, ⟨hS.1, hS.2.1, fun k hk => ?_⟩, he, ⟨CRl_congr d1 d2 d3 d4 d5 d6 RL 0 0 (by have := hC.2.2; omega) (by omega) hC.1, hC.2⟩, hn, hz, ⟨hP.1, hP.2.1, fun r hr => ?_, hP.2.2.2⟩, ⟨fun j h1 h2 h3 => ?_, ?_, ?_, fun _ _ => rfl⟩, MRl_congrN e RL 0 0 (by have := hC.2.2; omega) hMR.1, hMR.2⟩
  · rw [c1 k hk, c2 k hk, c3 k hk]; exact hE.2.1 k hk
  · rw [c4 w hw]; exact hE.2.2.1 w hw
  · rw [c5 c hc, c6 c hc]; exact hE.2.2.2 c hc
  · rw [c7 k hk]; exact hS.2.2 k hk
  · rw [f1 r hr, f2 r hr, f3 r hr, f4 r hr]; exact hP.2.2.1 r hr
  · rw [e j (by omega)]; exact hM.1 j h1 h2 h3
  · rw [e 2 (by decide)]; exact hM.2.1
  · rw [e 3 (by decide)]; exact hM.2.2.1
theorem q_cpy {f g : Nat → Int32} {n : Int32} (i : Nat) (h : i < n.toNatClampNeg) : va_cpy f g (0 : Int32).toNatClampNeg (0 : Int32).toNatClampNeg n.toNatClampNeg i = f i := by
  rw [show (0 : Int32).toNatClampNeg = 0 from rfl, pk_cpy_in (Nat.zero_le _) (by omega)]
  congr 1
  omega
theorem q_chkC {α : Type} {n : Int32} {m : Nat} {x : Option α} (h0 : ¬ n < 0) (h : n.toNatClampNeg ≤ m) : chkC 0 0 n m m x = x := by
  unfold chkC
  rw [if_neg]
  rw [show (0 : Int32).toNatClampNeg = 0 from rfl]
  intro g
  rcases g with g | g | g | g | g
  · exact absurd g (by decide)
  · exact absurd g (by decide)
  · exact h0 g
  · omega
  · omega
end EW
section EX
variable {cnt en z wa sc ho rn rz pn : Int32} {kd tr ln li cu bu of rk rd rb rs rl rr ph pa pl pm s : Nat → Int32}
/-- the copy of a rock -/
theorem e8_becomeAll (h : InR cnt en z wa sc ho kd tr ln li cu bu of rn rz rk rd rb rs rl rr pn ph pa pl pm s) (bu0 cu0 kd0 ln0 li0 of0 pa0 ph0 pl0 pm0 rb0 rd0 rk0 rl0 rr0 rs0 tr0 : Nat → Int32) : ∃ bu' cu' kd' ln' li' of' pa' ph' pl' pm' rb' rd' rk' rl' rr' rs' tr', f_X3_become cnt en z bu cu kd ln li wa sc ho of pn pa ph pl pm rn rz rb rd rk rl rr rs tr bu0 cu0 kd0 ln0 li0 of0 pa0 ph0 pl0 pm0 rb0 rd0 rk0 rl0 rr0 rs0 tr0 = some (cnt, en, z, bu', cu', kd', ln', li', wa, sc, ho, of', pn, pa', ph', pl', pm', rn, rz, rb', rd', rk', rl', rr', rs', tr') ∧ ∀ s', (∀ j, j < 313 → s' j = s j) → InR cnt en z wa sc ho kd' tr' ln' li' cu' bu' of' rn rz rk' rd' rb' rs' rl' rr' pn ph' pa' pl' pm' s' := by
  have h0 := h
  obtain ⟨a, RL, hB, hE, hS, he, hC, hn, hz, hP, hM, hMR⟩ := h
  have ht := CRl_tot RL 0 0 hC.1 (by omega)
  have ez : rz.toNatClampNeg = tot RL := by rw [hz, q_cl (by omega)]
  have nz : ¬ rz < 0 := by rw [hz]; exact nI_pos (by omega)
  unfold f_X3_become f_X6_become f_X5_become f_X2_become
  have k6 : ∀ {α : Type} {x : Option α}, chkC 0 0 6 6 6 x = x := fun {_ _} => q_chkC (by decide) (by decide)
  have k8 : ∀ {α : Type} {x : Option α}, chkC 0 0 8 8 8 x = x := fun {_ _} => q_chkC (by decide) (by decide)
  have k9 : ∀ {α : Type} {x : Option α}, chkC 0 0 9 9 9 x = x := fun {_ _} => q_chkC (by decide) (by decide)
  have k16 : ∀ {α : Type} {x : Option α}, chkC 0 0 16 16 16 x = x := fun {_ _} => q_chkC (by decide) (by decide)
  have kz : ∀ {α : Type} {x : Option α}, chkC 0 0 rz 200 200 x = x := fun {_ _} => q_chkC nz (by omega)
  simp only [k6, k8, k9, k16, kz, qb4, qb5, qb8]
  have q6 : ∀ {f g : Nat → Int32} (i : Nat), i < 6 → va_cpy f g (0 : Int32).toNatClampNeg (0 : Int32).toNatClampNeg (6 : Int32).toNatClampNeg i = f i := fun i h => q_cpy i (by rw [show (6 : Int32).toNatClampNeg = 6 from rfl]; exact h)
  have q8 : ∀ {f g : Nat → Int32} (i : Nat), i < 8 → va_cpy f g (0 : Int32).toNatClampNeg (0 : Int32).toNatClampNeg (8 : Int32).toNatClampNeg i = f i := fun i h => q_cpy i (by rw [show (8 : Int32).toNatClampNeg = 8 from rfl]; exact h)
  have q9 : ∀ {f g : Nat → Int32} (i : Nat), i < 9 → va_cpy f g (0 : Int32).toNatClampNeg (0 : Int32).toNatClampNeg (9 : Int32).toNatClampNeg i = f i := fun i h => q_cpy i (by rw [show (9 : Int32).toNatClampNeg = 9 from rfl]; exact h)
  have q16 : ∀ {f g : Nat → Int32} (i : Nat), i < 16 → va_cpy f g (0 : Int32).toNatClampNeg (0 : Int32).toNatClampNeg (16 : Int32).toNatClampNeg i = f i := fun i h => q_cpy i (by rw [show (16 : Int32).toNatClampNeg = 16 from rfl]; exact h)
  exact ⟨_, _, _, _, _, _, _, _, _, _, _, _, _, _, _, _, _, rfl, fun s' e => InR_congr h0 q6 q6 q6 q16 q6 q6 q6 q8 q8 q9 q_cpy q_cpy q_cpy q6 q6 q6 q6 e⟩
theorem st_keep (h : InR cnt en z wa sc ho kd tr ln li cu bu of rn rz rk rd rb rs rl rr pn ph pa pl pm s) (bu0 cu0 kd0 ln0 li0 of0 pa0 ph0 pl0 pm0 rb0 rd0 rk0 rl0 rr0 rs0 tr0 kept : Nat → Int32) : ∃ bu' cu' kd' ln' li' of' pa' ph' pl' pm' rb' rd' rk' rl' rr' rs' tr' kept', f_X8_keep bu0 cu0 kd0 ln0 li0 of0 pa0 ph0 pl0 pm0 rb0 rd0 rk0 rl0 rr0 rs0 tr0 cnt en z bu cu kd ln li wa sc ho of pn pa ph pl pm rn rz rb rd rk rl rr rs tr = some (1, 1, cnt, en, z, bu', cu', kd', ln', li', wa, sc, ho, of', pn, pa', ph', pl', pm', rn, rz, rb', rd', rk', rl', rr', rs', tr') ∧ f_X9_keep kept s = some (1, 1, kept') ∧ InR cnt en z wa sc ho kd' tr' ln' li' cu' bu' of' rn rz rk' rd' rb' rs' rl' rr' pn ph' pa' pl' pm' kept' := by
  obtain ⟨bu', cu', kd', ln', li', of', pa', ph', pl', pm', rb', rd', rk', rl', rr', rs', tr', e, hc⟩ := e8_becomeAll h bu0 cu0 kd0 ln0 li0 of0 pa0 ph0 pl0 pm0 rb0 rd0 rk0 rl0 rr0 rs0 tr0
  have loop : ∀ (d i fuel : Nat) (g : Nat → Int32), i + d = 313 → d < fuel → (∀ j, j < i → g j = s j) → ∃ g', f_X9_keep_L2 s fuel (nI i) g = some (1, 1, g') ∧ ∀ j, j < 313 → g' j = s j := by
    intro d
    induction d with
    | zero =>
      intro i fuel g h1 h2 hg
      obtain ⟨n, rfl⟩ : ∃ n, fuel = n + 1 := ⟨fuel - 1, by omega⟩
      have : i = 313 := by omega
      subst this
      rw [f_X9_keep_L2, if_pos (by decide)]
      exact ⟨_, rfl, hg⟩
    | succ d ih =>
      intro i fuel g h1 h2 hg
      obtain ⟨n, rfl⟩ : ∃ n, fuel = n + 1 := ⟨fuel - 1, by omega⟩
      rw [f_X9_keep_L2, ql313, if_neg (nI_ge (by omega) (by decide)), qcI (by omega) (by decide), qt1, qcI (by omega) (by decide), qt1, q_cl (by omega), show (1 : Int32) = nI 1 from rfl, q_add]
      refine ih (i + 1) n _ (by omega) (by omega) (fun j hj => ?_)
      unfold upd
      by_cases c : j = i
      · rw [if_pos c, c]
      · rw [if_neg c]; exact hg j (by omega)
  obtain ⟨g', e2, hg⟩ := loop 313 0 1000 kept (by omega) (by omega) (fun j hj => absurd hj (by omega))
  refine ⟨_, _, _, _, _, _, _, _, _, _, _, _, _, _, _, _, _, _, ?_, e2, hc g' hg⟩
  unfold f_X8_keep
  rw [e]; rfl
variable {cnt2 en2 z2 wa2 sc2 ho2 rn2 rz2 pn2 : Int32} {kd2 tr2 ln2 li2 cu2 bu2 of2 rk2 rd2 rb2 rs2 rl2 rr2 ph2 pa2 pl2 pm2 s2 : Nat → Int32}
theorem st_again1 (h : InR cnt en z wa sc ho kd tr ln li cu bu of rn rz rk rd rb rs rl rr pn ph pa pl pm s) (s2 bu2 cu2 kd2 ln2 li2 of2 pa2 ph2 pl2 pm2 rb2 rd2 rk2 rl2 rr2 rs2 tr2 : Nat → Int32) (cnt2 en2 z2 wa2 sc2 ho2 pn2 rn2 rz2 : Int32) : ∃ r bu' cu' kd' ln' li' of' pa' ph' pl' pm' rb' rd' rk' rl' rr' rs' tr' s', f_X8_again 1 cnt en z bu cu kd ln li wa sc ho of pn pa ph pl pm rn rz rb rd rk rl rr rs tr cnt2 en2 z2 bu2 cu2 kd2 ln2 li2 wa2 sc2 ho2 of2 pn2 pa2 ph2 pl2 pm2 rn2 rz2 rb2 rd2 rk2 rl2 rr2 rs2 tr2 = some (r, cnt, en, z, bu', cu', kd', ln', li', wa, sc, ho, of', pn, pa', ph', pl', pm', rn, rz, rb', rd', rk', rl', rr', rs', tr') ∧ f_X9_again 1 s s2 = some (r, s') ∧ InR cnt en z wa sc ho kd' tr' ln' li' cu' bu' of' rn rz rk' rd' rb' rs' rl' rr' pn ph' pa' pl' pm' s' := by
  obtain ⟨bu', cu', kd', ln', li', of', pa', ph', pl', pm', rb', rd', rk', rl', rr', rs', tr', e, hc⟩ := e8_becomeAll h bu2 cu2 kd2 ln2 li2 of2 pa2 ph2 pl2 pm2 rb2 rd2 rk2 rl2 rr2 rs2 tr2
  have loop : ∀ (d i fuel : Nat) (g : Nat → Int32), i + d = 313 → d < fuel → (∀ j, j < i → g j = s j) → ∃ g', f_X9_again_L12 s fuel (nI i) g = some (g' 4, g') ∧ ∀ j, j < 313 → g' j = s j := by
    intro d
    induction d with
    | zero =>
      intro i fuel g h1 h2 hg
      obtain ⟨n, rfl⟩ : ∃ n, fuel = n + 1 := ⟨fuel - 1, by omega⟩
      have : i = 313 := by omega
      subst this
      rw [f_X9_again_L12, if_pos (by decide)]
      exact ⟨_, rfl, hg⟩
    | succ d ih =>
      intro i fuel g h1 h2 hg
      obtain ⟨n, rfl⟩ : ∃ n, fuel = n + 1 := ⟨fuel - 1, by omega⟩
      rw [f_X9_again_L12, ql313, if_neg (nI_ge (by omega) (by decide)), qcI (by omega) (by decide), qt1, qcI (by omega) (by decide), qt1, q_cl (by omega), show (1 : Int32) = nI 1 from rfl, q_add]
      refine ih (i + 1) n _ (by omega) (by omega) (fun j hj => ?_)
      unfold upd
      by_cases c : j = i
      · rw [if_pos c, c]
      · rw [if_neg c]; exact hg j (by omega)
  obtain ⟨g', e2, hg⟩ := loop 313 0 1000 s2 (by omega) (by omega) (fun j hj => absurd hj (by omega))
  have h4 : g' 4 = cnt := by
    obtain ⟨a, RL, hB, hE, hS, he, hC, hn, hz, hP, hM, hMR⟩ := h
    rw [hg 4 (by decide), hM.1 4 (by decide) (by decide) (by decide), hE.1]
  have x1 : f_X9_again 1 s s2 = some (cnt, g') := by
    unfold f_X9_again
    rw [if_neg n10, ← h4, ← e2]
    rfl
  refine ⟨cnt, _, _, _, _, _, _, _, _, _, _, _, _, _, _, _, _, _, g', ?_, x1, hc g' hg⟩
  unfold f_X8_again
  rw [if_neg n10, e]
  rfl
theorem st_again0 (kept s2 bu cu kd ln li of pa ph pl pm rb rd rk rl rr rs tr bu2 cu2 kd2 ln2 li2 of2 pa2 ph2 pl2 pm2 rb2 rd2 rk2 rl2 rr2 rs2 tr2 : Nat → Int32) (cnt en z wa sc ho pn rn rz cnt2 en2 z2 wa2 sc2 ho2 pn2 rn2 rz2 : Int32) : f_X8_again 0 cnt en z bu cu kd ln li wa sc ho of pn pa ph pl pm rn rz rb rd rk rl rr rs tr cnt2 en2 z2 bu2 cu2 kd2 ln2 li2 wa2 sc2 ho2 of2 pn2 pa2 ph2 pl2 pm2 rn2 rz2 rb2 rd2 rk2 rl2 rr2 rs2 tr2 = some (-3, cnt2, en2, z2, bu2, cu2, kd2, ln2, li2, wa2, sc2, ho2, of2, pn2, pa2, ph2, pl2, pm2, rn2, rz2, rb2, rd2, rk2, rl2, rr2, rs2, tr2) ∧ f_X9_again 0 kept s2 = some (-3, s2) := ⟨if_pos rfl, if_pos rfl⟩
end EX
