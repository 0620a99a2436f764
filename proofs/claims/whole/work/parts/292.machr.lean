/-! ===== E: the class's reader takes rules as the grammar does ===== -/
def fS : List RRul → List RStp
  | [] => []
  | x :: t => x.2.2 ++ fS t
theorem fS_app : ∀ L M : List RRul, fS (L ++ M) = fS L ++ fS M := by
  intro L
  induction L with
  | nil => intro M; rfl
  | cons x t ih => intro M; rw [List.cons_append, fS, fS, ih, List.append_assoc]
theorem fS_len : ∀ L : List RRul, (fS L).length = tot L := by
  intro L
  induction L with
  | nil => rfl
  | cons x t ih => rw [fS, List.length_append, ih]; rfl
/-- kinds, deeds and begins of the rules from the r-th on -/
def KD (ki de be : Nat → Int32) : List RRul → Nat → Nat → Prop
  | [], _, _ => True
  | x :: t, r, q => ki r = nI x.1 ∧ de r = nI x.2.1 ∧ be r = nI q ∧ be (r + 1) = nI (q + x.2.2.length) ∧ KD ki de be t (r + 1) (q + x.2.2.length)
theorem KD_add {ki de be ki' de' be' : Nat → Int32} {x : RRul} : ∀ (L : List RRul) (r q : Nat), KD ki de be L r q → (∀ i, i < r + L.length → ki' i = ki i ∧ de' i = de i ∧ be' i = be i) → be' (r + L.length) = nI (q + tot L) → KD ki' de' be' [x] (r + L.length) (q + tot L) → KD ki' de' be' (L ++ [x]) r q := by
  intro L
  induction L with
  | nil => intro r q _ _ _ h; exact h
  | cons y t ih =>
    intro r q h h1 h2 h3
    obtain ⟨g1, g2, g3, g4, g5⟩ := h
    rw [List.length_cons] at h1 h2 h3
    unfold tot at h2 h3
    obtain ⟨a1, a2, a3⟩ := h1 r (by omega)
    have e1 : r + (t.length + 1) = r + 1 + t.length := by omega
    have e2 : q + (y.2.2.length + tot t) = q + y.2.2.length + tot t := by omega
    rw [e1, e2] at h2 h3
    refine ⟨by rw [a1]; exact g1, by rw [a2]; exact g2, by rw [a3]; exact g3, ?_, ih (r + 1) _ g5 (fun i hi => h1 i (by omega)) h2 h3⟩
    cases t with
    | nil => exact h2
    | cons z t => rw [(h1 (r + 1) (by rw [List.length_cons]; omega)).2.2]; exact g4
theorem CRl_of {ki de be st le ri : Nat → Int32} : ∀ (L : List RRul) (r q : Nat), KD ki de be L r q → q + tot L ≤ 200 → (∀ i (h : i < (fS L).length), st (q + i) = nI ((fS L)[i]).1 ∧ le (q + i) = nI ((fS L)[i]).2.1 ∧ ri (q + i) = nI ((fS L)[i]).2.2) → CRl ki de be st le ri L r q := by
  intro L
  induction L with
  | nil => intro r q _ _ _; trivial
  | cons x t ih =>
    intro r q h h1 h2
    obtain ⟨g1, g2, g3, g4, g5⟩ := h
    unfold tot at h1
    refine ⟨g1, g2, g3, g4, by omega, fun i hi => ?_, ih _ _ g5 (by omega) (fun i hi => ?_)⟩
    · have := h2 i (by rw [fS, List.length_append]; omega)
      simp only [fS] at this
      rw [List.getElem_append_left hi] at this
      exact this
    · have := h2 (x.2.2.length + i) (by rw [fS, List.length_append]; omega)
      simp only [fS] at this
      rw [List.getElem_append_right (by omega)] at this
      simp only [Nat.add_sub_cancel_left] at this
      rw [← Nat.add_assoc] at this
      exact this
def KB (ki de be : Nat → Int32) (RL : List RRul) : Prop := KD ki de be RL 0 0 ∧ be RL.length = nI (tot RL) ∧ be 0 = nI 0
theorem KB_add {ki de be : Nat → Int32} {RL : List RRul} (h : KB ki de be RL) (x : RRul) : KB (upd ki RL.length (nI x.1)) (upd de RL.length (nI x.2.1)) (upd be (RL.length + 1) (nI (tot RL + x.2.2.length))) (RL ++ [x]) := by
  obtain ⟨h1, h2, h3⟩ := h
  have tt : tot (RL ++ [x]) = tot RL + x.2.2.length := by
    rw [← fS_len, fS_app, List.length_append, fS_len]
    show tot RL + (x.2.2 ++ []).length = _
    rw [List.append_nil]
  refine ⟨KD_add RL 0 0 h1 (fun i hi => ?_) ?_ ?_, ?_, ?_⟩
  · unfold upd
    rw [if_neg (by omega), if_neg (by omega), if_neg (by omega)]; exact ⟨rfl, rfl, rfl⟩
  · unfold upd
    rw [if_neg (by omega), Nat.zero_add, Nat.zero_add]; exact h2
  · rw [Nat.zero_add, Nat.zero_add]
    refine ⟨by unfold upd; rw [if_pos rfl], by unfold upd; rw [if_pos rfl], by unfold upd; rw [if_neg (by omega)]; exact h2, by unfold upd; rw [if_pos rfl], trivial⟩
  · rw [tt, List.length_append]
    unfold upd; rw [if_pos (show RL.length + [x].length = RL.length + 1 from rfl)]
  · unfold upd; rw [if_neg (by omega)]; exact h3
def OKT (out : RT) (RL : List RRul) : Prop := ∃ (be de ki le ri st : Nat → Int32) (y10 y11 y12 y13 y14 y15 y16 y17 y18 y19 : Int32) (g20 : Nat → Int32), out = some (-1, nI RL.length, nI (tot RL), be, de, ki, le, ri, st, y10, y11, y12, y13, y14, y15, y16, y17, y18, y19, g20) ∧ KB ki de be RL ∧ SL st le ri (fS RL)
section EC4
variable {tp : Nat → Int32} {t : Nat → Nat} {n : Nat} {K : RT → Prop} {kd : Int32} {be de ki : Nat → Int32}
theorem e4_do {r s T kd : Nat} (hr : r < 8) (hT : T < 512) (be de ki : Nat → Int32) (ex : Int32) : f_X4_acceptsDo (nI r) (nI s) be de ki ex (nI kd) (nI T) = if 6 ≤ T ∧ T ≤ 8 then some (1, nI (r + 1), upd be (r + 1) (nI s), upd de r (nI (T - 6)), upd ki r (nI kd), 6) else some (0, nI r, be, de, ki, ex) := by
  unfold f_X4_acceptsDo f_X5_addRule f_X4_expect
  by_cases c : 6 ≤ T ∧ T ≤ 8
  · rw [if_neg (show ¬ nI T < 6 by rw [ql6, q_lt (by omega) (by decide)]; omega), if_pos (show nI T ≤ 8 from nI_le (b := 8) c.2 (by decide)), if_neg (show ¬ (8 : Int32) ≤ nI r from nI_ge (b := 8) hr (by decide)), qcI hr (by decide), qcI hr (by decide), show nI r + 1 = nI (r + 1) from q_add r 1, qt1, qcI (show r + 1 < 9 by omega) (by decide), qb4, qb2, qcB1, if_pos c, q_cl (show r + 1 < 2 ^ 31 by omega), q_cl (show r < 2 ^ 31 by omega), show nI T - 6 = nI (T - 6) from q_sub c.1]
  · rw [if_neg c]
    by_cases d : T < 6
    · rw [if_pos (show nI T < 6 by rw [ql6, q_lt (by omega) (by decide)]; exact d)]
    · rw [if_neg (show ¬ nI T < 6 by rw [ql6, q_lt (by omega) (by decide)]; exact d), if_neg (show ¬ nI T ≤ 8 from nI_ge (a := 8) (by omega) (by omega))]
theorem m_semi (hn : n ≤ 200) (ht : ∀ k, k < n → tp k = nI (t k) ∧ t k < 256) (hbe : be 0 = nI 0) {cnt : Int32} {q : Nat} {S : List RStp} (hb : tkT t n q ≠ 315 → BD K (tkB t n q)) (hk : tkT t n q = 315 → CX K tp n cnt be de ki kd 0 0 (tkN t n q) [] S) : CX K tp n cnt be de ki kd 6 0 q [] S := by
  intro m v siz le ri st wc lf sg tk ta nu pl wt hI hS
  have hp := hI.1
  obtain ⟨l1, l2⟩ := tk_lt ht hp
  have six : ∀ {α : Type} {x0 x1 x2 x3 x4 x5 y : α}, (if (6 : Int32) = 0 then x0 else if (6 : Int32) = 1 then x1 else if (6 : Int32) = 2 then x2 else if (6 : Int32) = 3 then x3 else if (6 : Int32) = 4 then x4 else if (6 : Int32) = 5 then x5 else y) = y := fun {_ _ _ _ _ _ _ _} => rfl
  by_cases c : tkT t n q = 315
  · obtain ⟨hs1, rfl, rfl, hL, hW⟩ := hS
    have w1 := tkN_gt ht hp (by omega)
    obtain ⟨y1, y2, y3, y4, y5, y6, hI1, eq1⟩ := m_go (cnt := cnt) (be := be) (de := de) (ki := ki) (kd := kd) (le := le) (ri := ri) (st := st) (siz := nI S.length) (wc := nI ([] : List Nat).length) (op := nI 0) (ex := 6) (lf := lf) (sg := sg) (tk := tk) (ta := ta) (nu := nu) (wt := wt) (c' := cnt) (s' := nI S.length) (be' := be) (de' := de) (ki' := ki) (le' := le) (ri' := ri) (st' := st) (wc' := nI ([] : List Nat).length) (op' := nI 0) (ex' := 0) (kd' := kd) (lf' := lf) (sg' := sg) (wt' := wt) hn ht hI (by omega) (fun nu' hv => by
      unfold f_X4_accepts f_X4_expect
      rw [six, if_pos (show nI (tkT t n q) = 315 by rw [c]; rfl), qb2, if_neg n10])
    rw [eq1]
    exact hk c _ _ _ _ _ _ _ _ _ _ _ _ _ _ hI1 ⟨by omega, rfl, rfl, hL, hW⟩
  · refine hb c _ (m_bad hn ht hI (fun _ => by decide) hbe (fun _ nu' hv => ?_))
    unfold f_X4_accepts
    rw [six, if_neg (show ¬ nI (tkT t n q) = 315 from tk_ne (by omega) (by decide) c)]
    exact ⟨_, _, _, _, _, _, _, _, _, _, _, _, _, _, _, rfl, hbe⟩
/-- what is to be done, behind a condition or without one -/
theorem m_do (hn : n ≤ 200) (ht : ∀ k, k < n → tp k = nI (t k) ∧ t k < 256) (hbe : be 0 = nI 0) {r kk q : Nat} {ex : Int32} {P : List Nat} {S S1 S' : List RStp} (hr : r < 8) (hPA : PA 1 P) (hs : S' ++ fl P = S) (hx : (ex = 1 ∧ P = [] ∧ tkT t n q ≠ 9) ∨ (ex = 5 ∧ tkT t n q ≠ 10 ∧ tkT t n q ≠ 11)) (hb : ∀ e, gDo t n kk S1 q = .error e → BD K e) (hk : ∀ y q', gDo t n kk S1 q = .ok (y, q') → CX K tp n (nI (r + 1)) (upd be (r + 1) (nI S.length)) (upd de r (nI y.2.1)) (upd ki r (nI kk)) (nI kk) 0 0 q' [] S) : CX K tp n (nI r) be de ki (nI kk) ex 0 q P S' := by
  intro m v siz le ri st wc lf sg tk ta nu pl wt hI hS
  have hp := hI.1
  obtain ⟨l1, l2⟩ := tk_lt ht hp
  have m1 := tkN_le ht hp
  obtain ⟨hs1, rfl, rfl, hL, hW⟩ := hS
  have hW' : WS wt (P ++ []) := by rw [List.append_nil]; exact hW
  obtain ⟨le', ri', st', ej, hL'⟩ := e4_joined (b := 1) (W := []) (by decide) (by decide) (Or.inl rfl) hPA hW' hL (by rw [List.append_nil]; omega)
  rw [List.append_nil, hs] at ej
  rw [hs] at hL'
  have ej' : f_X4_join 1 (nI S'.length) le ri st (nI P.length) wt = some (nI S.length, le', ri', st', nI 0) := ej
  have hle : ex = 1 → S' = S ∧ P = [] := fun h => by
    rcases hx with ⟨-, h2, -⟩ | ⟨h2, -⟩
    · subst h2
      exact ⟨by rw [← hs]; exact (List.append_nil S').symm, rfl⟩
    · rw [h2] at h; exact absurd h (by decide)
  have hlen : S.length ≤ q := by
    rw [← hs, List.length_append, fl_len]; exact hs1
  unfold gDo at hb hk
  by_cases c : 6 ≤ tkT t n q ∧ tkT t n q ≤ 8
  · rw [if_pos c] at hb hk
    have w1 := tkN_gt ht hp (by omega)
    have fin : ∀ (m v tk ta nu pl : Int32) (le ri st : Nat → Int32) (m' : Nat), PI n (tkN t n q) m' v pl → SL st le ri S → K (f_X4_read_L27 (nI n) 200 tp m' v (nI (r + 1)) (nI S.length) (upd be (r + 1) (nI S.length)) (upd de r (nI (tkT t n q - 6))) (upd ki r (nI kk)) le ri st (nI 0) (nI 0) 6 (nI kk) lf sg tk ta nu pl wt) := by
      intro m v tk ta nu pl le ri st m' hI1 hL1
      refine m_semi hn ht (by unfold upd; rw [if_neg (by omega)]; exact hbe) (K := K) (de := upd de r (nI (tkT t n q - 6))) (ki := upd ki r (nI kk)) (kd := nI kk) (cnt := nI (r + 1)) (S := S) (fun c2 => hb _ (by rw [if_neg c2])) (fun c2 => hk _ _ (by rw [if_pos c2])) m' v (nI S.length) le ri st (nI 0) lf sg tk ta nu pl wt hI1 ⟨by show S.length + 0 ≤ _; omega, rfl, rfl, hL1, trivial⟩
    rcases hx with ⟨rfl, rfl, h9⟩ | ⟨rfl, h10, h11⟩
    · obtain ⟨e1, -⟩ := hle rfl
      subst e1
      obtain ⟨y1, y2, y3, y4, y5, y6, hI1, eq1⟩ := m_go (cnt := nI r) (be := be) (de := de) (ki := ki) (kd := nI kk) (le := le) (ri := ri) (st := st) (siz := nI S'.length) (wc := nI ([] : List Nat).length) (op := nI 0) (ex := 1) (lf := lf) (sg := sg) (tk := tk) (ta := ta) (nu := nu) (wt := wt) (c' := nI (r + 1)) (s' := nI S'.length) (be' := upd be (r + 1) (nI S'.length)) (de' := upd de r (nI (tkT t n q - 6))) (ki' := upd ki r (nI kk)) (le' := le) (ri' := ri) (st' := st) (wc' := nI 0) (op' := nI 0) (ex' := 6) (kd' := nI kk) (lf' := lf) (sg' := sg) (wt' := wt) hn ht hI (by omega) (fun nu' hv => by
        unfold f_X4_accepts
        rw [if_neg (show ¬ (1 : Int32) = 0 by decide), if_pos (show (1 : Int32) = 1 from rfl), if_neg (show ¬ nI (tkT t n q) = 9 from tk_ne (by omega) (by decide) h9), e4_do hr l1, if_pos c, qb6, qcB1]
        rfl)
      rw [eq1]
      exact fin 0 _ _ _ _ _ _ _ _ _ hI1 hL
    · obtain ⟨y1, y2, y3, y4, y5, y6, hI1, eq1⟩ := m_go (cnt := nI r) (be := be) (de := de) (ki := ki) (kd := nI kk) (le := le) (ri := ri) (st := st) (siz := nI S'.length) (wc := nI P.length) (op := nI 0) (ex := 5) (lf := lf) (sg := sg) (tk := tk) (ta := ta) (nu := nu) (wt := wt) (c' := nI (r + 1)) (s' := nI S.length) (be' := upd be (r + 1) (nI S.length)) (de' := upd de r (nI (tkT t n q - 6))) (ki' := upd ki r (nI kk)) (le' := le') (ri' := ri') (st' := st') (wc' := nI 0) (op' := nI 0) (ex' := 6) (kd' := nI kk) (lf' := lf) (sg' := sg) (wt' := wt) hn ht hI (by omega) (fun nu' hv => by
        unfold f_X4_accepts f_X4_acceptsBehindOne
        rw [if_neg (show ¬ (5 : Int32) = 0 by decide), if_neg (show ¬ (5 : Int32) = 1 by decide), if_neg (show ¬ (5 : Int32) = 2 by decide), if_neg (show ¬ (5 : Int32) = 3 by decide), if_neg (show ¬ (5 : Int32) = 4 by decide), if_pos (show (5 : Int32) = 5 from rfl), if_neg (show ¬ nI (tkT t n q) = 10 from tk_ne (by omega) (by decide) h10), if_neg (show ¬ nI (tkT t n q) = 11 from tk_ne (by omega) (by decide) h11), if_pos (show nI 0 = 0 from rfl), ej', qb5, e4_do hr l1, if_pos c, qb6, qcB1, qb13, qcB1])
      rw [eq1]
      exact fin 0 _ _ _ _ _ _ _ _ _ hI1 hL'
  · rw [if_neg c] at hb
    refine hb _ rfl _ (m_bad hn ht hI (fun _ => by rcases hx with ⟨rfl, -⟩ | ⟨rfl, -⟩ <;> decide) hbe (fun _ nu' hv => ?_))
    rcases hx with ⟨rfl, rfl, h9⟩ | ⟨rfl, h10, h11⟩
    · unfold f_X4_accepts
      rw [if_neg (show ¬ (1 : Int32) = 0 by decide), if_pos (show (1 : Int32) = 1 from rfl), if_neg (show ¬ nI (tkT t n q) = 9 from tk_ne (by omega) (by decide) h9), e4_do hr l1, if_neg c, qb6, qcB0]
      exact ⟨_, _, _, _, _, _, _, _, _, _, _, _, _, _, _, rfl, hbe⟩
    · unfold f_X4_accepts f_X4_acceptsBehindOne
      rw [if_neg (show ¬ (5 : Int32) = 0 by decide), if_neg (show ¬ (5 : Int32) = 1 by decide), if_neg (show ¬ (5 : Int32) = 2 by decide), if_neg (show ¬ (5 : Int32) = 3 by decide), if_neg (show ¬ (5 : Int32) = 4 by decide), if_pos (show (5 : Int32) = 5 from rfl), if_neg (show ¬ nI (tkT t n q) = 10 from tk_ne (by omega) (by decide) h10), if_neg (show ¬ nI (tkT t n q) = 11 from tk_ne (by omega) (by decide) h11), if_pos (show nI 0 = 0 from rfl), ej', qb5, e4_do hr l1, if_neg c, qb6, qcB0, qb13, qcB0]
      exact ⟨_, _, _, _, _, _, _, _, _, _, _, _, _, _, _, rfl, hbe⟩
theorem m_rule (hn : n ≤ 200) (ht : ∀ k, k < n → tp k = nI (t k) ∧ t k < 256) (hbe : be 0 = nI 0) {r p : Nat} {S : List RStp} (hr : r ≤ 8) (h19 : tkT t n p ≠ 19) (hb : ∀ e, gRule t n r p = .error e → BD K e) (hk : ∀ y q, gRule t n r p = .ok (y, q) → CX K tp n (nI (r + 1)) (upd be (r + 1) (nI (S ++ y.2.2).length)) (upd de r (nI y.2.1)) (upd ki r (nI y.1)) (nI y.1) 0 0 q [] (S ++ y.2.2)) : CX K tp n (nI r) be de ki kd 0 0 p [] S := by
  intro m v siz le ri st wc lf sg tk ta nu pl wt hI hS
  have hp := hI.1
  obtain ⟨l1, l2⟩ := tk_lt ht hp
  have m1 := tkN_le ht hp
  have w1 := tkN_gt ht hp h19
  obtain ⟨hs1, rfl, rfl, hL, hW⟩ := hS
  unfold gRule at hb hk
  by_cases c : r = 8 ∨ 5 < tkT t n p
  · rw [if_pos c] at hb
    refine hb _ rfl _ (m_bad hn ht hI (fun h => absurd h h19) hbe (fun _ nu' hv => ?_))
    unfold f_X4_accepts f_X4_acceptsKind
    rw [if_pos (show (0 : Int32) = 0 from rfl)]
    by_cases d : 5 < tkT t n p
    · rw [if_pos (show (5 : Int32) < nI (tkT t n p) by rw [ql5, q_lt (by decide) (by omega)]; exact d), qb3, qcB0]
      exact ⟨_, _, _, _, _, _, _, _, _, _, _, _, _, _, _, rfl, hbe⟩
    · rw [if_neg (show ¬ (5 : Int32) < nI (tkT t n p) by rw [ql5, q_lt (by decide) (by omega)]; exact d), if_neg (show ¬ nI r < 8 by rw [ql8, q_lt (by omega) (by decide)]; omega), qb3, qcB0]
      exact ⟨_, _, _, _, _, _, _, _, _, _, _, _, _, _, _, rfl, hbe⟩
  · rw [if_neg c] at hb hk
    have d : ¬ 5 < tkT t n p := fun z => c (Or.inr z)
    have r8 : r < 8 := by omega
    obtain ⟨y1, y2, y3, y4, y5, y6, hI1, eq1⟩ := m_go (cnt := nI r) (be := be) (de := de) (ki := ki) (kd := kd) (le := le) (ri := ri) (st := st) (siz := nI S.length) (wc := nI ([] : List Nat).length) (op := nI 0) (ex := 0) (lf := lf) (sg := sg) (tk := tk) (ta := ta) (nu := nu) (wt := wt) (c' := nI r) (s' := nI S.length) (be' := be) (de' := de) (ki' := ki) (le' := le) (ri' := ri) (st' := st) (wc' := nI ([] : List Nat).length) (op' := nI 0) (ex' := 1) (kd' := nI (tkT t n p)) (lf' := lf) (sg' := sg) (wt' := wt) hn ht hI h19 (fun nu' hv => by
      unfold f_X4_accepts f_X4_acceptsKind f_X4_expect
      rw [if_pos (show (0 : Int32) = 0 from rfl), if_neg (show ¬ (5 : Int32) < nI (tkT t n p) by rw [ql5, q_lt (by decide) (by omega)]; exact d), if_pos (show nI r < 8 by rw [ql8, q_lt (by omega) (by decide)]; omega), qb2, qcB1, qb3, qcB1])
    rw [eq1]
    have hS1 : SI (tkN t n p) [] S (nI S.length) (nI ([] : List Nat).length) st le ri wt := ⟨by show S.length + 0 ≤ _; have : S.length + 0 ≤ p := hs1; omega, rfl, rfl, hL, trivial⟩
    obtain ⟨l3, l4⟩ := tk_lt ht m1
    by_cases c9 : tkT t n (tkN t n p) = 9
    · rw [if_pos c9] at hb hk
      have m2 := tkN_le ht m1
      have w2 := tkN_gt ht m1 (by omega)
      obtain ⟨z1, z2, z3, z4, z5, z6, hI2, eq2⟩ := m_go (cnt := nI r) (be := be) (de := de) (ki := ki) (kd := nI (tkT t n p)) (le := le) (ri := ri) (st := st) (siz := nI S.length) (wc := nI ([] : List Nat).length) (op := nI 0) (ex := 1) (lf := lf) (sg := sg) (tk := y3) (ta := y4) (nu := y5) (wt := wt) (c' := nI r) (s' := nI S.length) (be' := be) (de' := de) (ki' := ki) (le' := le) (ri' := ri) (st' := st) (wc' := nI ([] : List Nat).length) (op' := nI 0) (ex' := 2) (kd' := nI (tkT t n p)) (lf' := lf) (sg' := sg) (wt' := wt) hn ht hI1 (by omega) (fun nu' hv => by
        unfold f_X4_accepts f_X4_expect
        rw [if_neg (show ¬ (1 : Int32) = 0 by decide), if_pos (show (1 : Int32) = 1 from rfl), if_pos (show nI (tkT t n (tkN t n p)) = 9 by rw [c9]; rfl), qb2, qcB1])
      rw [eq2]
      refine m_cond (K := K) (cnt := nI r) (kd := nI (tkT t n p)) (be := be) (de := de) (ki := ki) hn ht hbe 6 0 (by decide) (by decide) _ [] S m2 (Or.inl rfl) (fun e he => hb e (by rw [he])) (fun P S' Sc q he hs hPA h10 h11 => ?_) _ _ _ _ _ _ _ _ _ _ _ _ _ _ hI2 ⟨by show S.length + 0 ≤ _; have : S.length + 0 ≤ p := hs1; omega, rfl, rfl, hL, trivial⟩
      rw [he] at hb hk
      rw [List.append_nil]
      refine m_do hn ht hbe (S := S ++ Sc) (S1 := Sc) r8 hPA hs (Or.inr ⟨rfl, h10, h11⟩) hb (fun y q' hy => ?_)
      have := hk y q' hy
      unfold gDo at hy
      split at hy
      · split at hy
        · injection hy with hy
          injection hy with hy _
          subst hy
          exact this
        · injection hy
      · injection hy
    · rw [if_neg c9] at hb hk
      refine m_do (K := K) (be := be) (de := de) (ki := ki) hn ht hbe (S := S) (S' := S) (P := []) (S1 := []) (ex := 1) (kk := tkT t n p) r8 PA_nil (List.append_nil S) (Or.inl ⟨rfl, rfl, c9⟩) hb (fun y q' hy => ?_) _ _ _ _ _ _ _ _ _ _ _ _ _ _ hI1 hS1
      have := hk y q' hy
      unfold gDo at hy
      split at hy
      · split at hy
        · injection hy with hy
          injection hy with hy _
          subst hy
          rw [show S ++ ((tkT t n p, tkT t n (tkN t n p) - 6, ([] : List RStp)) : RRul).2.2 = S from List.append_nil S] at this
          exact this
        · injection hy
      · injection hy
theorem m_rules (hn : n ≤ 200) (ht : ∀ k, k < n → tp k = nI (t k) ∧ t k < 256) : ∀ (d : Nat) (RL : List RRul) (p : Nat) (be de ki : Nat → Int32) (kd : Int32), n < p + d → KB ki de be RL → RL.length ≤ 8 → (∀ e, gRules t n d RL p = .error e → BD K e) → (∀ RL', gRules t n d RL p = .ok RL' → ∀ out, OKT out RL' → K out) → CX K tp n (nI RL.length) be de ki kd 0 0 p [] (fS RL) := by
  intro d
  induction d with
  | zero => intro RL p be de ki kd h1 _ _ _ _ m v siz le ri st wc lf sg tk ta nu pl wt hI hS; have := hI.1; omega
  | succ d ih =>
    intro RL p be de ki kd h1 hB h8 hb hk
    rw [gRules] at hb hk
    by_cases c : tkT t n p = 19
    · rw [if_pos c] at hk
      intro m v siz le ri st wc lf sg tk ta nu pl wt hI hS
      obtain ⟨hp, hm, ⟨i, rfl, hi⟩, rfl⟩ := hI
      obtain ⟨hs1, rfl, rfl, hL, hW⟩ := hS
      obtain ⟨m, rfl⟩ : ∃ x, m = x + 1 := ⟨m - 1, by omega⟩
      obtain ⟨nu', e, hv⟩ := e8_advance hn ht nu hp
      have e' : f_X4_advance (nI n) 200 tp nu (nI p) = some (nI (tkT t n p), nI (tkB t n p), nu', nI (tkN t n p)) := e
      refine hk RL rfl _ ?_
      rw [f_X4_read_L27, if_neg (show ¬ nI n < nI i by rw [q_lt (by omega) (by omega)]; omega), e', qb4, if_pos (show nI (tkT t n p) = 19 by rw [c]; rfl), if_pos rfl, fS_len]
      exact ⟨_, _, _, _, _, _, _, _, _, _, _, _, _, _, _, _, _, rfl, hB, hL⟩
    · rw [if_neg c] at hb hk
      intro m v siz le ri st wc lf sg tk ta nu pl wt hI hS
      have hp := hI.1
      refine m_rule (K := K) (S := fS RL) hn ht hB.2.2 h8 c (fun e he => hb e (by rw [he])) (fun y q he => ?_) _ _ _ _ _ _ _ _ _ _ _ _ _ _ hI hS
      rw [he] at hb hk
      have hlen := gRule_len (t := t) (fun k hk => (ht k hk).2) he
      have hR := (gRule_ok (t := t) (r := RL.length) (fun k hk => (ht k hk).2) hp).2 y q he
      have hB' := KB_add hB y
      have ef : fS RL ++ y.2.2 = fS (RL ++ [y]) := by
        rw [fS_app]
        show _ = fS RL ++ (y.2.2 ++ [])
        rw [List.append_nil]
      have el : RL.length + 1 = (RL ++ [y]).length := by rw [List.length_append]; rfl
      have := ih (RL ++ [y]) q _ _ _ (nI y.1) (by omega) hB' (by omega) hb hk
      rw [ef, fS_len, el]
      rw [← el] at this ⊢
      have et : tot (RL ++ [y]) = tot RL + y.2.2.length := by rw [← fS_len, ← ef, List.length_append, fS_len]
      rw [et]
      exact this
theorem e4_read (hn : n ≤ 200) (ht : ∀ k, k < n → tp k = nI (t k) ∧ t k < 256) (hbe : be 0 = nI 0) (le ri st : Nat → Int32) (kd lf sg tk ta nu : Int32) (wt : Nat → Int32) : (∀ e, gRules t n (n + 1) [] 0 = .error e → FT (f_X4_read (nI n) 200 tp be de ki le ri st kd lf sg tk ta nu wt) e) ∧ ∀ RL, gRules t n (n + 1) [] 0 = .ok RL → OKT (f_X4_read (nI n) 200 tp be de ki le ri st kd lf sg tk ta nu wt) RL := by
  refine m_rules (K := fun out => (∀ e, gRules t n (n + 1) [] 0 = .error e → FT out e) ∧ ∀ RL, gRules t n (n + 1) [] 0 = .ok RL → OKT out RL) hn ht (n + 1) [] 0 be de ki kd (by omega) ⟨trivial, hbe, hbe⟩ (by decide) (fun e he out ho => ⟨fun e' h' => ?_, fun RL h' => ?_⟩) (fun RL he out ho => ⟨fun e' h' => ?_, fun RL' h' => ?_⟩) 1000 (nI 0) (nI 0) le ri st (nI 0) lf sg tk ta nu (nI 0) wt ⟨Nat.zero_le _, by omega, ⟨0, rfl, Nat.le_refl _⟩, rfl⟩ ⟨Nat.le_refl _, rfl, rfl, fun i h => absurd h (Nat.not_lt_zero i), trivial⟩
  · rw [he] at h'; injection h' with h'; subst h'; exact ho
  · rw [he] at h'; injection h'
  · rw [he] at h'; injection h'
  · rw [he] at h'; injection h' with h'; subst h'; exact ho
end EC4
