/-! ===== E: the class's reader takes conditions as the grammar does ===== -/
def SI (p : Nat) (W : List Nat) (S : List RStp) (siz wc : Int32) (st le ri wt : Nat → Int32) : Prop := S.length + W.length ≤ p ∧ siz = nI S.length ∧ wc = nI W.length ∧ SL st le ri S ∧ WS wt W
def BD (K : RT → Prop) (e : Nat) : Prop := ∀ out, FT out e → K out
def CX (K : RT → Prop) (tp : Nat → Int32) (n : Nat) (cnt : Int32) (be de ki : Nat → Int32) (kd ex : Int32) (o q : Nat) (W : List Nat) (S : List RStp) : Prop := ∀ (m : Nat) (v siz : Int32) (le ri st : Nat → Int32) (wc lf sg tk ta nu pl : Int32) (wt : Nat → Int32), PI n q m v pl → SI q W S siz wc st le ri wt → K (f_X4_read_L27 (nI n) 200 tp m v cnt siz be de ki le ri st wc (nI o) ex kd lf sg tk ta nu pl wt)
section EC2
variable {tp : Nat → Int32} {t : Nat → Nat} {n : Nat}
theorem e4_val_n (ht : ∀ k, k < n → tp k = nI (t k) ∧ t k < 256) {p : Nat} (hp : p ≤ n) {nu : Int32} (hv : tkT t n p = 18 → nu = nI (tkW t n p)) (h : vl t n p = none) : f_X4_valueOfToken (nI (tkT t n p)) nu = some (-3) := by
  rw [e4_value ht hp hv, h]
theorem e4_val_y (ht : ∀ k, k < n → tp k = nI (t k) ∧ t k < 256) {p x : Nat} (hp : p ≤ n) {nu : Int32} (hv : tkT t n p = 18 → nu = nI (tkW t n p)) (h : vl t n p = some x) : f_X4_valueOfToken (nI (tkT t n p)) nu = some (nI x) := by
  rw [e4_value ht hp hv, h]
theorem e4_sign {T : Nat} (hT : T < 512) (ex sg : Int32) : f_X4_acceptsSign ex sg (nI T) = if sgn T = 0 then some (0, ex, sg) else some (1, 4, nI (sgn T)) := by
  unfold f_X4_acceptsSign f_X4_expect sgn
  by_cases c4 : T = 316
  · subst c4; rfl
  · by_cases c5 : T = 317
    · subst c5; rfl
    · by_cases c6 : T = 318
      · subst c6; rfl
      · rw [if_neg (show ¬ nI T = 316 by rw [show (316 : Int32) = nI 316 from rfl, q_eq (by omega) (by decide)]; exact c4), if_neg (show ¬ nI T = 317 by rw [show (317 : Int32) = nI 317 from rfl, q_eq (by omega) (by decide)]; exact c5), if_neg (show ¬ nI T = 318 by rw [show (318 : Int32) = nI 318 from rfl, q_eq (by omega) (by decide)]; exact c6), if_neg c4, if_neg c5, if_neg c6, if_pos rfl]
theorem tk_ne {x y : Nat} (hx : x < 2 ^ 31) (hy : y < 2 ^ 31) (h : x ≠ y) : ¬ nI x = nI y := by rw [q_eq hx hy]; exact h
variable {K : RT → Prop} {cnt kd : Int32} {be de ki : Nat → Int32}
theorem m_like (hn : n ≤ 200) (ht : ∀ k, k < n → tp k = nI (t k) ∧ t k < 256) (hbe : be 0 = nI 0) {o p : Nat} {W : List Nat} {S : List RStp} (h12 : tkT t n p ≠ 12) (h296 : tkT t n p ≠ 296) (hbad : ∀ e, gLike t n p = .error e → BD K e) (hok : ∀ S' q, gLike t n p = .ok (S', q) → CX K tp n cnt be de ki kd 5 o q W (S ++ S')) : CX K tp n cnt be de ki kd 2 o p W S := by
  intro m v siz le ri st wc lf sg tk ta nu pl wt hI hS
  have hp := hI.1
  obtain ⟨hs1, rfl, rfl, hL, hW⟩ := hS
  obtain ⟨l1, l2⟩ := tk_lt ht hp
  have a12 : ¬ nI (tkT t n p) = 12 := tk_ne (by omega) (by decide) h12
  have a296 : ¬ nI (tkT t n p) = 296 := tk_ne (by omega) (by decide) h296
  unfold gLike at hbad hok
  cases e1 : vl t n p with
  | none =>
    rw [e1] at hbad
    refine hbad _ rfl _ (m_bad hn ht hI (fun _ => by decide) hbe (fun _ nu' hv => ?_))
    unfold f_X4_accepts f_X4_acceptsOne
    rw [if_neg (show ¬ (2 : Int32) = 0 by decide), if_neg (show ¬ (2 : Int32) = 1 by decide), if_pos (show (2 : Int32) = 2 from rfl), if_neg a12, if_neg a296, e4_val_n ht hp hv e1, qb1, if_pos rfl, qb6, qcB0]
    exact ⟨_, _, _, _, _, _, _, _, _, _, _, _, _, _, _, rfl, hbe⟩
  | some l =>
    rw [e1] at hbad hok
    have hT := (vl_ok (fun k hk => (ht k hk).2) hp e1).2
    have hl5 := (vl_ok (fun k hk => (ht k hk).2) hp e1).1
    have m1 := tkN_le ht hp
    have w1 := tkN_gt ht hp hT
    obtain ⟨y1, y2, y3, y4, y5, y6, hI1, eq1⟩ := m_go (cnt := cnt) (be := be) (de := de) (ki := ki) (kd := kd) (le := le) (ri := ri) (st := st) (siz := nI S.length) (wc := nI W.length) (op := nI o) (ex := 2) (lf := lf) (sg := sg) (tk := tk) (ta := ta) (nu := nu) (wt := wt) (c' := cnt) (s' := nI S.length) (be' := be) (de' := de) (ki' := ki) (le' := le) (ri' := ri) (st' := st) (wc' := nI W.length) (op' := nI o) (ex' := 3) (kd' := kd) (lf' := nI l) (sg' := sg) (wt' := wt) hn ht hI hT (fun nu' hv => by
      unfold f_X4_accepts f_X4_acceptsOne f_X4_expect
      rw [if_neg (show ¬ (2 : Int32) = 0 by decide), if_neg (show ¬ (2 : Int32) = 1 by decide), if_pos (show (2 : Int32) = 2 from rfl), if_neg a12, if_neg a296, e4_val_y ht hp hv e1, qb1, if_neg (nI_m3 hl5), qb2, if_neg n10, qb6, qcB1])
    rw [eq1]
    obtain ⟨l3, l4⟩ := tk_lt ht m1
    by_cases cs : sgn (tkT t n (tkN t n p)) = 0
    · dsimp only at hbad
      rw [if_pos cs] at hbad
      refine hbad _ rfl _ (m_bad hn ht hI1 (fun _ => by decide) hbe (fun _ nu' hv => ?_))
      unfold f_X4_accepts
      rw [if_neg (show ¬ (3 : Int32) = 0 by decide), if_neg (show ¬ (3 : Int32) = 1 by decide), if_neg (show ¬ (3 : Int32) = 2 by decide), if_pos (show (3 : Int32) = 3 from rfl), e4_sign l3, if_pos cs, qb3, qcB0]
      exact ⟨_, _, _, _, _, _, _, _, _, _, _, _, _, _, _, rfl, hbe⟩
    · dsimp only at hbad hok
      rw [if_neg cs] at hbad hok
      have hT1 := (sgn_ok cs).2.2
      have m2 := tkN_le ht m1
      have w2 := tkN_gt ht m1 hT1
      obtain ⟨z1, z2, z3, z4, z5, z6, hI2, eq2⟩ := m_go (cnt := cnt) (be := be) (de := de) (ki := ki) (kd := kd) (le := le) (ri := ri) (st := st) (siz := nI S.length) (wc := nI W.length) (op := nI o) (ex := 3) (lf := nI l) (sg := sg) (tk := y3) (ta := y4) (nu := y5) (wt := wt) (c' := cnt) (s' := nI S.length) (be' := be) (de' := de) (ki' := ki) (le' := le) (ri' := ri) (st' := st) (wc' := nI W.length) (op' := nI o) (ex' := 4) (kd' := kd) (lf' := nI l) (sg' := nI (sgn (tkT t n (tkN t n p)))) (wt' := wt) hn ht hI1 hT1 (fun nu' hv => by
        unfold f_X4_accepts
        rw [if_neg (show ¬ (3 : Int32) = 0 by decide), if_neg (show ¬ (3 : Int32) = 1 by decide), if_neg (show ¬ (3 : Int32) = 2 by decide), if_pos (show (3 : Int32) = 3 from rfl), e4_sign l3, if_neg cs, qb3, qcB1])
      rw [eq2]
      cases e2 : vl t n (tkN t n (tkN t n p)) with
      | none =>
        rw [e2] at hbad
        refine hbad _ rfl _ (m_bad hn ht hI2 (fun _ => by decide) hbe (fun _ nu' hv => ?_))
        unfold f_X4_accepts f_X4_acceptsRight
        rw [if_neg (show ¬ (4 : Int32) = 0 by decide), if_neg (show ¬ (4 : Int32) = 1 by decide), if_neg (show ¬ (4 : Int32) = 2 by decide), if_neg (show ¬ (4 : Int32) = 3 by decide), if_pos (show (4 : Int32) = 4 from rfl), e4_val_n ht m2 hv e2, qb1, if_pos rfl, qb6, qcB0]
        exact ⟨_, _, _, _, _, _, _, _, _, _, _, _, _, _, _, rfl, hbe⟩
      | some r =>
        rw [e2] at hok
        have hT2 := (vl_ok (fun k hk => (ht k hk).2) m2 e2).2
        have hr5 := (vl_ok (fun k hk => (ht k hk).2) m2 e2).1
        have m3 := tkN_le ht m2
        have w3 := tkN_gt ht m2 hT2
        obtain ⟨le', ri', st', ea, hL'⟩ := e4_addStep (show S.length < 200 by omega) hL (sgn (tkT t n (tkN t n p))) l r
        obtain ⟨x1, x2, x3, x4, x5, x6, hI3, eq3⟩ := m_go (cnt := cnt) (be := be) (de := de) (ki := ki) (kd := kd) (le := le) (ri := ri) (st := st) (siz := nI S.length) (wc := nI W.length) (op := nI o) (ex := 4) (lf := nI l) (sg := nI (sgn (tkT t n (tkN t n p)))) (tk := z3) (ta := z4) (nu := z5) (wt := wt) (c' := cnt) (s' := nI (S ++ [((sgn (tkT t n (tkN t n p)), l, r) : RStp)]).length) (be' := be) (de' := de) (ki' := ki) (le' := le') (ri' := ri') (st' := st') (wc' := nI W.length) (op' := nI o) (ex' := 5) (kd' := kd) (lf' := nI l) (sg' := nI (sgn (tkT t n (tkN t n p)))) (wt' := wt) hn ht hI2 hT2 (fun nu' hv => by
          unfold f_X4_accepts f_X4_acceptsRight f_X4_expect
          rw [if_neg (show ¬ (4 : Int32) = 0 by decide), if_neg (show ¬ (4 : Int32) = 1 by decide), if_neg (show ¬ (4 : Int32) = 2 by decide), if_neg (show ¬ (4 : Int32) = 3 by decide), if_pos (show (4 : Int32) = 4 from rfl), e4_val_y ht m2 hv e2, qb1, if_neg (nI_m3 hr5), ea, qb4, qb2, qcB1, qb6, qcB1])
        rw [eq3]
        exact hok _ _ rfl _ _ _ _ _ _ _ _ _ _ _ _ _ _ hI3 ⟨by rw [List.length_append]; show S.length + 1 + _ ≤ _; omega, rfl, rfl, hL', hW⟩
theorem t2_not (hn : n ≤ 200) (ht : ∀ k, k < n → tp k = nI (t k) ∧ t k < 256) {o p : Nat} {W : List Nat} {S : List RStp} (h12 : tkT t n p = 12) (hok : CX K tp n cnt be de ki kd 2 o (tkN t n p) (3 :: W) S) : CX K tp n cnt be de ki kd 2 o p W S := by
  intro m v siz le ri st wc lf sg tk ta nu pl wt hI hS
  have hp := hI.1
  obtain ⟨hs1, rfl, rfl, hL, hW⟩ := hS
  have m1 := tkN_le ht hp
  have w1 := tkN_gt ht hp (by omega)
  obtain ⟨y1, y2, y3, y4, y5, y6, hI1, eq1⟩ := m_go (cnt := cnt) (be := be) (de := de) (ki := ki) (kd := kd) (le := le) (ri := ri) (st := st) (siz := nI S.length) (wc := nI W.length) (op := nI o) (ex := 2) (lf := lf) (sg := sg) (tk := tk) (ta := ta) (nu := nu) (wt := wt) (c' := cnt) (s' := nI S.length) (be' := be) (de' := de) (ki' := ki) (le' := le) (ri' := ri) (st' := st) (wc' := nI (3 :: W).length) (op' := nI o) (ex' := 2) (kd' := kd) (lf' := lf) (sg' := sg) (wt' := upd wt W.length (nI 3)) hn ht hI (by omega) (fun nu' hv => by
    have ew : f_X4_await 3 (nI W.length) wt = _ := e4_await (show W.length < 200 by omega) 3 wt
    unfold f_X4_accepts f_X4_acceptsOne
    rw [if_neg (show ¬ (2 : Int32) = 0 by decide), if_neg (show ¬ (2 : Int32) = 1 by decide), if_pos (show (2 : Int32) = 2 from rfl), if_pos (show nI (tkT t n p) = 12 by rw [h12]; rfl), ew, qb2, qb6, qcB1])
  rw [eq1]
  exact hok _ _ _ _ _ _ _ _ _ _ _ _ _ _ hI1 ⟨by show S.length + (W.length + 1) ≤ _; omega, rfl, rfl, hL, WS_push hW⟩
theorem t2_open (hn : n ≤ 200) (ht : ∀ k, k < n → tp k = nI (t k) ∧ t k < 256) {o p : Nat} (ho : o < 3) {W : List Nat} {S : List RStp} (h12 : tkT t n p = 296) (hok : CX K tp n cnt be de ki kd 2 (o + 1) (tkN t n p) (0 :: W) S) : CX K tp n cnt be de ki kd 2 o p W S := by
  intro m v siz le ri st wc lf sg tk ta nu pl wt hI hS
  have hp := hI.1
  obtain ⟨hs1, rfl, rfl, hL, hW⟩ := hS
  have m1 := tkN_le ht hp
  have w1 := tkN_gt ht hp (by omega)
  obtain ⟨y1, y2, y3, y4, y5, y6, hI1, eq1⟩ := m_go (cnt := cnt) (be := be) (de := de) (ki := ki) (kd := kd) (le := le) (ri := ri) (st := st) (siz := nI S.length) (wc := nI W.length) (op := nI o) (ex := 2) (lf := lf) (sg := sg) (tk := tk) (ta := ta) (nu := nu) (wt := wt) (c' := cnt) (s' := nI S.length) (be' := be) (de' := de) (ki' := ki) (le' := le) (ri' := ri) (st' := st) (wc' := nI (0 :: W).length) (op' := nI (o + 1)) (ex' := 2) (kd' := kd) (lf' := lf) (sg' := sg) (wt' := upd wt W.length (nI 0)) hn ht hI (by omega) (fun nu' hv => by
    have ew : f_X4_await 0 (nI W.length) wt = _ := e4_await (show W.length < 200 by omega) 0 wt
    unfold f_X4_accepts f_X4_acceptsOne
    rw [if_neg (show ¬ (2 : Int32) = 0 by decide), if_neg (show ¬ (2 : Int32) = 1 by decide), if_pos (show (2 : Int32) = 2 from rfl), if_neg (show ¬ nI (tkT t n p) = 12 by rw [h12]; decide), if_pos (show nI (tkT t n p) = 296 by rw [h12]; rfl), if_pos (show nI o < 3 by rw [ql3, q_lt (by omega) (by decide)]; exact ho), show nI o + 1 = nI (o + 1) from q_add o 1, qt1, ew, qb2, qb6, qcB1])
  rw [eq1]
  exact hok _ _ _ _ _ _ _ _ _ _ _ _ _ _ hI1 ⟨by show S.length + (W.length + 1) ≤ _; omega, rfl, rfl, hL, WS_push hW⟩
theorem t2_open3 (hn : n ≤ 200) (ht : ∀ k, k < n → tp k = nI (t k) ∧ t k < 256) (hbe : be 0 = nI 0) {o p : Nat} (ho : o = 3) {W : List Nat} {S : List RStp} (h12 : tkT t n p = 296) (hbad : BD K (tkB t n p)) : CX K tp n cnt be de ki kd 2 o p W S := by
  intro m v siz le ri st wc lf sg tk ta nu pl wt hI hS
  refine hbad _ (m_bad hn ht hI (fun _ => by decide) hbe (fun _ nu' hv => ?_))
  unfold f_X4_accepts f_X4_acceptsOne
  rw [if_neg (show ¬ (2 : Int32) = 0 by decide), if_neg (show ¬ (2 : Int32) = 1 by decide), if_pos (show (2 : Int32) = 2 from rfl), if_neg (show ¬ nI (tkT t n p) = 12 by rw [h12]; decide), if_pos (show nI (tkT t n p) = 296 by rw [h12]; rfl), if_neg (show ¬ nI o < 3 by rw [ho]; decide), qb6, qcB0]
  exact ⟨_, _, _, _, _, _, _, _, _, _, _, _, _, _, _, rfl, hbe⟩
theorem t5_bad (hn : n ≤ 200) (ht : ∀ k, k < n → tp k = nI (t k) ∧ t k < 256) (hbe : be 0 = nI 0) {o p : Nat} (ho : o < 3) {W : List Nat} {S : List RStp} (h10 : tkT t n p ≠ 10) (h11 : tkT t n p ≠ 11) (h297 : tkT t n p ≠ 297) (hbad : BD K (tkB t n p)) : CX K tp n cnt be de ki kd 5 (o + 1) p W S := by
  intro m v siz le ri st wc lf sg tk ta nu pl wt hI hS
  obtain ⟨l1, l2⟩ := tk_lt ht hI.1
  refine hbad _ (m_bad hn ht hI (fun _ => by decide) hbe (fun _ nu' hv => ?_))
  unfold f_X4_accepts f_X4_acceptsBehindOne
  rw [if_neg (show ¬ (5 : Int32) = 0 by decide), if_neg (show ¬ (5 : Int32) = 1 by decide), if_neg (show ¬ (5 : Int32) = 2 by decide), if_neg (show ¬ (5 : Int32) = 3 by decide), if_neg (show ¬ (5 : Int32) = 4 by decide), if_pos (show (5 : Int32) = 5 from rfl), if_neg (show ¬ nI (tkT t n p) = 10 from tk_ne (by omega) (by decide) h10), if_neg (show ¬ nI (tkT t n p) = 11 from tk_ne (by omega) (by decide) h11), if_neg (show ¬ nI (o + 1) = 0 from nI_ne0 (by omega) (by omega)), if_neg (show ¬ nI (tkT t n p) = 297 from tk_ne (by omega) (by decide) h297), qb13, qcB0]
  exact ⟨_, _, _, _, _, _, _, _, _, _, _, _, _, _, _, rfl, hbe⟩
theorem t5_close (hn : n ≤ 200) (ht : ∀ k, k < n → tp k = nI (t k) ∧ t k < 256) {o p : Nat} (ho : o < 3) {W P : List Nat} {S : List RStp} (hP : PA 1 P) (h297 : tkT t n p = 297) (hok : CX K tp n cnt be de ki kd 5 o (tkN t n p) W (S ++ fl P)) : CX K tp n cnt be de ki kd 5 (o + 1) p (P ++ 0 :: W) S := by
  intro m v siz le ri st wc lf sg tk ta nu pl wt hI hS
  have hp := hI.1
  obtain ⟨hs1, rfl, rfl, hL, hW⟩ := hS
  have m1 := tkN_le ht hp
  have w1 := tkN_gt ht hp (by omega)
  obtain ⟨le', ri', st', ej, hL'⟩ := e4_joined (b := 1) (W := 0 :: W) (by decide) (by decide) (Or.inr (show (0 : Nat) < 1 by decide)) hP hW hL (by omega)
  have ej' : f_X4_join 1 (nI S.length) le ri st (nI (P ++ 0 :: W).length) wt = some (nI (S ++ fl P).length, le', ri', st', nI (W.length + 1)) := ej
  obtain ⟨y1, y2, y3, y4, y5, y6, hI1, eq1⟩ := m_go (cnt := cnt) (be := be) (de := de) (ki := ki) (kd := kd) (le := le) (ri := ri) (st := st) (siz := nI S.length) (wc := nI (P ++ 0 :: W).length) (op := nI (o + 1)) (ex := 5) (lf := lf) (sg := sg) (tk := tk) (ta := ta) (nu := nu) (wt := wt) (c' := cnt) (s' := nI (S ++ fl P).length) (be' := be) (de' := de) (ki' := ki) (le' := le') (ri' := ri') (st' := st') (wc' := nI W.length) (op' := nI o) (ex' := 5) (kd' := kd) (lf' := lf) (sg' := sg) (wt' := wt) hn ht hI (by omega) (fun nu' hv => by
    have wl : (P ++ 0 :: W).length = P.length + (W.length + 1) := List.length_append
    unfold f_X4_accepts f_X4_acceptsBehindOne f_X4_closes
    rw [if_neg (show ¬ (5 : Int32) = 0 by decide), if_neg (show ¬ (5 : Int32) = 1 by decide), if_neg (show ¬ (5 : Int32) = 2 by decide), if_neg (show ¬ (5 : Int32) = 3 by decide), if_neg (show ¬ (5 : Int32) = 4 by decide), if_pos (show (5 : Int32) = 5 from rfl), if_neg (show ¬ nI (tkT t n p) = 10 by rw [h297]; decide), if_neg (show ¬ nI (tkT t n p) = 11 by rw [h297]; decide), if_neg (show ¬ nI (o + 1) = 0 from nI_ne0 (by omega) (by omega)), if_pos (show nI (tkT t n p) = 297 by rw [h297]; rfl), ej', qb5, nI_pred, qt1, if_neg (show ¬ nI (W.length + 1) ≤ 0 from nI_ge (a := 0) (by omega) (by omega)), nI_pred, qt1, qb7, if_neg n10, qb13, qcB1])
  rw [eq1]
  exact hok _ _ _ _ _ _ _ _ _ _ _ _ _ _ hI1 ⟨by
    rw [List.length_append] at hs1 ⊢
    rw [fl_len]
    have : (0 :: W).length = W.length + 1 := rfl
    omega, rfl, rfl, hL', (WS_app P (0 :: W) hW).2⟩
theorem t5_op (hn : n ≤ 200) (ht : ∀ k, k < n → tp k = nI (t k) ∧ t k < 256) {o p b : Nat} {W P : List Nat} {S : List RStp} (hP : PA b P) (hb : (b = 2 ∧ tkT t n p = 10) ∨ (b = 1 ∧ tkT t n p = 11)) (hW0 : W = [] ∨ W.headD 0 < b) (hok : CX K tp n cnt be de ki kd 2 o (tkN t n p) (b :: W) (S ++ fl P)) : CX K tp n cnt be de ki kd 5 o p (P ++ W) S := by
  intro m v siz le ri st wc lf sg tk ta nu pl wt hI hS
  have hp := hI.1
  obtain ⟨hs1, rfl, rfl, hL, hW⟩ := hS
  have m1 := tkN_le ht hp
  have w1 := tkN_gt ht hp (by omega)
  have wl : (P ++ W).length = P.length + W.length := List.length_append
  obtain ⟨le', ri', st', ej, hL'⟩ := e4_joined (b := b) (by omega) (by omega) hW0 hP hW hL (by omega)
  have ew := e4_await (show W.length < 200 by omega) b wt
  obtain ⟨y1, y2, y3, y4, y5, y6, hI1, eq1⟩ := m_go (cnt := cnt) (be := be) (de := de) (ki := ki) (kd := kd) (le := le) (ri := ri) (st := st) (siz := nI S.length) (wc := nI (P ++ W).length) (op := nI o) (ex := 5) (lf := lf) (sg := sg) (tk := tk) (ta := ta) (nu := nu) (wt := wt) (c' := cnt) (s' := nI (S ++ fl P).length) (be' := be) (de' := de) (ki' := ki) (le' := le') (ri' := ri') (st' := st') (wc' := nI (b :: W).length) (op' := nI o) (ex' := 2) (kd' := kd) (lf' := lf) (sg' := sg) (wt' := upd wt W.length (nI b)) hn ht hI (by omega) (fun nu' hv => by
    unfold f_X4_accepts f_X4_acceptsBehindOne f_X4_acceptsBehindOne_b18 f_X4_acceptsBehindOne_b32 f_X4_expect
    rw [if_neg (show ¬ (5 : Int32) = 0 by decide), if_neg (show ¬ (5 : Int32) = 1 by decide), if_neg (show ¬ (5 : Int32) = 2 by decide), if_neg (show ¬ (5 : Int32) = 3 by decide), if_neg (show ¬ (5 : Int32) = 4 by decide), if_pos (show (5 : Int32) = 5 from rfl)]
    rcases hb with ⟨rfl, hb⟩ | ⟨rfl, hb⟩
    · have ej' : f_X4_join 2 (nI S.length) le ri st (nI (P ++ W).length) wt = _ := ej
      have ew' : f_X4_await 2 (nI W.length) wt = _ := ew
      rw [if_pos (show nI (tkT t n p) = 10 by rw [hb]; rfl), if_pos (show nI (tkT t n p) = 10 by rw [hb]; rfl), ej', qb5, ew', qb2, qb2, qcB1, qb13, qcB1]
    · have ej' : f_X4_join 1 (nI S.length) le ri st (nI (P ++ W).length) wt = _ := ej
      have ew' : f_X4_await 1 (nI W.length) wt = _ := ew
      rw [if_neg (show ¬ nI (tkT t n p) = 10 by rw [hb]; decide), if_pos (show nI (tkT t n p) = 11 by rw [hb]; rfl), if_neg (show ¬ nI (tkT t n p) = 10 by rw [hb]; decide), ej', qb5, ew', qb2, qb2, qcB1, qb13, qcB1])
  rw [eq1]
  exact hok _ _ _ _ _ _ _ _ _ _ _ _ _ _ hI1 ⟨by
    rw [List.length_append, fl_len]
    have : (b :: W).length = W.length + 1 := rfl
    omega, rfl, rfl, hL', WS_push (WS_app P W hW)⟩
end EC2
