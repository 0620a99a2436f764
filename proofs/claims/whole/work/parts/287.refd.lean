/-! ===== E: the reference's conditions, whole ===== -/
abbrev Slf := Int32 → Int32 → Int32 → Int32 → Int32 → Int32 → Int32 → (Nat → Int32) → (Nat → Int32) → (Nat → Int32) → Option (Int32 × Int32 × Int32 × Int32 × Int32 × Int32 × Int32 × (Nat → Int32))
def HS (self : Slf) (G : Nat → Nat → GR) (t : Nat → Nat) (n : Nat) (tp le : Nat → Int32) (o : Nat) : Prop := o < 3 → ∀ p, p ≤ n → ∀ (a b k v : Int32) (c : Nat) (g : Nat → Int32), RS t n p a b k v → c ≤ p → RO t n (G (o + 1) p) (self (nI n) a b k v (nI (o + 1)) (nI c) g le tp) (o + 1) c g
def HP (G : Nat → Nat → GR) (n o : Nat) : Prop := o < 3 → ∀ p, p ≤ n → PR n p (2 * (o + 1)) (G (o + 1) p)
def rN (j : Nat) : List RStp := List.replicate j (3, 0, 0)
theorem bndG_rN (x : GR) (j : Nat) : bndG (bndG x (fun S q => .ok (S ++ [(3, 0, 0)], q))) (fun S q => .ok (S ++ rN j, q)) = bndG x (fun S q => .ok (S ++ rN (j + 1), q)) := by
  match x with
  | .error e => rfl
  | .ok (S, q) =>
    show Except.ok (S ++ [(3, 0, 0)] ++ rN j, q) = Except.ok (S ++ rN (j + 1), q)
    rw [List.append_assoc]; rfl
theorem bndG_r0 (x : GR) : bndG x (fun S q => .ok (S ++ rN 0, q)) = x := by
  match x with
  | .error e => rfl
  | .ok (S, q) =>
    show Except.ok (S ++ [], q) = Except.ok (S, q)
    rw [List.append_nil]
section EM8
variable {tp le : Nat → Int32} {t : Nat → Nat} {n o c : Nat} {self : Slf} {G : Nat → Nat → GR}
theorem e9_within (hn : n ≤ 200) (ht : ∀ k, k < n → tp k = nI (t k) ∧ t k < 256) (hl : InL le) (ho : o ≤ 3) (hs : HS self G t n tp le o) (hP : HP G n o) {p : Nat} (hp : p ≤ n) {a b k v : Int32} {g : Nat → Int32} (h : RS t n p a b k v) (hc : c ≤ p) (hT : tkT t n p ≠ 19) : RO t n (gWithin G t n o p) (f_X9_readsWithin self (nI n) a b k v (nI o) (nI c) g le tp) o c g := by
  unfold gWithin f_X9_readsWithin
  by_cases o3 : o = 3
  · rw [if_pos o3, if_pos (show nI o = 3 by rw [o3]; rfl)]
    exact RO_e a k v (nI o) (nI c) g (by rw [h.2.1])
  · have m1 := tkN_le ht hp
    have w1 := tkN_gt ht hp hT
    obtain ⟨a1, b1, k1, v1, e, h1⟩ := e9_nx hn ht hl m1 v
    rw [if_neg o3, if_neg (show ¬ nI o = 3 by rw [ql3, q_eq (by omega) (by decide)]; exact o3), show nI o + 1 = nI (o + 1) from q_add o 1, qt1, h.1, e, qb4]
    have r := hs (by omega) _ m1 a1 b1 k1 v1 c g h1 (by omega)
    have r2 := hP (by omega) _ m1
    match ex : G (o + 1) (tkN t n p) with
    | .error e =>
      rw [ex] at r
      obtain ⟨y1, y2, y3, y4, y5, y6, er⟩ := r.1 e rfl
      rw [er, qb8, if_pos rfl, bndG_e]
      exact RO_e y1 y2 y3 y4 y5 y6 rfl
    | .ok (S, q) =>
      rw [ex] at r r2
      obtain ⟨y1, y2, y3, y4, y5, er, h2, h3⟩ := r.2 S q rfl
      obtain ⟨-, hq, -⟩ := r2.2 S q rfl
      rw [er, qb8, if_neg n10, bndG_o]
      obtain ⟨l1, l2⟩ := tk_lt ht hq
      obtain ⟨-, -, -, -, t41, -⟩ := t9_tab _ l1 l2
      by_cases c2 : tkT t n q = 297
      · obtain ⟨z1, z2, z3, z4, ez, h4⟩ := e9_takes_y hn ht hl hq h2 (c := 241) (by rw [h2.2.2.1]; exact t41.mpr c2)
        rw [ez, qb5, if_neg n10, show nI (o + 1) - 1 = nI o from nI_pred o, qt1, if_pos c2]
        exact RO_o z1 z2 z3 z4 y5 rfl h4 h3
      · rw [e9_takes_n (c := 241) (by rw [h2.2.2.1]; exact fun z => c2 (t41.mp z)), qb5, if_pos rfl, if_neg c2]
        exact RO_e y1 y3 y4 _ _ _ (by rw [h2.2.1])
theorem e9_nots {a b k v op : Int32} {j : Nat} (hj : j < 1000) : ∀ (d m i c : Nat) (g : Nat → Int32), i + d = j → d < m → c + d ≤ 200 → ∃ g', f_X9_readsOne_L41 m (nI j) 1 (nI i) a b k v op (nI c) g = some (1, a, b, k, v, op, nI (c + (codes (rN d)).length), g') ∧ LY g' g c (codes (rN d)) := by
  intro d
  induction d with
  | zero =>
    intro m i c g hi hm hc
    obtain ⟨m, rfl⟩ : ∃ x, m = x + 1 := ⟨m - 1, by omega⟩
    rw [f_X9_readsOne_L41, if_pos (nI_le (by omega) (by omega)), qcB1]
    exact ⟨g, rfl, LY_nil g c⟩
  | succ d ih =>
    intro m i c g hi hm hc
    obtain ⟨m, rfl⟩ : ∃ x, m = x + 1 := ⟨m - 1, by omega⟩
    obtain ⟨g', e, h⟩ := ih m (i + 1) (c + 1) (upd g c (nI 10015)) (by omega) (by omega) (by omega)
    have ec : codes (rN (d + 1)) = [10015] ++ codes (rN d) := rfl
    rw [f_X9_readsOne_L41, if_neg (nI_ge (by omega) (by omega)), if_neg n10, e9_lays (by omega), qb2, show nI i + 1 = nI (i + 1) from q_add i 1, qt1, ql10015, e, ec]
    refine ⟨g', ?_, LY_app (LY_one g c 10015) h⟩
    rw [List.length_append, ← Nat.add_assoc]
    rfl
theorem e9_nots0 {a b k v op s v1 v3 : Int32} {m : Nat} {g : Nat → Int32} : f_X9_readsOne_L41 (m + 1) v1 0 v3 a b k v op s g = some (0, a, b, k, v, op, s, g) := by
  rw [f_X9_readsOne_L41]
  by_cases c : v1 ≤ v3
  · rw [if_pos c, qcB0]
  · rw [if_neg c, if_pos rfl, qcB0]
theorem e9_oneL (hn : n ≤ 200) (ht : ∀ k, k < n → tp k = nI (t k) ∧ t k < 256) (hl : InL le) (ho : o ≤ 3) (hs : HS self G t n tp le o) (hP : HP G n o) {g : Nat → Int32} : ∀ (d m j p : Nat) (a b k v : Int32), p ≤ n → n < p + d → d ≤ m → c + j ≤ p → RS t n p a b k v → RO t n (bndG (gOne G t n o d p) (fun S q => .ok (S ++ rN j, q))) (f_X9_readsOne_L2 self (nI n) (nI o) (nI c) g le tp m (nI j) a b k v) o c g := by
  intro d
  induction d with
  | zero => intro m j p a b k v hp h1; omega
  | succ d ih =>
    intro m j p a b k v hp h1 h2 h3 h
    obtain ⟨m, rfl⟩ : ∃ x, m = x + 1 := ⟨m - 1, by omega⟩
    obtain ⟨l1, l2⟩ := tk_lt ht hp
    obtain ⟨t10, -, -, t40, -⟩ := t9_tab _ l1 l2
    have hPR := gOne_ok (fun k hk => (ht k hk).2) ho hP (d + 1) p hp
    rw [f_X9_readsOne_L2]
    rw [gOne] at hPR ⊢
    by_cases c1 : tkT t n p = 12
    · have m1 := tkN_le ht hp
      have w1 := tkN_gt ht hp (by omega)
      obtain ⟨z1, z2, z3, z4, ez, h4⟩ := e9_takes_y hn ht hl hp h (c := 10) (by rw [h.2.2.1]; exact t10.mpr c1)
      rw [ez, qb5, if_neg n10, show nI j + 1 = nI (j + 1) from q_add j 1, qt1, if_pos c1, bndG_rN]
      exact ih m (j + 1) _ z1 z2 z3 z4 m1 (by omega) (by omega) (by omega) h4
    · rw [if_neg c1] at hPR ⊢
      rw [e9_takes_n (c := 10) (by rw [h.2.2.1]; exact fun z => c1 (t10.mp z)), qb5, if_pos rfl]
      unfold f_X9_readsOne_b17
      by_cases c2 : tkT t n p = 296
      · rw [if_pos c2] at hPR ⊢
        have r := e9_within hn ht hl ho hs hP hp (g := g) h (show c ≤ p by omega) (by omega)
        rw [if_pos (show k = 240 by rw [h.2.2.1]; exact t40.mpr c2)]
        match ex : gWithin G t n o p with
        | .error e =>
          rw [ex] at r
          obtain ⟨y1, y2, y3, y4, y5, y6, er⟩ := r.1 e rfl
          rw [er, qb8, bndG_e]
          exact RO_e y1 y2 y3 y4 y5 y6 e9_nots0
        | .ok (S, q) =>
          rw [ex] at r hPR
          obtain ⟨y1, y2, y3, y4, y5, er, h4, h5⟩ := r.2 S q rfl
          obtain ⟨q1, q2, -⟩ := hPR.2 S q rfl
          rw [er, qb8, bndG_o]
          obtain ⟨g', e', h'⟩ := e9_nots (a := y1) (b := y2) (k := y3) (v := y4) (op := nI o) (j := j) (by omega) j 1000 0 (c + (codes S).length) y5 (by omega) (by omega) (by omega)
          refine RO_o y1 y2 y3 y4 g' ?_ h4 (by rw [codes_app]; exact LY_app h5 h')
          rw [codes_app, List.length_append, ← Nat.add_assoc]
          exact e'
      · rw [if_neg c2] at hPR ⊢
        have r := e9_like hn ht hl hp (g := g) h (show c ≤ p by omega)
        rw [if_neg (show ¬ k = 240 by rw [h.2.2.1]; exact fun z => c2 (t40.mp z))]
        match ex : gLike t n p with
        | .error e =>
          rw [ex] at r
          obtain ⟨y1, y2, y3, y4, y5, er⟩ := r.1 e rfl
          rw [er, qb7, bndG_e]
          exact RO_e y1 y2 y3 (nI o) y4 y5 e9_nots0
        | .ok (S, q) =>
          rw [ex] at r hPR
          obtain ⟨y1, y2, y3, y4, y5, er, h4, h5⟩ := r.2 S q rfl
          obtain ⟨q1, q2, -⟩ := hPR.2 S q rfl
          rw [er, qb7, bndG_o]
          obtain ⟨g', e', h'⟩ := e9_nots (a := y1) (b := y2) (k := y3) (v := y4) (op := nI o) (j := j) (by omega) j 1000 0 (c + (codes S).length) y5 (by omega) (by omega) (by omega)
          refine RO_o y1 y2 y3 y4 g' ?_ h4 (by rw [codes_app]; exact LY_app h5 h')
          rw [codes_app, List.length_append, ← Nat.add_assoc]
          exact e'
theorem e9_one (hn : n ≤ 200) (ht : ∀ k, k < n → tp k = nI (t k) ∧ t k < 256) (hl : InL le) (ho : o ≤ 3) (hs : HS self G t n tp le o) (hP : HP G n o) {g : Nat → Int32} {p : Nat} {a b k v : Int32} (hp : p ≤ n) (hc : c ≤ p) (h : RS t n p a b k v) : RO t n (gOne G t n o (n + 1) p) (f_X9_readsOne self (nI n) a b k v (nI o) (nI c) g le tp) o c g := by
  have := e9_oneL hn ht hl ho hs hP (c := c) (g := g) (n + 1) 1000 0 p a b k v hp (by omega) (by omega) (by omega) h
  rw [bndG_r0] at this
  exact this
theorem e9_allL (hn : n ≤ 200) (ht : ∀ k, k < n → tp k = nI (t k) ∧ t k < 256) (hl : InL le) (ho : o ≤ 3) (hs : HS self G t n tp le o) (hP : HP G n o) {g0 : Nat → Int32} : ∀ (d m : Nat) (S : List RStp) (p : Nat) (a b k v : Int32) (g : Nat → Int32), p ≤ n → n < p + d → d ≤ m → c + (codes S).length ≤ p → RS t n p a b k v → LY g g0 c (codes S) → RO t n (gAllL G t n o d S p) (f_X9_readsAll_L5 self (nI n) le tp m 1 a b k v (nI o) (nI (c + (codes S).length)) g) o c g0 := by
  intro d
  induction d with
  | zero => intro m S p a b k v g hp h1; omega
  | succ d ih =>
    intro m S p a b k v g hp h1 h2 h3 h hL
    obtain ⟨m, rfl⟩ : ∃ x, m = x + 1 := ⟨m - 1, by omega⟩
    obtain ⟨l1, l2⟩ := tk_lt ht hp
    obtain ⟨-, t11, -⟩ := t9_tab _ l1 l2
    rw [f_X9_readsAll_L5, gAllL, if_neg n10]
    by_cases c1 : tkT t n p = 10
    · have m1 := tkN_le ht hp
      have w1 := tkN_gt ht hp (by omega)
      obtain ⟨z1, z2, z3, z4, ez, h4⟩ := e9_takes_y hn ht hl hp h (c := 11) (by rw [h.2.2.1]; exact t11.mpr c1)
      rw [ez, qb5, if_neg n10, if_pos c1]
      have r := e9_one hn ht hl ho hs hP (c := c + (codes S).length) (g := g) m1 (by omega) h4
      have hPR := gOne_ok (fun k hk => (ht k hk).2) ho hP (n + 1) _ m1
      match ex : gOne G t n o (n + 1) (tkN t n p) with
      | .error e =>
        rw [ex] at r
        obtain ⟨y1, y2, y3, y4, y5, y6, er⟩ := r.1 e rfl
        obtain ⟨m, rfl⟩ : ∃ x, m = x + 1 := ⟨m - 1, by omega⟩
        rw [er, qb8, if_pos rfl, bndG_e, f_X9_readsAll_L5, if_pos rfl, qcB0]
        exact RO_e y1 y2 y3 y4 y5 y6 rfl
      | .ok (S', q) =>
        rw [ex] at r hPR
        obtain ⟨y1, y2, y3, y4, y5, er, h5, h6⟩ := r.2 S' q rfl
        obtain ⟨q1, q2, -⟩ := hPR.2 S' q rfl
        rw [er, qb8, if_neg n10, bndG_o, e9_lays (by omega), qb2]
        have el : c + (codes (S ++ S' ++ [((2, 0, 0) : RStp)])).length = c + (codes S).length + (codes S').length + 1 := by
          rw [codes_app, codes_app, List.length_append, List.length_append, show (codes [((2, 0, 0) : RStp)]).length = 1 from rfl]
          omega
        have := ih m (S ++ S' ++ [(2, 0, 0)]) q y1 y2 y3 y4 (upd y5 (c + (codes S).length + (codes S').length) (nI 10013)) q2 (by omega) (by omega) (by omega) h5 (by
          rw [codes_app, codes_app]
          refine LY_app (LY_app hL h6) ?_
          rw [List.length_append, ← Nat.add_assoc]
          exact LY_one _ _ 10013)
        rw [el] at this
        exact this
    · rw [e9_takes_n (c := 11) (by rw [h.2.2.1]; exact fun z => c1 (t11.mp z)), qb5, if_pos rfl, qcB1, if_neg c1]
      exact RO_o a b k v g rfl h hL
theorem e9_all (hn : n ≤ 200) (ht : ∀ k, k < n → tp k = nI (t k) ∧ t k < 256) (hl : InL le) (ho : o ≤ 3) (hs : HS self G t n tp le o) (hP : HP G n o) {g : Nat → Int32} {p : Nat} {a b k v : Int32} (hp : p ≤ n) (hc : c ≤ p) (h : RS t n p a b k v) : RO t n (gAll G t n o p) (f_X9_readsAll self (nI n) a b k v (nI o) (nI c) g le tp) o c g := by
  unfold gAll f_X9_readsAll
  have r := e9_one hn ht hl ho hs hP (c := c) (g := g) hp hc h
  have hPR := gOne_ok (fun k hk => (ht k hk).2) ho hP (n + 1) _ hp
  match ex : gOne G t n o (n + 1) p with
  | .error e =>
    rw [ex] at r
    obtain ⟨y1, y2, y3, y4, y5, y6, er⟩ := r.1 e rfl
    rw [er, qb8, bndG_e, f_X9_readsAll_L5, if_pos rfl, qcB0]
    exact RO_e y1 y2 y3 y4 y5 y6 rfl
  | .ok (S, q) =>
    rw [ex] at r hPR
    obtain ⟨y1, y2, y3, y4, y5, er, h5, h6⟩ := r.2 S q rfl
    obtain ⟨q1, q2, -⟩ := hPR.2 S q rfl
    rw [er, qb8, bndG_o]
    exact e9_allL hn ht hl ho hs hP (n + 1) 1000 S q y1 y2 y3 y4 y5 q2 (by omega) (by omega) (by omega) h5 h6
theorem e9_cndL (hn : n ≤ 200) (ht : ∀ k, k < n → tp k = nI (t k) ∧ t k < 256) (hl : InL le) (ho : o ≤ 3) (hs : HS self G t n tp le o) (hP : HP G n o) {g0 : Nat → Int32} : ∀ (d m : Nat) (S : List RStp) (p : Nat) (a b k v : Int32) (g : Nat → Int32), p ≤ n → n < p + d → d ≤ m → c + (codes S).length ≤ p → RS t n p a b k v → LY g g0 c (codes S) → RO t n (gCndL G t n o d S p) (f_X9_readsCondition_L5 self (nI n) le tp m 1 a b k v (nI o) (nI (c + (codes S).length)) g) o c g0 := by
  intro d
  induction d with
  | zero => intro m S p a b k v g hp h1; omega
  | succ d ih =>
    intro m S p a b k v g hp h1 h2 h3 h hL
    obtain ⟨m, rfl⟩ : ∃ x, m = x + 1 := ⟨m - 1, by omega⟩
    obtain ⟨l1, l2⟩ := tk_lt ht hp
    obtain ⟨-, -, t12, -⟩ := t9_tab _ l1 l2
    rw [f_X9_readsCondition_L5, gCndL, if_neg n10]
    by_cases c1 : tkT t n p = 11
    · have m1 := tkN_le ht hp
      have w1 := tkN_gt ht hp (by omega)
      obtain ⟨z1, z2, z3, z4, ez, h4⟩ := e9_takes_y hn ht hl hp h (c := 12) (by rw [h.2.2.1]; exact t12.mpr c1)
      rw [ez, qb5, if_neg n10, if_pos c1]
      have r := e9_all hn ht hl ho hs hP (c := c + (codes S).length) (g := g) m1 (by omega) h4
      have hPR := gAll_ok (fun k hk => (ht k hk).2) ho hP m1
      match ex : gAll G t n o (tkN t n p) with
      | .error e =>
        rw [ex] at r
        obtain ⟨y1, y2, y3, y4, y5, y6, er⟩ := r.1 e rfl
        obtain ⟨m, rfl⟩ : ∃ x, m = x + 1 := ⟨m - 1, by omega⟩
        rw [er, qb8, if_pos rfl, bndG_e, f_X9_readsCondition_L5, if_pos rfl, qcB0]
        exact RO_e y1 y2 y3 y4 y5 y6 rfl
      | .ok (S', q) =>
        rw [ex] at r hPR
        obtain ⟨y1, y2, y3, y4, y5, er, h5, h6⟩ := r.2 S' q rfl
        obtain ⟨q1, q2, -⟩ := hPR.2 S' q rfl
        rw [er, qb8, if_neg n10, bndG_o, e9_lays (by omega), qb2]
        have el : c + (codes (S ++ S' ++ [((1, 0, 0) : RStp)])).length = c + (codes S).length + (codes S').length + 1 := by
          rw [codes_app, codes_app, List.length_append, List.length_append, show (codes [((1, 0, 0) : RStp)]).length = 1 from rfl]
          omega
        have := ih m (S ++ S' ++ [(1, 0, 0)]) q y1 y2 y3 y4 (upd y5 (c + (codes S).length + (codes S').length) (nI 10014)) q2 (by omega) (by omega) (by omega) h5 (by
          rw [codes_app, codes_app]
          refine LY_app (LY_app hL h6) ?_
          rw [List.length_append, ← Nat.add_assoc]
          exact LY_one _ _ 10014)
        rw [el] at this
        exact this
    · rw [e9_takes_n (c := 12) (by rw [h.2.2.1]; exact fun z => c1 (t12.mp z)), qb5, if_pos rfl, qcB1, if_neg c1]
      exact RO_o a b k v g rfl h hL
theorem e9_cnd (hn : n ≤ 200) (ht : ∀ k, k < n → tp k = nI (t k) ∧ t k < 256) (hl : InL le) (ho : o ≤ 3) (hs : HS self G t n tp le o) (hP : HP G n o) {g : Nat → Int32} {p : Nat} {a b k v : Int32} (hp : p ≤ n) (hc : c ≤ p) (h : RS t n p a b k v) : RO t n (gCnd G t n o p) (f_X9_readsCondition self (nI n) a b k v (nI o) (nI c) g le tp) o c g := by
  unfold gCnd f_X9_readsCondition
  have r := e9_all hn ht hl ho hs hP (c := c) (g := g) hp hc h
  have hPR := gAll_ok (fun k hk => (ht k hk).2) ho hP hp
  match ex : gAll G t n o p with
  | .error e =>
    rw [ex] at r
    obtain ⟨y1, y2, y3, y4, y5, y6, er⟩ := r.1 e rfl
    rw [er, qb8, bndG_e, f_X9_readsCondition_L5, if_pos rfl, qcB0]
    exact RO_e y1 y2 y3 y4 y5 y6 rfl
  | .ok (S, q) =>
    rw [ex] at r hPR
    obtain ⟨y1, y2, y3, y4, y5, er, h5, h6⟩ := r.2 S q rfl
    obtain ⟨q1, q2, -⟩ := hPR.2 S q rfl
    rw [er, qb8, bndG_o]
    exact e9_cndL hn ht hl ho hs hP (n + 1) 1000 S q y1 y2 y3 y4 y5 q2 (by omega) (by omega) (by omega) h5 h6
theorem e9_cond (hn : n ≤ 200) (ht : ∀ k, k < n → tp k = nI (t k) ∧ t k < 256) (hl : InL le) : ∀ d o, o ≤ 3 → 4 ≤ d + o → ∀ p, p ≤ n → ∀ (a b k v : Int32) (c : Nat) (g : Nat → Int32), RS t n p a b k v → c ≤ p → RO t n (gC t n d o p) (F_X9_readsCondition d (nI n) a b k v (nI o) (nI c) g le tp) o c g := by
  intro d
  induction d with
  | zero => intro o ho h; omega
  | succ d ih =>
    intro o ho h4 p hp a b k v c g h hc
    rw [gC, F_X9_readsCondition]
    exact e9_cnd hn ht hl ho (fun h3 p hp a b k v c g h hc => ih (o + 1) (by omega) (by omega) p hp a b k v c g h hc) (fun h3 p hp => gC_ok (fun k hk => (ht k hk).2) d (o + 1) (by omega) p hp) hp hc h
end EM8
