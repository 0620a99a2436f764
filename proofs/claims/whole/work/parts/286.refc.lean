/-! ===== E: the reference reads conditions as the grammar does ===== -/
theorem t9_tab0 : ∀ T, T < 512 → (T < 21 ∨ 256 ≤ T) → ((t9 T = 10 ↔ T = 12) ∧ (t9 T = 11 ↔ T = 10) ∧ (t9 T = 12 ↔ T = 11)) := by decide +kernel
theorem t9_tab1 : ∀ T, T < 512 → (T < 21 ∨ 256 ≤ T) → ((t9 T = 240 ↔ T = 296) ∧ (t9 T = 241 ↔ T = 297) ∧ (t9 T = 260 ↔ T = 316)) := by decide +kernel
theorem t9_tab2 : ∀ T, T < 512 → (T < 21 ∨ 256 ≤ T) → ((t9 T = 261 ↔ T = 317) ∧ (t9 T = 262 ↔ T = 318) ∧ (t9 T = 259 ↔ T = 315)) := by decide +kernel
theorem t9_tab3 : ∀ T, T < 512 → (T < 21 ∨ 256 ≤ T) → ((t9 T = 9 ↔ T = 9) ∧ (t9 T = -1 ↔ T = 19) ∧ (t9 T = 100 ↔ T = 18)) := by decide +kernel
theorem t9_tab : ∀ T, T < 512 → (T < 21 ∨ 256 ≤ T) → ((t9 T = 10 ↔ T = 12) ∧ (t9 T = 11 ↔ T = 10) ∧ (t9 T = 12 ↔ T = 11) ∧ (t9 T = 240 ↔ T = 296) ∧ (t9 T = 241 ↔ T = 297) ∧ (t9 T = 260 ↔ T = 316) ∧ (t9 T = 261 ↔ T = 317) ∧ (t9 T = 262 ↔ T = 318) ∧ (t9 T = 259 ↔ T = 315) ∧ (t9 T = 9 ↔ T = 9) ∧ (t9 T = -1 ↔ T = 19) ∧ (t9 T = 100 ↔ T = 18)) := fun T h1 h2 => by
  obtain ⟨a1, a2, a3⟩ := t9_tab0 T h1 h2
  obtain ⟨b1, b2, b3⟩ := t9_tab1 T h1 h2
  obtain ⟨c1, c2, c3⟩ := t9_tab2 T h1 h2
  obtain ⟨d1, d2, d3⟩ := t9_tab3 T h1 h2
  exact ⟨a1, a2, a3, b1, b2, b3, c1, c2, c3, d1, d2, d3⟩
theorem t9_in : ∀ T, T < 512 → (T < 21 ∨ 256 ≤ T) → (f_X9_in1 (t9 T) 13 17 = some (if 13 ≤ T ∧ T ≤ 17 then 1 else 0) ∧ f_X9_in1 (t9 T) 0 5 = some (if T ≤ 5 then 1 else 0) ∧ f_X9_in1 (t9 T) 6 8 = some (if 6 ≤ T ∧ T ≤ 8 then 1 else 0)) := by decide +kernel
theorem t9_id : ∀ T, T < 18 → (T < 10 ∨ 12 < T) → t9 T = nI T := by decide +kernel
def RS (t : Nat → Nat) (n p : Nat) (aT be tk va : Int32) : Prop := aT = nI (tkN t n p) ∧ be = nI (tkB t n p) ∧ tk = t9 (tkT t n p) ∧ (tkT t n p = 18 → va = nI (tkW t n p))
def LY (g g0 : Nat → Int32) (c : Nat) (L : List Nat) : Prop := (∀ i, i < c → g i = g0 i) ∧ ∀ i (h : i < L.length), g (c + i) = nI L[i]
theorem LY_nil (g : Nat → Int32) (c : Nat) : LY g g c [] := ⟨fun _ _ => rfl, fun i h => absurd h (Nat.not_lt_zero i)⟩
theorem LY_one (g : Nat → Int32) (c x : Nat) : LY (upd g c (nI x)) g c [x] := by
  refine ⟨fun i hi => ?_, fun i h => ?_⟩
  · unfold upd; rw [if_neg (by omega)]
  · have : i = 0 := by rw [List.length_singleton] at h; omega
    subst this
    unfold upd; rw [if_pos (Nat.add_zero c)]; rfl
theorem LY_app {g0 g1 g2 : Nat → Int32} {c : Nat} {L1 L2 : List Nat} (h1 : LY g1 g0 c L1) (h2 : LY g2 g1 (c + L1.length) L2) : LY g2 g0 c (L1 ++ L2) := by
  refine ⟨fun i hi => (h2.1 i (by omega)).trans (h1.1 i hi), fun i h => ?_⟩
  rw [List.length_append] at h
  by_cases d : i < L1.length
  · rw [List.getElem_append_left d, h2.1 _ (by omega)]; exact h1.2 i d
  · rw [List.getElem_append_right (by omega)]
    have := h2.2 (i - L1.length) (by omega)
    rw [show c + L1.length + (i - L1.length) = c + i by omega] at this
    exact this
theorem e9_lays {c : Nat} (hc : c < 200) (x : Int32) (g : Nat → Int32) : f_X9_lays x (nI c) g = some (nI (c + 1), upd g c x) := by
  unfold f_X9_lays
  rw [qcI hc (by decide), show nI c + 1 = nI (c + 1) from q_add c 1, qt1, q_cl (by omega)]
def RO7 (t : Nat → Nat) (n : Nat) (x : GR) (out : Option (Int32 × Int32 × Int32 × Int32 × Int32 × Int32 × (Nat → Int32))) (c : Nat) (g0 : Nat → Int32) : Prop := (∀ e, x = .error e → ∃ a k v s g, out = some (0, a, nI e, k, v, s, g)) ∧ ∀ S q, x = .ok (S, q) → ∃ a b k v g, out = some (1, a, b, k, v, nI (c + (codes S).length), g) ∧ RS t n q a b k v ∧ LY g g0 c (codes S)
def RO (t : Nat → Nat) (n : Nat) (x : GR) (out : Option (Int32 × Int32 × Int32 × Int32 × Int32 × Int32 × Int32 × (Nat → Int32))) (o c : Nat) (g0 : Nat → Int32) : Prop := (∀ e, x = .error e → ∃ a k v op s g, out = some (0, a, nI e, k, v, op, s, g)) ∧ ∀ S q, x = .ok (S, q) → ∃ a b k v g, out = some (1, a, b, k, v, nI o, nI (c + (codes S).length), g) ∧ RS t n q a b k v ∧ LY g g0 c (codes S)
section EM7
variable {tp le : Nat → Int32} {t : Nat → Nat} {n : Nat}
theorem RO7_e {e c : Nat} {out : Option (Int32 × Int32 × Int32 × Int32 × Int32 × Int32 × (Nat → Int32))} {g0 : Nat → Int32} (a k v s : Int32) (g : Nat → Int32) (h : out = some (0, a, nI e, k, v, s, g)) : RO7 t n (.error e) out c g0 := ⟨fun e' h' => by injection h' with h'; subst h'; exact ⟨a, k, v, s, g, h⟩, fun S q h' => by injection h'⟩
theorem RO7_o {S : List RStp} {q c : Nat} {out : Option (Int32 × Int32 × Int32 × Int32 × Int32 × Int32 × (Nat → Int32))} {g0 : Nat → Int32} (a b k v : Int32) (g : Nat → Int32) (h : out = some (1, a, b, k, v, nI (c + (codes S).length), g)) (h2 : RS t n q a b k v) (h3 : LY g g0 c (codes S)) : RO7 t n (.ok (S, q)) out c g0 := ⟨fun e' h' => by injection h', fun S' q' h' => by injection h' with h'; injection h' with x y; subst x; subst y; exact ⟨a, b, k, v, g, h, h2, h3⟩⟩
theorem RO_e {e o c : Nat} {out : Option (Int32 × Int32 × Int32 × Int32 × Int32 × Int32 × Int32 × (Nat → Int32))} {g0 : Nat → Int32} (a k v op s : Int32) (g : Nat → Int32) (h : out = some (0, a, nI e, k, v, op, s, g)) : RO t n (.error e) out o c g0 := ⟨fun e' h' => by injection h' with h'; subst h'; exact ⟨a, k, v, op, s, g, h⟩, fun S q h' => by injection h'⟩
theorem RO_o {S : List RStp} {q o c : Nat} {out : Option (Int32 × Int32 × Int32 × Int32 × Int32 × Int32 × Int32 × (Nat → Int32))} {g0 : Nat → Int32} (a b k v : Int32) (g : Nat → Int32) (h : out = some (1, a, b, k, v, nI o, nI (c + (codes S).length), g)) (h2 : RS t n q a b k v) (h3 : LY g g0 c (codes S)) : RO t n (.ok (S, q)) out o c g0 := ⟨fun e' h' => by injection h', fun S' q' h' => by injection h' with h'; injection h' with x y; subst x; subst y; exact ⟨a, b, k, v, g, h, h2, h3⟩⟩
theorem tk_lt (ht : ∀ k, k < n → tp k = nI (t k) ∧ t k < 256) {p : Nat} (hp : p ≤ n) : tkT t n p < 512 ∧ (tkT t n p < 21 ∨ 256 ≤ tkT t n p) := by
  obtain ⟨h, -⟩ := lex_ok (t := t) (fun k hk => (ht k hk).2) hp
  omega
theorem e9_nx (hn : n ≤ 200) (ht : ∀ k, k < n → tp k = nI (t k) ∧ t k < 256) (hl : InL le) {p : Nat} (hp : p ≤ n) (val : Int32) : ∃ a b k v, f_X9_next (nI n) (nI p) val le tp = some (a, b, k, v) ∧ RS t n p a b k v := by
  obtain ⟨v, e, h⟩ := e9_next hn ht hl val hp
  exact ⟨_, _, _, v, e, rfl, rfl, rfl, h⟩
theorem tkN_le (ht : ∀ k, k < n → tp k = nI (t k) ∧ t k < 256) {p : Nat} (hp : p ≤ n) : tkN t n p ≤ n := (lex_ok (t := t) (fun k hk => (ht k hk).2) hp).2.2.2.2.1
theorem tkN_gt (ht : ∀ k, k < n → tp k = nI (t k) ∧ t k < 256) {p : Nat} (hp : p ≤ n) (h : tkT t n p ≠ 19) : p + 1 ≤ tkN t n p := (lex_ok (t := t) (fun k hk => (ht k hk).2) hp).2.2.2.2.2.1 h
theorem e9_takes_y (hn : n ≤ 200) (ht : ∀ k, k < n → tp k = nI (t k) ∧ t k < 256) (hl : InL le) {p : Nat} (hp : p ≤ n) {a b k v c : Int32} (h : RS t n p a b k v) (hk : k = c) : ∃ a' b' k' v', f_X9_takes c (nI n) a b k v le tp = some (1, a', b', k', v') ∧ RS t n (tkN t n p) a' b' k' v' := by
  obtain ⟨a', b', k', v', e, h'⟩ := e9_nx hn ht hl (tkN_le ht hp) v
  refine ⟨a', b', k', v', ?_, h'⟩
  unfold f_X9_takes f_X9_takes_b13
  rw [if_pos hk, if_neg n10, h.1, e, qb4, qcB1]
theorem e9_takes_n {a b k v c : Int32} (hk : ¬ k = c) : f_X9_takes c (nI n) a b k v le tp = some (0, a, b, k, v) := by
  unfold f_X9_takes f_X9_takes_b13
  rw [if_neg hk, if_pos rfl, qcB0]
theorem e9_value_n (ht : ∀ k, k < n → tp k = nI (t k) ∧ t k < 256) {p : Nat} (hp : p ≤ n) {a b k v st : Int32} {g : Nat → Int32} (h : RS t n p a b k v) (hv : vl t n p = none) : f_X9_readsValue (nI n) a b k v st g le tp = some (0, a, b, k, v, st, g) := by
  obtain ⟨l1, l2⟩ := tk_lt ht hp
  obtain ⟨-, -, -, -, -, -, -, -, -, -, -, t100⟩ := t9_tab _ l1 l2
  obtain ⟨i13, -, -⟩ := t9_in _ l1 l2
  unfold vl at hv
  by_cases c : tkT t n p = 18
  · rw [if_pos c] at hv; exact absurd hv (by simp)
  · rw [if_neg c] at hv
    by_cases d : 13 ≤ tkT t n p ∧ tkT t n p ≤ 17
    · rw [if_pos d] at hv; exact absurd hv (by simp)
    · unfold f_X9_readsValue f_X9_readsValue_b28
      rw [h.2.2.1, if_neg (fun z => c (t100.mp z)), i13, if_neg d, qb1, if_pos rfl, if_pos rfl, qcB0]
theorem e9_value_y (hn : n ≤ 200) (ht : ∀ k, k < n → tp k = nI (t k) ∧ t k < 256) (hl : InL le) {p : Nat} (hp : p ≤ n) {a b k v : Int32} {g : Nat → Int32} (h : RS t n p a b k v) {c x : Nat} (hc : c < 200) (hv : vl t n p = some x) : ∃ a' b' k' v', f_X9_readsValue (nI n) a b k v (nI c) g le tp = some (1, a', b', k', v', nI (c + 1), upd g c (nI x)) ∧ RS t n (tkN t n p) a' b' k' v' := by
  obtain ⟨l1, l2⟩ := tk_lt ht hp
  obtain ⟨-, -, -, -, -, -, -, -, -, -, -, t100⟩ := t9_tab _ l1 l2
  obtain ⟨i13, -, -⟩ := t9_in _ l1 l2
  obtain ⟨a', b', k', v', e, h'⟩ := e9_nx hn ht hl (tkN_le ht hp) v
  refine ⟨a', b', k', v', ?_, h'⟩
  unfold vl at hv
  unfold f_X9_readsValue f_X9_readsValue_b23 f_X9_readsValue_b28
  by_cases d : tkT t n p = 18
  · rw [if_pos d] at hv
    injection hv with hv
    have hk : k = 100 := by rw [h.2.2.1]; exact t100.mpr d
    rw [if_pos hk, if_neg n10, if_pos hk, e9_lays hc, qb2, h.1, e, qb4, qcB1, h.2.2.2 d, hv]
  · rw [if_neg d] at hv
    have hk : ¬ k = 100 := by rw [h.2.2.1]; exact fun z => d (t100.mp z)
    by_cases f : 13 ≤ tkT t n p ∧ tkT t n p ≤ 17
    · rw [if_pos f] at hv
      injection hv with hv
      have ek : k = nI (tkT t n p) := by rw [h.2.2.1]; exact t9_id _ (by omega) (by omega)
      have ei : f_X9_in1 k 13 17 = some 1 := by rw [h.2.2.1, i13, if_pos f]
      rw [if_neg hk, ei, qb1, if_neg n10, if_neg n10, if_neg hk, ek, ql10000, q_add, show (13 : Int32) = nI 13 from rfl, q_sub (by omega), e9_lays hc, qb2, h.1, e, qb4, qcB1, hv]
    · rw [if_neg f] at hv; exact absurd hv (by simp)
theorem e9_like (hn : n ≤ 200) (ht : ∀ k, k < n → tp k = nI (t k) ∧ t k < 256) (hl : InL le) {p : Nat} (hp : p ≤ n) {a b k v : Int32} {g : Nat → Int32} (h : RS t n p a b k v) {c : Nat} (hc : c ≤ p) : RO7 t n (gLike t n p) (f_X9_readsLike (nI n) a b k v (nI c) g le tp) c g := by
  unfold gLike f_X9_readsLike
  cases e1 : vl t n p with
  | none => exact RO7_e a k v (nI c) g (by rw [e9_value_n ht hp h e1, qb7, if_pos rfl, h.2.1])
  | some l =>
    have m1 := tkN_le ht hp
    have w1 := tkN_gt ht hp (vl_ok (fun k hk => (ht k hk).2) hp e1).2
    obtain ⟨a1, b1, k1, v1, e, h1⟩ := e9_value_y hn ht hl hp h (g := g) (show c < 200 by omega) e1
    dsimp only
    rw [e, qb7, if_neg n10]
    obtain ⟨l1, l2⟩ := tk_lt ht m1
    obtain ⟨-, -, -, -, -, t60, t61, t62, -, -, -, -⟩ := t9_tab _ l1 l2
    have go : ∀ s : Nat, sgn (tkT t n (tkN t n p)) = s → 4 ≤ s → s ≤ 6 → RO7 t n (match vl t n (tkN t n (tkN t n p)) with
        | none => .error (tkB t n (tkN t n (tkN t n p)))
        | some r => .ok ([(s, l, r)], tkN t n (tkN t n (tkN t n p)))) (f_X9_readsLike_b58 (nI n) le tp (nI (10006 + s)) a1 b1 k1 v1 (nI (c + 1)) (upd g c (nI l))) c g := by
      intro s hs s4 s6
      have m2 := tkN_le ht m1
      have w2 := tkN_gt ht m1 (sgn_ok (by omega)).2.2
      unfold f_X9_readsLike_b58
      obtain ⟨a2, b2, k2, v2, e2, h2⟩ := e9_nx hn ht hl m2 v1
      rw [if_neg (show ¬ nI (10006 + s) = 0 from nI_ne0 (by omega) (by omega)), h1.1, e2, qb4]
      cases e3 : vl t n (tkN t n (tkN t n p)) with
      | none => exact RO7_e a2 k2 v2 (nI (c + 1)) _ (by rw [e9_value_n ht m2 h2 e3, qb7, if_pos rfl, h2.2.1])
      | some r =>
        have m3 := tkN_le ht m2
        have w3 := tkN_gt ht m2 (vl_ok (fun k hk => (ht k hk).2) m2 e3).2
        obtain ⟨a3, b3, k3, v3, e4, h3⟩ := e9_value_y hn ht hl m2 h2 (g := upd g c (nI l)) (show c + 1 < 200 by omega) e3
        have ec : codes [(s, l, r)] = [l] ++ ([r] ++ [10006 + s]) := by rw [codes, codeOf, if_pos s4]; rfl
        refine RO7_o a3 b3 k3 v3 _ (by rw [e4, qb7, if_neg n10, e9_lays (show c + 1 + 1 < 200 by omega), qb2, ec]; rfl) h3 ?_
        rw [ec]
        exact LY_app (LY_one g c l) (LY_app (LY_one _ (c + 1) r) (LY_one _ (c + 1 + 1) (10006 + s)))
    have hk1 := h1.2.2.1
    by_cases c4 : tkT t n (tkN t n p) = 316
    · have es : sgn (tkT t n (tkN t n p)) = 4 := by unfold sgn; rw [if_pos c4]
      rw [if_pos (show k1 = 260 by rw [hk1]; exact t60.mpr c4), es, if_neg (by decide)]
      exact go 4 es (by decide) (by decide)
    · rw [if_neg (show ¬ k1 = 260 by rw [hk1]; exact fun z => c4 (t60.mp z))]
      by_cases c5 : tkT t n (tkN t n p) = 317
      · have es : sgn (tkT t n (tkN t n p)) = 5 := by unfold sgn; rw [if_neg c4, if_pos c5]
        rw [if_pos (show k1 = 261 by rw [hk1]; exact t61.mpr c5), es, if_neg (by decide)]
        exact go 5 es (by decide) (by decide)
      · rw [if_neg (show ¬ k1 = 261 by rw [hk1]; exact fun z => c5 (t61.mp z))]
        by_cases c6 : tkT t n (tkN t n p) = 318
        · have es : sgn (tkT t n (tkN t n p)) = 6 := by unfold sgn; rw [if_neg c4, if_neg c5, if_pos c6]
          rw [if_pos (show k1 = 262 by rw [hk1]; exact t62.mpr c6), es, if_neg (by decide)]
          exact go 6 es (by decide) (by decide)
        · have es : sgn (tkT t n (tkN t n p)) = 0 := by unfold sgn; rw [if_neg c4, if_neg c5, if_neg c6]
          rw [if_neg (show ¬ k1 = 262 by rw [hk1]; exact fun z => c6 (t62.mp z)), es, if_pos rfl]
          unfold f_X9_readsLike_b58
          rw [if_pos rfl]
          exact RO7_e a1 k1 v1 (nI (c + 1)) (upd g c (nI l)) (by rw [h1.2.1])
end EM7
