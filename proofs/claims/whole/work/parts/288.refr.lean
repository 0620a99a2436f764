/-! ===== E: the rules' grammar, and the reference's rules ===== -/
abbrev GX := Except Nat (RRul × Nat)
def gDo (t : Nat → Nat) (n kd : Nat) (S : List RStp) (q : Nat) : GX := if 6 ≤ tkT t n q ∧ tkT t n q ≤ 8 then (if tkT t n (tkN t n q) = 315 then .ok ((kd, tkT t n q - 6, S), tkN t n (tkN t n q)) else .error (tkB t n (tkN t n q))) else .error (tkB t n q)
def gRule (t : Nat → Nat) (n r p : Nat) : GX := if r = 8 ∨ 5 < tkT t n p then .error (tkB t n p) else if tkT t n (tkN t n p) = 9 then (match gC t n 6 0 (tkN t n (tkN t n p)) with
  | .error e => .error e
  | .ok (S, q) => gDo t n (tkT t n p) S q) else gDo t n (tkT t n p) [] (tkN t n p)
def gRules (t : Nat → Nat) (n : Nat) : Nat → List RRul → Nat → Except Nat (List RRul)
  | 0, _, _ => .error 0
  | d + 1, RL, p => if tkT t n p = 19 then .ok RL else match gRule t n RL.length p with
    | .error e => .error e
    | .ok (x, q) => gRules t n d (RL ++ [x]) q
def totC : List RRul → Nat
  | [] => 0
  | x :: t => (codes x.2.2).length + totC t
theorem totC_app : ∀ (L M : List RRul), totC (L ++ M) = totC L + totC M := by
  intro L
  induction L with
  | nil => intro M; exact (Nat.zero_add _).symm
  | cons x t ih => intro M; rw [List.cons_append, totC, totC, ih, Nat.add_assoc]
def PX (n p : Nat) (x : GX) : Prop := (∀ e, x = .error e → e ≤ n) ∧ ∀ y q, x = .ok (y, q) → p + (codes y.2.2).length + 1 ≤ q ∧ q ≤ n ∧ y.1 ≤ 5 ∧ y.2.1 ≤ 2 ∧ (y.2.2 = [] ∨ okS y.2.2 0)
theorem PX_e {n p e : Nat} (h : e ≤ n) : PX n p (.error e) := ⟨fun e' h' => by injection h' with h'; omega, fun S q h' => by injection h'⟩
theorem PX_o {n p q : Nat} {y : RRul} (h : p + (codes y.2.2).length + 1 ≤ q ∧ q ≤ n ∧ y.1 ≤ 5 ∧ y.2.1 ≤ 2 ∧ (y.2.2 = [] ∨ okS y.2.2 0)) : PX n p (.ok (y, q)) := ⟨fun e' h' => by injection h', fun S' q' h' => by injection h' with h'; injection h' with a b; subst a; subst b; exact h⟩
section EM9
variable {tp le : Nat → Int32} {t : Nat → Nat} {n : Nat}
theorem gDo_ok (ht : ∀ k, k < n → t k < 256) {kd p q : Nat} {S : List RStp} (hq : q ≤ n) (h1 : p + (codes S).length ≤ q) (h2 : kd ≤ 5) (h3 : S = [] ∨ okS S 0) : PX n p (gDo t n kd S q) := by
  obtain ⟨-, -, b1, -, n1, g1, -, -⟩ := lex_ok ht hq
  obtain ⟨-, -, b2, -, n2, g2, -, -⟩ := lex_ok ht n1
  unfold gDo
  by_cases c : 6 ≤ tkT t n q ∧ tkT t n q ≤ 8
  · rw [if_pos c]
    by_cases d : tkT t n (tkN t n q) = 315
    · rw [if_pos d]
      have := g1 (by omega)
      have := g2 (by omega)
      refine PX_o ⟨?_, n2, h2, ?_, h3⟩
      · show p + (codes S).length + 1 ≤ _
        omega
      · show tkT t n q - 6 ≤ 2
        omega
    · rw [if_neg d]; exact PX_e b2
  · rw [if_neg c]; exact PX_e b1
theorem gRule_ok (ht : ∀ k, k < n → t k < 256) {r p : Nat} (hp : p ≤ n) : PX n p (gRule t n r p) := by
  obtain ⟨-, -, b1, -, n1, g1, -, -⟩ := lex_ok ht hp
  obtain ⟨-, -, b2, -, n2, g2, -, -⟩ := lex_ok ht n1
  unfold gRule
  by_cases c : r = 8 ∨ 5 < tkT t n p
  · rw [if_pos c]; exact PX_e b1
  · rw [if_neg c]
    have := g1 (by omega)
    by_cases d : tkT t n (tkN t n p) = 9
    · rw [if_pos d]
      have := g2 (by omega)
      have h := gC_ok ht 6 0 (by decide) _ n2
      match ex : gC t n 6 0 (tkN t n (tkN t n p)) with
      | .error e => rw [ex] at h; exact PX_e (h.1 e rfl)
      | .ok (S, q) =>
        rw [ex] at h
        obtain ⟨h1, h2, h3⟩ := h.2 S q rfl
        have h4 := h3 0 (Nat.zero_le _) [] rfl
        rw [List.append_nil] at h4
        exact gDo_ok ht h2 (by omega) (by omega) (Or.inr h4)
    · rw [if_neg d]
      refine gDo_ok ht n1 ?_ (by omega) (Or.inl rfl)
      show p + 0 ≤ _
      omega
theorem gRule_len (ht : ∀ k, k < n → t k < 256) {r p q : Nat} {y : RRul} (h : gRule t n r p = .ok (y, q)) : r ≠ 8 := by
  intro h8
  unfold gRule at h
  rw [if_pos (Or.inl h8)] at h
  injection h
theorem gRules_ok (ht : ∀ k, k < n → t k < 256) : ∀ d RL p, p ≤ n → totC RL ≤ p → okR RL → RL.length ≤ 8 → (∀ e, gRules t n d RL p = .error e → e ≤ n) ∧ ∀ RL', gRules t n d RL p = .ok RL' → okR RL' ∧ RL'.length ≤ 8 ∧ totC RL' ≤ n := by
  intro d
  induction d with
  | zero => intro RL p _ _ _ _; exact ⟨fun e h => by injection h with h; omega, fun RL' h => by injection h⟩
  | succ d ih =>
    intro RL p hp h1 h2 h3
    rw [gRules]
    by_cases c : tkT t n p = 19
    · rw [if_pos c]
      exact ⟨fun e h => (by injection h), fun RL' h => (by injection h with h; subst h; exact ⟨h2, h3, by omega⟩)⟩
    · rw [if_neg c]
      have h := gRule_ok ht (r := RL.length) hp
      match ex : gRule t n RL.length p with
      | .error e =>
        rw [ex] at h
        exact ⟨fun e' h' => (by injection h' with h'; subst h'; exact h.1 _ rfl), fun RL' h' => (by injection h')⟩
      | .ok (x, q) =>
        have h8 := gRule_len ht ex
        rw [ex] at h
        obtain ⟨k1, k2, k3, k4, k5⟩ := h.2 x q rfl
        refine ih (RL ++ [x]) q k2 ?_ ?_ ?_
        · rw [totC_app]
          show totC RL + ((codes x.2.2).length + 0) ≤ q
          omega
        · intro r hr
          rcases List.mem_append.mp hr with hr | hr
          · exact h2 r hr
          · rw [List.mem_singleton.mp hr]; exact ⟨k3, k4, k5⟩
        · rw [List.length_append]
          show RL.length + 1 ≤ 8
          omega
def RX (t : Nat → Nat) (n : Nat) (x : GX) (out : Option (Int32 × Int32 × Int32 × Int32 × Int32 × Int32 × Int32 × (Nat → Int32) × (Nat → Int32))) (r c : Nat) (g0 h0 : Nat → Int32) : Prop := (∀ e, x = .error e → ∃ a k v op s g h, out = some (0, a, nI e, k, v, op, s, g, h)) ∧ ∀ y q, x = .ok (y, q) → ∃ a b k v op g h, out = some (1, a, b, k, v, op, nI (c + (codes y.2.2).length), g, h) ∧ RS t n q a b k v ∧ LY g g0 c (codes y.2.2) ∧ LY h h0 (3 * r) [y.1, y.2.1, c + (codes y.2.2).length]
theorem RX_e {e r c : Nat} {out : Option (Int32 × Int32 × Int32 × Int32 × Int32 × Int32 × Int32 × (Nat → Int32) × (Nat → Int32))} {g0 h0 : Nat → Int32} (a k v op s : Int32) (g h : Nat → Int32) (e1 : out = some (0, a, nI e, k, v, op, s, g, h)) : RX t n (.error e) out r c g0 h0 := ⟨fun e' h' => by injection h' with h'; subst h'; exact ⟨a, k, v, op, s, g, h, e1⟩, fun S q h' => by injection h'⟩
theorem RX_o {y : RRul} {q r c : Nat} {out : Option (Int32 × Int32 × Int32 × Int32 × Int32 × Int32 × Int32 × (Nat → Int32) × (Nat → Int32))} {g0 h0 : Nat → Int32} (a b k v op : Int32) (g h : Nat → Int32) (e1 : out = some (1, a, b, k, v, op, nI (c + (codes y.2.2).length), g, h)) (h2 : RS t n q a b k v) (h3 : LY g g0 c (codes y.2.2)) (h4 : LY h h0 (3 * r) [y.1, y.2.1, c + (codes y.2.2).length]) : RX t n (.ok (y, q)) out r c g0 h0 := ⟨fun e' h' => by injection h', fun S' q' h' => by injection h' with h'; injection h' with x z; subst x; subst z; exact ⟨a, b, k, v, op, g, h, e1, h2, h3, h4⟩⟩
theorem e9_do (hn : n ≤ 200) (ht : ∀ k, k < n → tp k = nI (t k) ∧ t k < 256) (hl : InL le) {q : Nat} (hq : q ≤ n) {a b k v op : Int32} {g g0 h0 : Nat → Int32} (h : RS t n q a b k v) {r c kd : Nat} {S : List RStp} (hr : r < 8) (hL : LY g g0 c (codes S)) : RX t n (gDo t n kd S q) (f_X9_readsRule_b59 (nI r) (nI n) le tp a b k v op (nI (c + (codes S).length)) g (upd h0 (3 * r) (nI kd))) r c g0 h0 := by
  obtain ⟨l1, l2⟩ := tk_lt ht hq
  obtain ⟨-, -, i6⟩ := t9_in _ l1 l2
  unfold gDo f_X9_readsRule_b59
  have ei : f_X9_in1 k 6 8 = some (if 6 ≤ tkT t n q ∧ tkT t n q ≤ 8 then 1 else 0) := by rw [h.2.2.1, i6]
  rw [ei, qb1]
  by_cases c1 : 6 ≤ tkT t n q ∧ tkT t n q ≤ 8
  · rw [if_pos c1, if_pos c1, if_neg n10]
    have m1 := tkN_le ht hq
    have ek : k = nI (tkT t n q) := by rw [h.2.2.1]; exact t9_id _ (by omega) (by omega)
    obtain ⟨a1, b1, k1, v1, e1, h1⟩ := e9_nx hn ht hl m1 v
    obtain ⟨l3, l4⟩ := tk_lt ht m1
    obtain ⟨-, -, -, -, -, -, -, -, t59, -⟩ := t9_tab _ l3 l4
    have i1 : (3 : Int32) * nI r + 1 = nI (3 * r + 1) := by rw [ql3, q_mul, ql1, q_add]
    have i2 : (3 : Int32) * nI r + 2 = nI (3 * r + 2) := by rw [ql3, q_mul, ql2, q_add]
    rw [i1, i2, ek, ql6, q_sub c1.1, qt1, qcI (show 3 * r + 1 < 24 by omega) (by decide), qcI (show 3 * r + 2 < 24 by omega) (by decide), q_cl (show 3 * r + 1 < 2 ^ 31 by omega), q_cl (show 3 * r + 2 < 2 ^ 31 by omega), h.1, e1, qb4]
    by_cases c2 : tkT t n (tkN t n q) = 315
    · obtain ⟨z1, z2, z3, z4, ez, h4⟩ := e9_takes_y hn ht hl m1 h1 (c := 259) (by rw [h1.2.2.1]; exact t59.mpr c2)
      rw [ez, qb5, qcB1, if_pos c2]
      exact RX_o z1 z2 z3 z4 op g _ rfl h4 hL (LY_app (L1 := [kd]) (LY_one h0 (3 * r) kd) (LY_app (L1 := [tkT t n q - 6]) (L2 := [c + (codes S).length]) (LY_one _ (3 * r + 1) (tkT t n q - 6)) (LY_one _ (3 * r + 1 + 1) (c + (codes S).length))))
    · rw [e9_takes_n (c := 259) (by rw [h1.2.2.1]; exact fun z => c2 (t59.mp z)), qb5, qcB0, if_neg c2]
      exact RX_e a1 k1 v1 op _ g _ (by rw [h1.2.1])
  · rw [if_neg c1, if_neg c1, if_pos rfl]
    exact RX_e a k v op _ g _ (by rw [h.2.1])
theorem e9_rule (hn : n ≤ 200) (ht : ∀ k, k < n → tp k = nI (t k) ∧ t k < 256) (hl : InL le) {p : Nat} (hp : p ≤ n) {a b k v op : Int32} {g0 h0 : Nat → Int32} (h : RS t n p a b k v) {r c : Nat} (hr : r ≤ 8) (hc : c ≤ p) (h19 : tkT t n p ≠ 19) : RX t n (gRule t n r p) (f_X9_readsRule (nI r) (nI n) a b k v op (nI c) g0 le h0 tp) r c g0 h0 := by
  obtain ⟨l1, l2⟩ := tk_lt ht hp
  obtain ⟨-, i0, -⟩ := t9_in _ l1 l2
  have ei : f_X9_in1 k 0 5 = some (if tkT t n p ≤ 5 then 1 else 0) := by rw [h.2.2.1, i0]
  unfold gRule f_X9_readsRule
  by_cases r8 : r = 8
  · rw [if_pos (Or.inl r8), if_pos (show nI r = 8 by rw [r8]; rfl)]
    exact RX_e a k v op _ g0 h0 (by rw [h.2.1])
  · rw [if_neg (show ¬ nI r = 8 by rw [ql8, q_eq (by omega) (by decide)]; exact r8), ei, qb1]
    by_cases c5 : tkT t n p ≤ 5
    · have m1 := tkN_le ht hp
      have w1 := tkN_gt ht hp h19
      obtain ⟨a1, b1, k1, v1, e1, h1⟩ := e9_nx hn ht hl m1 v
      obtain ⟨l3, l4⟩ := tk_lt ht m1
      obtain ⟨-, -, -, -, -, -, -, -, -, t9', -⟩ := t9_tab _ l3 l4
      have ek : k = nI (tkT t n p) := by rw [h.2.2.1]; exact t9_id _ (by omega) (by omega)
      have i1 : (3 : Int32) * nI r = nI (3 * r) := by rw [ql3, q_mul]
      rw [if_pos c5, if_neg n10, if_neg (show ¬ (r = 8 ∨ 5 < tkT t n p) by omega), i1, qcI (show 3 * r < 24 by omega) (by decide), q_cl (show 3 * r < 2 ^ 31 by omega), h.1, e1, qb4, ek]
      by_cases c9 : tkT t n (tkN t n p) = 9
      · have m2 := tkN_le ht m1
        have w2 := tkN_gt ht m1 (by omega)
        obtain ⟨z1, z2, z3, z4, ez, h4⟩ := e9_takes_y hn ht hl m1 h1 (c := 9) (by rw [h1.2.2.1]; exact t9'.mpr c9)
        rw [ez, qb5, if_neg n10, if_pos c9]
        have rc := e9_cond hn ht hl 6 0 (by decide) (by decide) _ m2 z1 z2 z3 z4 c g0 h4 (by omega)
        have rc' : RO t n (gC t n 6 0 (tkN t n (tkN t n p))) (F_X9_readsCondition 6 (nI n) z1 z2 z3 z4 0 (nI c) g0 le tp) 0 c g0 := rc
        have hPR := gC_ok (t := t) (fun k hk => (ht k hk).2) 6 0 (by decide) _ m2
        match ex : gC t n 6 0 (tkN t n (tkN t n p)) with
        | .error e =>
          rw [ex] at rc'
          obtain ⟨y1, y2, y3, y4, y5, y6, er⟩ := rc'.1 e rfl
          rw [er, qb8, if_pos rfl]
          exact RX_e y1 y2 y3 y4 y5 y6 _ rfl
        | .ok (S, q) =>
          rw [ex] at rc' hPR
          obtain ⟨y1, y2, y3, y4, y5, er, h5, h6⟩ := rc'.2 S q rfl
          obtain ⟨-, q2, -⟩ := hPR.2 S q rfl
          rw [er, qb8, if_neg n10]
          exact e9_do hn ht hl q2 h5 (by omega) h6
      · rw [e9_takes_n (c := 9) (by rw [h1.2.2.1]; exact fun z => c9 (t9'.mp z)), qb5, if_pos rfl, if_neg c9]
        exact e9_do (S := []) hn ht hl m1 h1 (by omega) (LY_nil g0 c)
    · rw [if_neg c5, if_pos rfl, if_pos (show r = 8 ∨ 5 < tkT t n p by omega)]
      exact RX_e a k v op _ g0 h0 (by rw [h.2.1])
end EM9
