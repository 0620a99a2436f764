/-! ===== E: the grammar of the rules, over the text's tokens ===== -/
abbrev GR := Except Nat (List RStp × Nat)
def tkT (t : Nat → Nat) (n p : Nat) : Nat := (lexT t n p).1
def tkB (t : Nat → Nat) (n p : Nat) : Nat := (lexT t n p).2.1
def tkN (t : Nat → Nat) (n p : Nat) : Nat := (lexT t n p).2.2.1
def tkW (t : Nat → Nat) (n p : Nat) : Nat := (lexT t n p).2.2.2
theorem run_all {P : Nat → Bool} {t : Nat → Nat} {n : Nat} : ∀ d p k, p ≤ k → k < run P t n d p → P (t k) = true := by
  intro d
  induction d with
  | zero => intro p k h1 h2; rw [run] at h2; omega
  | succ d ih =>
    intro p k h1 h2
    rw [run] at h2
    by_cases c : p < n ∧ P (t p) = true
    · rw [if_pos c] at h2
      by_cases e : k = p
      · rw [e]; exact c.2
      · exact ih (p + 1) k (by omega) h2
    · rw [if_neg c] at h2; omega
theorem run_gt {P : Nat → Bool} {t : Nat → Nat} {n p : Nat} (h : p < n) (h2 : P (t p) = true) : p + 1 ≤ run P t n n p := by
  obtain ⟨m, rfl⟩ : ∃ m, n = m + 1 := ⟨n - 1, by omega⟩
  rw [run_yes h h2]
  exact (run_le m (p + 1) (by omega)).1
theorem numV_lt {t : Nat → Nat} : ∀ d p v, (∀ k, p ≤ k → k < p + d → t k ≤ 57) → numV t d p v + 1 ≤ (v + 1) * 10 ^ d := by
  intro d
  induction d with
  | zero => intro p v _; rw [numV]; omega
  | succ d ih =>
    intro p v h
    rw [numV]
    have h1 := ih (p + 1) (v * 10 + (t p - 48)) (fun k k1 k2 => h k (by omega) (by omega))
    have h2 := h p (Nat.le_refl _) (by omega)
    have h3 : (v * 10 + (t p - 48) + 1) * 10 ^ d ≤ (v + 1) * 10 * 10 ^ d := Nat.mul_le_mul_right _ (by omega)
    rw [Nat.pow_succ, Nat.mul_comm (10 ^ d) 10, ← Nat.mul_assoc]
    omega
section EG1
variable {t : Nat → Nat} {n : Nat}
theorem lex_ok (ht : ∀ k, k < n → t k < 256) {p : Nat} (hp : p ≤ n) : (tkT t n p < 21 ∨ (256 ≤ tkT t n p ∧ tkT t n p < 512)) ∧ p ≤ tkB t n p ∧ tkB t n p ≤ n ∧ tkB t n p ≤ tkN t n p ∧ tkN t n p ≤ n ∧ (tkT t n p ≠ 19 → p + 1 ≤ tkN t n p) ∧ (tkT t n p = 19 → tkB t n p = n) ∧ (tkT t n p = 18 → tkW t n p < 10000) := by
  have hq := run_le (P := pS) (t := t) n p hp
  unfold tkT tkB tkN tkW lexT
  obtain ⟨q, eq⟩ : ∃ q, run pS t n n p = q := ⟨_, rfl⟩
  rw [eq] at hq ⊢
  dsimp only
  by_cases c1 : n ≤ q
  · rw [if_pos c1]
    exact ⟨Or.inl (show (19 : Nat) < 21 by decide), hq.1, hq.2, Nat.le_refl _, hq.2, fun h => absurd rfl h, fun _ => by dsimp only; omega, fun h => absurd (show (19 : Nat) = 18 from h) (by decide)⟩
  · rw [if_neg c1]
    by_cases c2 : pL (t q) = true
    · rw [if_pos c2]
      have h1 := run_gt (P := pL) (show q < n by omega) c2
      have h2 := run_le (P := pL) (t := t) n q (show q ≤ n by omega)
      have h3 : wF t q (run pL t n n q - q) 18 0 = 20 ∨ wF t q (run pL t n n q - q) 18 0 < 18 := by
        rcases wF_in (t := t) (p := q) (m := run pL t n n q - q) 18 0 rfl with ⟨h1, _⟩ | ⟨h1, _⟩
        · exact Or.inl h1
        · exact Or.inr h1
      dsimp only
      exact ⟨Or.inl (by omega), hq.1, hq.2, by omega, h2.2, fun _ => by omega, fun h => absurd h (by omega), fun h => absurd h (by omega)⟩
    · rw [if_neg c2]
      by_cases c3 : pD (t q) = true
      · rw [if_pos c3]
        have h1 := run_gt (P := pD) (show q < n by omega) c3
        have h2 := run_le (P := pD) (t := t) n q (show q ≤ n by omega)
        dsimp only
        by_cases c4 : 4 < run pD t n n q - q
        · rw [if_pos c4]
          exact ⟨Or.inl (by decide), hq.1, hq.2, by omega, h2.2, fun _ => by omega, fun h => absurd h (by decide), fun h => absurd h (by decide)⟩
        · rw [if_neg c4]
          refine ⟨Or.inl (by decide), hq.1, hq.2, by omega, h2.2, fun _ => by omega, fun h => absurd h (by decide), fun _ => ?_⟩
          have h3 := numV_lt (t := t) (run pD t n n q - q) q 0 (fun k k1 k2 => (of_decide_eq_true (run_all (P := pD) (t := t) (n := n) n q k k1 (by omega))).2)
          have h4 : (0 + 1) * 10 ^ (run pD t n n q - q) ≤ (0 + 1) * 10 ^ 4 := Nat.mul_le_mul_left _ (Nat.pow_le_pow_right (by decide) (by omega))
          omega
      · rw [if_neg c3]
        have := ht q (by omega)
        dsimp only
        exact ⟨Or.inr (by omega), hq.1, hq.2, by omega, by omega, fun _ => by omega, fun h => absurd h (by omega), fun h => absurd h (by omega)⟩
end EG1
def vl (t : Nat → Nat) (n p : Nat) : Option Nat := if tkT t n p = 18 then some (tkW t n p) else if 13 ≤ tkT t n p ∧ tkT t n p ≤ 17 then some (10000 + tkT t n p - 13) else none
def sgn (T : Nat) : Nat := if T = 316 then 4 else if T = 317 then 5 else if T = 318 then 6 else 0
def bndG (x : GR) (f : List RStp → Nat → GR) : GR := match x with
  | .error e => .error e
  | .ok (S, q) => f S q
theorem bndG_e (e : Nat) (f : List RStp → Nat → GR) : bndG (.error e) f = .error e := rfl
theorem bndG_o (S : List RStp) (q : Nat) (f : List RStp → Nat → GR) : bndG (.ok (S, q)) f = f S q := rfl
def gLike (t : Nat → Nat) (n p : Nat) : GR := match vl t n p with
  | none => .error (tkB t n p)
  | some l => if sgn (tkT t n (tkN t n p)) = 0 then .error (tkB t n (tkN t n p)) else match vl t n (tkN t n (tkN t n p)) with
    | none => .error (tkB t n (tkN t n (tkN t n p)))
    | some r => .ok ([(sgn (tkT t n (tkN t n p)), l, r)], tkN t n (tkN t n (tkN t n p)))
def gWithin (self : Nat → Nat → GR) (t : Nat → Nat) (n o p : Nat) : GR := if o = 3 then .error (tkB t n p) else bndG (self (o + 1) (tkN t n p)) (fun S q => if tkT t n q = 297 then .ok (S, tkN t n q) else .error (tkB t n q))
def gOne (self : Nat → Nat → GR) (t : Nat → Nat) (n o : Nat) : Nat → Nat → GR
  | 0, _ => .error 0
  | d + 1, p => if tkT t n p = 12 then bndG (gOne self t n o d (tkN t n p)) (fun S q => .ok (S ++ [(3, 0, 0)], q)) else if tkT t n p = 296 then gWithin self t n o p else gLike t n p
def gAllL (self : Nat → Nat → GR) (t : Nat → Nat) (n o : Nat) : Nat → List RStp → Nat → GR
  | 0, _, _ => .error 0
  | d + 1, S, p => if tkT t n p = 10 then bndG (gOne self t n o (n + 1) (tkN t n p)) (fun S' q => gAllL self t n o d (S ++ S' ++ [(2, 0, 0)]) q) else .ok (S, p)
def gAll (self : Nat → Nat → GR) (t : Nat → Nat) (n o p : Nat) : GR := bndG (gOne self t n o (n + 1) p) (fun S q => gAllL self t n o (n + 1) S q)
def gCndL (self : Nat → Nat → GR) (t : Nat → Nat) (n o : Nat) : Nat → List RStp → Nat → GR
  | 0, _, _ => .error 0
  | d + 1, S, p => if tkT t n p = 11 then bndG (gAll self t n o (tkN t n p)) (fun S' q => gCndL self t n o d (S ++ S' ++ [(1, 0, 0)]) q) else .ok (S, p)
def gCnd (self : Nat → Nat → GR) (t : Nat → Nat) (n o p : Nat) : GR := bndG (gAll self t n o p) (fun S q => gCndL self t n o (n + 1) S q)
def gC (t : Nat → Nat) (n : Nat) : Nat → Nat → Nat → GR
  | 0, _, _ => .error 0
  | d + 1, o, p => gCnd (gC t n d) t n o p
/-- steps that lay one truth more upon so many -/
def goS (S : List RStp) (h : Nat) : Prop := ∀ T, okS T (h + 1) → okS (S ++ T) h
/-- what a part of a condition comes to, begun at p -/
def PR (n p B : Nat) (x : GR) : Prop := (∀ e, x = .error e → e ≤ n) ∧ ∀ S q, x = .ok (S, q) → p + (codes S).length ≤ q ∧ q ≤ n ∧ ∀ h, h ≤ B → goS S h
theorem PR_e {n p B e : Nat} (h : e ≤ n) : PR n p B (.error e) := ⟨fun e' h' => by injection h' with h'; omega, fun S q h' => by injection h'⟩
theorem PR_o {n p B q : Nat} {S : List RStp} (h1 : p + (codes S).length ≤ q) (h2 : q ≤ n) (h3 : ∀ h, h ≤ B → goS S h) : PR n p B (.ok (S, q)) := ⟨fun e' h' => by injection h', fun S' q' h' => by injection h' with h'; injection h' with a b; subst a; subst b; exact ⟨h1, h2, h3⟩⟩
theorem PR_b {n p p' B B' : Nat} {x : GR} {f : List RStp → Nat → GR} (hx : PR n p B x) (hf : ∀ S q, x = .ok (S, q) → p + (codes S).length ≤ q → q ≤ n → (∀ h, h ≤ B → goS S h) → PR n p' B' (f S q)) : PR n p' B' (bndG x f) := by
  match x, hx, hf with
  | .error e, hx, hf => exact PR_e (hx.1 e rfl)
  | .ok (S, q), hx, hf =>
    obtain ⟨a, b, c⟩ := hx.2 S q rfl
    exact hf S q rfl a b c
theorem okS_not {S T : List RStp} {h : Nat} (g : goS S h) : okS T (h + 1) → okS ((S ++ [(3, 0, 0)]) ++ T) h := by
  intro k
  rw [List.append_assoc]
  exact g _ ⟨by decide, by decide, Or.inr (Or.inl ⟨rfl, by omega, k⟩)⟩
theorem goS_two {S S' : List RStp} {h op : Nat} (hop : op = 1 ∨ op = 2) (g : goS S h) (g' : goS S' (h + 1)) : goS (S ++ S' ++ [(op, 0, 0)]) h := by
  intro T k
  rw [List.append_assoc, List.append_assoc]
  exact g _ (g' _ ⟨show (0 : Nat) < 10005 by decide, show (0 : Nat) < 10005 by decide, Or.inr (Or.inr ⟨hop, by omega, k⟩)⟩)
section EG2
variable {t : Nat → Nat} {n : Nat}
theorem vl_ok (ht : ∀ k, k < n → t k < 256) {p : Nat} (hp : p ≤ n) {x : Nat} (h : vl t n p = some x) : x < 10005 ∧ tkT t n p ≠ 19 := by
  obtain ⟨-, -, -, -, -, -, -, h8⟩ := lex_ok ht hp
  unfold vl at h
  by_cases c : tkT t n p = 18
  · rw [if_pos c] at h
    injection h with h
    have := h8 c
    omega
  · rw [if_neg c] at h
    by_cases d : 13 ≤ tkT t n p ∧ tkT t n p ≤ 17
    · rw [if_pos d] at h
      injection h with h
      omega
    · rw [if_neg d] at h
      exact absurd h (by simp)
theorem sgn_ok {T : Nat} (h : sgn T ≠ 0) : 4 ≤ sgn T ∧ sgn T ≤ 6 ∧ T ≠ 19 := by
  unfold sgn at h ⊢
  split
  · omega
  · split
    · omega
    · split
      · omega
      · rename_i a b c
        rw [if_neg a, if_neg b, if_neg c] at h
        exact absurd rfl h
theorem gLike_ok (ht : ∀ k, k < n → t k < 256) {o p : Nat} (hp : p ≤ n) (ho : o ≤ 3) : PR n p (2 * o + 2) (gLike t n p) := by
  obtain ⟨-, -, b1, -, n1, g1, -, -⟩ := lex_ok ht hp
  unfold gLike
  cases e1 : vl t n p with
  | none => exact PR_e b1
  | some l =>
    obtain ⟨l1, l2⟩ := vl_ok ht hp e1
    obtain ⟨-, -, b2, -, n2, g2, -, -⟩ := lex_ok ht n1
    dsimp only
    by_cases c : sgn (tkT t n (tkN t n p)) = 0
    · rw [if_pos c]; exact PR_e b2
    · rw [if_neg c]
      obtain ⟨s1, s2, s3⟩ := sgn_ok c
      obtain ⟨-, -, b3, -, n3, g3, -, -⟩ := lex_ok ht n2
      cases e2 : vl t n (tkN t n (tkN t n p)) with
      | none => exact PR_e b3
      | some r =>
        obtain ⟨r1, r2⟩ := vl_ok ht n2 e2
        have := g1 l2
        have := g2 s3
        have := g3 r2
        refine PR_o ?_ n3 (fun h hh T k => ⟨l1, r1, Or.inl ⟨s1, s2, by omega, k⟩⟩)
        rw [codes, codeOf, if_pos s1]
        show p + 3 ≤ _
        omega
theorem gOne_ok (ht : ∀ k, k < n → t k < 256) {self : Nat → Nat → GR} {o : Nat} (ho : o ≤ 3) (hs : o < 3 → ∀ p, p ≤ n → PR n p (2 * (o + 1)) (self (o + 1) p)) : ∀ d p, p ≤ n → PR n p (2 * o + 2) (gOne self t n o d p) := by
  intro d
  induction d with
  | zero => intro p hp; exact PR_e (Nat.zero_le _)
  | succ d ih =>
    intro p hp
    obtain ⟨-, -, b1, -, n1, g1, -, -⟩ := lex_ok ht hp
    rw [gOne]
    by_cases c : tkT t n p = 12
    · rw [if_pos c]
      have := g1 (by omega)
      refine PR_b (ih _ n1) (fun S q _ h1 h2 h3 => PR_o ?_ h2 (fun h hh T k => okS_not (h3 h hh) k))
      rw [codes_app, List.length_append]
      show p + ((codes S).length + 1) ≤ q
      omega
    · rw [if_neg c]
      by_cases d : tkT t n p = 296
      · rw [if_pos d]
        have := g1 (by omega)
        unfold gWithin
        by_cases o3 : o = 3
        · rw [if_pos o3]; exact PR_e b1
        · rw [if_neg o3]
          refine PR_b (hs (by omega) _ n1) (fun S q _ h1 h2 h3 => ?_)
          obtain ⟨-, -, b2, -, n2, g2, -, -⟩ := lex_ok ht h2
          by_cases c2 : tkT t n q = 297
          · rw [if_pos c2]
            have := g2 (by omega)
            exact PR_o (by omega) n2 (fun h hh => h3 h (by omega))
          · rw [if_neg c2]; exact PR_e b2
      · rw [if_neg d]; exact gLike_ok ht hp ho
theorem gAllL_ok (ht : ∀ k, k < n → t k < 256) {self : Nat → Nat → GR} {o : Nat} (ho : o ≤ 3) (hs : o < 3 → ∀ p, p ≤ n → PR n p (2 * (o + 1)) (self (o + 1) p)) {p0 : Nat} : ∀ d S p, p ≤ n → p0 + (codes S).length ≤ p → (∀ h, h ≤ 2 * o + 1 → goS S h) → PR n p0 (2 * o + 1) (gAllL self t n o d S p) := by
  intro d
  induction d with
  | zero => intro S p hp _ _; exact PR_e (Nat.zero_le _)
  | succ d ih =>
    intro S p hp h1 h2
    obtain ⟨-, -, b1, -, n1, g1, -, -⟩ := lex_ok ht hp
    rw [gAllL]
    by_cases c : tkT t n p = 10
    · rw [if_pos c]
      have := g1 (by omega)
      refine PR_b (gOne_ok ht ho hs _ _ n1) (fun S' q _ k1 k2 k3 => ih _ _ k2 ?_ (fun h hh => goS_two (Or.inr rfl) (h2 h hh) (k3 (h + 1) (by omega))))
      rw [codes_app, codes_app, List.length_append, List.length_append]
      show p0 + ((codes S).length + (codes S').length + 1) ≤ q
      omega
    · rw [if_neg c]; exact PR_o h1 hp h2
theorem gAll_ok (ht : ∀ k, k < n → t k < 256) {self : Nat → Nat → GR} {o : Nat} (ho : o ≤ 3) (hs : o < 3 → ∀ p, p ≤ n → PR n p (2 * (o + 1)) (self (o + 1) p)) {p : Nat} (hp : p ≤ n) : PR n p (2 * o + 1) (gAll self t n o p) :=
  PR_b (gOne_ok ht ho hs _ _ hp) (fun S q _ k1 k2 k3 => gAllL_ok ht ho hs _ _ _ k2 k1 (fun h hh => k3 h (by omega)))
theorem gCndL_ok (ht : ∀ k, k < n → t k < 256) {self : Nat → Nat → GR} {o : Nat} (ho : o ≤ 3) (hs : o < 3 → ∀ p, p ≤ n → PR n p (2 * (o + 1)) (self (o + 1) p)) {p0 : Nat} : ∀ d S p, p ≤ n → p0 + (codes S).length ≤ p → (∀ h, h ≤ 2 * o → goS S h) → PR n p0 (2 * o) (gCndL self t n o d S p) := by
  intro d
  induction d with
  | zero => intro S p hp _ _; exact PR_e (Nat.zero_le _)
  | succ d ih =>
    intro S p hp h1 h2
    obtain ⟨-, -, b1, -, n1, g1, -, -⟩ := lex_ok ht hp
    rw [gCndL]
    by_cases c : tkT t n p = 11
    · rw [if_pos c]
      have := g1 (by omega)
      refine PR_b (gAll_ok ht ho hs n1) (fun S' q _ k1 k2 k3 => ih _ _ k2 ?_ (fun h hh => goS_two (Or.inl rfl) (h2 h hh) (k3 (h + 1) (by omega))))
      rw [codes_app, codes_app, List.length_append, List.length_append]
      show p0 + ((codes S).length + (codes S').length + 1) ≤ q
      omega
    · rw [if_neg c]; exact PR_o h1 hp h2
theorem gCnd_ok (ht : ∀ k, k < n → t k < 256) {self : Nat → Nat → GR} {o : Nat} (ho : o ≤ 3) (hs : o < 3 → ∀ p, p ≤ n → PR n p (2 * (o + 1)) (self (o + 1) p)) {p : Nat} (hp : p ≤ n) : PR n p (2 * o) (gCnd self t n o p) :=
  PR_b (gAll_ok ht ho hs hp) (fun S q _ k1 k2 k3 => gCndL_ok ht ho hs _ _ _ k2 k1 (fun h hh => k3 h (by omega)))
theorem gC_ok (ht : ∀ k, k < n → t k < 256) : ∀ d o, o ≤ 3 → ∀ p, p ≤ n → PR n p (2 * o) (gC t n d o p) := by
  intro d
  induction d with
  | zero => intro o _ p _; exact PR_e (Nat.zero_le _)
  | succ d ih => intro o ho p hp; exact gCnd_ok ht ho (fun h p hp => ih (o + 1) (by omega) p hp) hp
end EG2
