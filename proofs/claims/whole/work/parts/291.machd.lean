/-! ===== E: the class's reader, whole conditions ===== -/
def HM (K : RT → Prop) (tp : Nat → Int32) (t : Nat → Nat) (n : Nat) (cnt : Int32) (be de ki : Nat → Int32) (kd : Int32) (G : Nat → Nat → GR) (o : Nat) : Prop := o < 3 → ∀ (p : Nat) (W : List Nat) (S : List RStp), p ≤ n → (W = [] ∨ W.headD 0 < 1) → (∀ e, G (o + 1) p = .error e → BD K e) → (∀ P S' Sc q, G (o + 1) p = .ok (Sc, q) → S' ++ fl P = S ++ Sc → PA 1 P → tkT t n q ≠ 10 → tkT t n q ≠ 11 → CX K tp n cnt be de ki kd 5 (o + 1) q (P ++ W) S') → CX K tp n cnt be de ki kd 2 (o + 1) p W S
theorem PA_nil {b : Nat} : PA b [] := fun x hx => absurd hx (by simp)
theorem PA_one {b c : Nat} {P : List Nat} (h : PA c P) (hbc : b ≤ c) (hb : b ≤ 3) : PA b (P ++ [b]) := fun x hx => by
  rcases List.mem_append.mp hx with h1 | h1
  · have := h x h1; omega
  · rw [List.mem_singleton.mp h1]; omega
theorem PA_le {b c : Nat} {P : List Nat} (h : PA c P) (hbc : b ≤ c) : PA b P := fun x hx => by have := h x hx; omega
section EC3
variable {tp : Nat → Int32} {t : Nat → Nat} {n o : Nat} {K : RT → Prop} {cnt kd : Int32} {be de ki : Nat → Int32} {G : Nat → Nat → GR}
theorem m_one (hn : n ≤ 200) (ht : ∀ k, k < n → tp k = nI (t k) ∧ t k < 256) (hbe : be 0 = nI 0) (ho : o ≤ 3) (hm : HM K tp t n cnt be de ki kd G o) : ∀ (d p : Nat) (W : List Nat) (S : List RStp), p ≤ n → n < p + d → (∀ e, gOne G t n o d p = .error e → BD K e) → (∀ core P q, gOne G t n o d p = .ok (core ++ fl P, q) → PA 3 P → CX K tp n cnt be de ki kd 5 o q (P ++ W) (S ++ core)) → CX K tp n cnt be de ki kd 2 o p W S := by
  intro d
  induction d with
  | zero => intro p W S hp h1; omega
  | succ d ih =>
    intro p W S hp h1 hb hk
    rw [gOne] at hb hk
    by_cases c : tkT t n p = 12
    · rw [if_pos c] at hb hk
      have m1 := tkN_le ht hp
      have w1 := tkN_gt ht hp (by omega)
      refine t2_not hn ht c (ih _ (3 :: W) S m1 (by omega) (fun e he => hb e (by rw [he, bndG_e])) (fun core P q he hP => ?_))
      have := hk core (P ++ [3]) q (by
        rw [he, bndG_o, fl_app, ← List.append_assoc]; rfl) (PA_one hP (by decide) (by decide))
      rw [show P ++ [3] ++ W = P ++ 3 :: W from List.append_assoc P [3] W] at this
      exact this
    · rw [if_neg c] at hb hk
      by_cases c2 : tkT t n p = 296
      · rw [if_pos c2] at hb hk
        unfold gWithin at hb hk
        by_cases o3 : o = 3
        · exact t2_open3 hn ht hbe o3 c2 (hb _ (by rw [if_pos o3]))
        · rw [if_neg o3] at hb hk
          have m1 := tkN_le ht hp
          refine t2_open hn ht (by omega) c2 (hm (by omega) _ (0 :: W) S m1 (Or.inr (show (0 : Nat) < 1 by decide)) (fun e he => hb e (by rw [he, bndG_e])) (fun P S' Sc q he hs hP h10 h11 => ?_))
          by_cases c3 : tkT t n q = 297
          · refine t5_close hn ht (by omega) hP c3 ?_
            rw [hs]
            exact hk Sc [] (tkN t n q) (by
              rw [he, bndG_o, if_pos c3]
              show Except.ok (Sc, _) = Except.ok (Sc ++ [], _)
              rw [List.append_nil]) PA_nil
          · exact t5_bad hn ht hbe (by omega) h10 h11 c3 (hb _ (by rw [he, bndG_o, if_neg c3]))
      · rw [if_neg c2] at hb hk
        exact m_like hn ht hbe c c2 hb (fun S' q he => hk S' [] q (by
          rw [he]
          show Except.ok (S', _) = Except.ok (S' ++ [], _)
          rw [List.append_nil]) PA_nil)
theorem m_allL (hn : n ≤ 200) (ht : ∀ k, k < n → tp k = nI (t k) ∧ t k < 256) (hbe : be 0 = nI 0) (ho : o ≤ 3) (hm : HM K tp t n cnt be de ki kd G o) (hP : HP G n o) {W : List Nat} (hW : W = [] ∨ W.headD 0 < 2) {S : List RStp} : ∀ (d q : Nat) (P : List Nat) (S' Sa : List RStp), q ≤ n → n < q + d → PA 2 P → S' ++ fl P = S ++ Sa → (∀ e, gAllL G t n o d Sa q = .error e → BD K e) → (∀ P S' Sc q', gAllL G t n o d Sa q = .ok (Sc, q') → S' ++ fl P = S ++ Sc → PA 2 P → tkT t n q' ≠ 10 → CX K tp n cnt be de ki kd 5 o q' (P ++ W) S') → CX K tp n cnt be de ki kd 5 o q (P ++ W) S' := by
  intro d
  induction d with
  | zero => intro q P S' Sa hq h1; omega
  | succ d ih =>
    intro q P S' Sa hq h1 hPA hs hb hk
    rw [gAllL] at hb hk
    by_cases c : tkT t n q = 10
    · rw [if_pos c] at hb hk
      have m1 := tkN_le ht hq
      have w1 := tkN_gt ht hq (by omega)
      refine t5_op hn ht hPA (Or.inl ⟨rfl, c⟩) hW ?_
      rw [hs]
      refine m_one hn ht hbe ho hm (n + 1) _ (2 :: W) (S ++ Sa) m1 (by omega) (fun e he => hb e (by rw [he, bndG_e])) (fun core P1 q1 he hP1 => ?_)
      have hPR := (gOne_ok (fun k hk => (ht k hk).2) ho hP (n + 1) _ m1).2 _ _ he
      have := ih q1 (P1 ++ [2]) (S ++ Sa ++ core) (Sa ++ (core ++ fl P1) ++ [(2, 0, 0)]) hPR.2.1 (by omega) (PA_one hP1 (by decide) (by decide)) (by rw [fl_app]; simp only [List.append_assoc]; rfl) (fun e he' => hb e (by rw [he, bndG_o]; exact he')) (fun P S' Sc q' he' => hk P S' Sc q' (by rw [he, bndG_o]; exact he'))
      rw [show P1 ++ [2] ++ W = P1 ++ 2 :: W from List.append_assoc P1 [2] W] at this
      exact this
    · rw [if_neg c] at hk
      exact hk P S' Sa q rfl hs hPA c
theorem m_all (hn : n ≤ 200) (ht : ∀ k, k < n → tp k = nI (t k) ∧ t k < 256) (hbe : be 0 = nI 0) (ho : o ≤ 3) (hm : HM K tp t n cnt be de ki kd G o) (hP : HP G n o) {W : List Nat} (hW : W = [] ∨ W.headD 0 < 2) {S : List RStp} {p : Nat} (hp : p ≤ n) (hb : ∀ e, gAll G t n o p = .error e → BD K e) (hk : ∀ P S' Sc q', gAll G t n o p = .ok (Sc, q') → S' ++ fl P = S ++ Sc → PA 2 P → tkT t n q' ≠ 10 → CX K tp n cnt be de ki kd 5 o q' (P ++ W) S') : CX K tp n cnt be de ki kd 2 o p W S := by
  unfold gAll at hb hk
  refine m_one hn ht hbe ho hm (n + 1) p W S hp (by omega) (fun e he => hb e (by rw [he, bndG_e])) (fun core P q he hP1 => ?_)
  have hPR := (gOne_ok (fun k hk => (ht k hk).2) ho hP (n + 1) _ hp).2 _ _ he
  exact m_allL hn ht hbe ho hm hP hW (S := S) (n + 1) q P (S ++ core) (core ++ fl P) hPR.2.1 (by omega) (PA_le hP1 (by decide)) (List.append_assoc ..) (fun e he' => hb e (by rw [he, bndG_o]; exact he')) (fun P S' Sc q' he' => hk P S' Sc q' (by rw [he, bndG_o]; exact he'))
theorem m_cndL (hn : n ≤ 200) (ht : ∀ k, k < n → tp k = nI (t k) ∧ t k < 256) (hbe : be 0 = nI 0) (ho : o ≤ 3) (hm : HM K tp t n cnt be de ki kd G o) (hP : HP G n o) {W : List Nat} (hW : W = [] ∨ W.headD 0 < 1) {S : List RStp} : ∀ (d q : Nat) (P : List Nat) (S' Sa : List RStp), q ≤ n → n < q + d → PA 1 P → S' ++ fl P = S ++ Sa → tkT t n q ≠ 10 → (∀ e, gCndL G t n o d Sa q = .error e → BD K e) → (∀ P S' Sc q', gCndL G t n o d Sa q = .ok (Sc, q') → S' ++ fl P = S ++ Sc → PA 1 P → tkT t n q' ≠ 10 → tkT t n q' ≠ 11 → CX K tp n cnt be de ki kd 5 o q' (P ++ W) S') → CX K tp n cnt be de ki kd 5 o q (P ++ W) S' := by
  intro d
  induction d with
  | zero => intro q P S' Sa hq h1; omega
  | succ d ih =>
    intro q P S' Sa hq h1 hPA hs h10 hb hk
    rw [gCndL] at hb hk
    by_cases c : tkT t n q = 11
    · rw [if_pos c] at hb hk
      have m1 := tkN_le ht hq
      have w1 := tkN_gt ht hq (by omega)
      refine t5_op hn ht hPA (Or.inr ⟨rfl, c⟩) hW ?_
      rw [hs]
      refine m_all hn ht hbe ho hm hP (W := 1 :: W) (Or.inr (show (1 : Nat) < 2 by decide)) m1 (fun e he => hb e (by rw [he, bndG_e])) (fun P1 S1 Sc1 q1 he hs1 hP1 h10' => ?_)
      have hPR := (gAll_ok (fun k hk => (ht k hk).2) ho hP m1).2 _ _ he
      have := ih q1 (P1 ++ [1]) S1 (Sa ++ Sc1 ++ [(1, 0, 0)]) hPR.2.1 (by omega) (PA_one hP1 (by decide) (by decide)) (by
        rw [fl_app, ← List.append_assoc, hs1]; simp only [List.append_assoc]; rfl) h10' (fun e he' => hb e (by rw [he, bndG_o]; exact he')) (fun P S' Sc q' he' => hk P S' Sc q' (by rw [he, bndG_o]; exact he'))
      rw [show P1 ++ [1] ++ W = P1 ++ 1 :: W from List.append_assoc P1 [1] W] at this
      exact this
    · rw [if_neg c] at hk
      exact hk P S' Sa q rfl hs hPA h10 c
theorem m_cnd (hn : n ≤ 200) (ht : ∀ k, k < n → tp k = nI (t k) ∧ t k < 256) (hbe : be 0 = nI 0) (ho : o ≤ 3) (hm : HM K tp t n cnt be de ki kd G o) (hP : HP G n o) {W : List Nat} (hW : W = [] ∨ W.headD 0 < 1) {S : List RStp} {p : Nat} (hp : p ≤ n) (hb : ∀ e, gCnd G t n o p = .error e → BD K e) (hk : ∀ P S' Sc q', gCnd G t n o p = .ok (Sc, q') → S' ++ fl P = S ++ Sc → PA 1 P → tkT t n q' ≠ 10 → tkT t n q' ≠ 11 → CX K tp n cnt be de ki kd 5 o q' (P ++ W) S') : CX K tp n cnt be de ki kd 2 o p W S := by
  unfold gCnd at hb hk
  refine m_all hn ht hbe ho hm hP (hW.imp id (fun h => by omega)) hp (fun e he => hb e (by rw [he, bndG_e])) (fun P1 S1 Sc1 q1 he hs1 hP1 h10' => ?_)
  have hPR := (gAll_ok (fun k hk => (ht k hk).2) ho hP hp).2 _ _ he
  exact m_cndL hn ht hbe ho hm hP hW (S := S) (n + 1) q1 P1 S1 Sc1 hPR.2.1 (by omega) (PA_le hP1 (by decide)) hs1 h10' (fun e he' => hb e (by rw [he, bndG_o]; exact he')) (fun P S' Sc q' he' => hk P S' Sc q' (by rw [he, bndG_o]; exact he'))
theorem m_cond (hn : n ≤ 200) (ht : ∀ k, k < n → tp k = nI (t k) ∧ t k < 256) (hbe : be 0 = nI 0) : ∀ d o, o ≤ 3 → 4 ≤ d + o → ∀ (p : Nat) (W : List Nat) (S : List RStp), p ≤ n → (W = [] ∨ W.headD 0 < 1) → (∀ e, gC t n d o p = .error e → BD K e) → (∀ P S' Sc q, gC t n d o p = .ok (Sc, q) → S' ++ fl P = S ++ Sc → PA 1 P → tkT t n q ≠ 10 → tkT t n q ≠ 11 → CX K tp n cnt be de ki kd 5 o q (P ++ W) S') → CX K tp n cnt be de ki kd 2 o p W S := by
  intro d
  induction d with
  | zero => intro o ho h; omega
  | succ d ih =>
    intro o ho h4 p W S hp hW hb hk
    rw [gC] at hb hk
    exact m_cnd hn ht hbe ho (fun h3 => ih (o + 1) (by omega) (by omega)) (fun h3 p hp => gC_ok (fun k hk => (ht k hk).2) d (o + 1) (by omega) p hp) hW hp hb hk
end EC3
