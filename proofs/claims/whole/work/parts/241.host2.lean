/-! ===== E: the host: items, shelves ===== -/
theorem e_upto {p : Int32} {n : Nat} (hn : n < 2 ^ 30) : ((p < 0 ∨ (¬ p < 0 ∧ nI n ≤ p)) ∧ f_X9_in1 p 0 (nI n - 1) = some 0) ∨ ∃ i : Nat, i < n ∧ p = nI i ∧ f_X9_in1 p 0 (nI n - 1) = some 1 := by
  unfold f_X9_in1
  by_cases c : p < 0
  · exact Or.inl ⟨Or.inl c, if_pos c⟩
  · rw [if_neg c]
    obtain ⟨j, hj, rfl⟩ := nI_of c
    have e : (nI n - 1).toInt = (n : Int) - 1 := by
      have := pk_sub_toInt (a := n) (b := 1) hn (by decide)
      exact this
    by_cases d : j < n
    · refine Or.inr ⟨j, d, rfl, if_neg ?_⟩
      rw [Int32.lt_iff_toInt_lt, nI_toInt hj, e]
      omega
    · refine Or.inl ⟨Or.inr ⟨c, nI_le (by omega) hj⟩, if_pos ?_⟩
      rw [Int32.lt_iff_toInt_lt, nI_toInt hj, e]
      omega
theorem e_narrow (v : Int32) : ∀ q, q < 5 → f_X0_narrowed (nI q) v = f_X9_narrowed v (nI q) := by
  intro q hq
  unfold f_X0_narrowed f_X9_narrowed
  rcases (by omega : q = 0 ∨ q = 1 ∨ q = 2 ∨ q = 3 ∨ q = 4) with rfl | rfl | rfl | rfl | rfl <;> rfl
theorem e_narrow_some (v : Int32) (q : Int32) : ∃ x, f_X9_narrowed v q = some x := by
  unfold f_X9_narrowed
  repeat' split
  all_goals exact ⟨_, rfl⟩
section SH2
variable {so sz it ho sh ss sw ms mz mn mh mo : Nat → Int32}
theorem e_hasItem {k n : Nat} (hk : k < 4) {p : Int32} (hz : sz k = nI n) : (p < 0 ∨ (¬ p < 0 ∧ nI n ≤ p)) → f_X0_hasItem (nI k) p sz = some 0 := by
  intro h
  unfold f_X0_hasItem
  rcases h with h | ⟨h1, h2⟩
  · exact if_pos h
  · rw [if_neg h1, qcI hk (by decide), q_cl (by omega), hz, if_pos h2]
theorem e_hasItem1 {k n i : Nat} (hk : k < 4) (hz : sz k = nI n) (hi : i < n) (hn : n < 2 ^ 31) : f_X0_hasItem (nI k) (nI i) sz = some 1 := by
  unfold f_X0_hasItem
  rw [if_neg (nI_pos (by omega)), qcI hk (by decide), q_cl (by omega), hz, if_neg (nI_ge hi hn)]
theorem st_write (h : InH so sz it ho sh ss sw ms mz mn mh mo) (p0 p1 p2 : Int32) : ∃ r it' mn', f_X8_write p0 p1 p2 it sz so = some (r, it') ∧ f_X9_write p0 p1 p2 mn mz ms = some (r, mn') ∧ InH so sz it' ho sh ss sw ms mz mn' mh mo := by
  have h0 := h
  obtain ⟨h1, h2, h3⟩ := h
  unfold f_X8_write f_X9_write
  rcases e_sh (p := p0) with ⟨e1, -, e2⟩ | ⟨k, hk, rfl, e1, -, e2⟩
  · rw [e1, e2, qb1, qb1, if_pos rfl, if_pos rfl]; exact ⟨_, _, _, rfl, rfl, h0⟩
  · obtain ⟨q, n, hq, hn, g1, g2, g3, g4⟩ := h1 k hk
    have hm := @q_m1 q (by omega)
    unfold f_X0_isMissing f_X0_put
    rw [e1, e2, qb1, qb1, if_neg n10, if_neg n10]
    simp (disch := omega) only [qcI, q_cl, g1, g2, g4]
    by_cases c : q = 0
    · rw [if_pos (hm.1.mpr c), qb1, if_neg n10, if_neg (fun z => hm.2.1.mp z c)]
      exact ⟨_, _, _, rfl, rfl, h0⟩
    · rw [if_neg (fun z => c (hm.1.mp z)), qb1, if_pos rfl, if_pos (hm.2.1.mpr c)]
      have e : nI q - 1 = nI (q - 1) := by
        have := nI_pred (q - 1)
        rw [show q - 1 + 1 = q by omega] at this
        exact this
      rcases e_upto (p := p1) (n := n) (by omega) with ⟨e3, e4⟩ | ⟨i, hi, rfl, e4⟩
      · rw [e_hasItem hk g3 e3, qb1, if_pos rfl, e4, qb1, if_pos rfl]; exact ⟨_, _, _, rfl, rfl, h0⟩
      · obtain ⟨x, hx⟩ := e_narrow_some p2 (nI (q - 1))
        rw [e_hasItem1 hk g3 hi (by omega), qb1, if_neg n10, e4, qb1, if_neg n10, e, e_narrow _ _ (by omega), hx, qb1, qb1, ql40, q_mul, q_mul, q_add, q_add, Nat.mul_comm k 40, qcI (by omega) (by omega), qcI (by omega) (by omega), qb1, q_cl (by omega)]
        refine ⟨_, _, _, rfl, rfl, h1, fun j hj => ?_, h3⟩
        unfold upd
        split
        · rfl
        · exact h2 j hj
theorem e_refuse {k q : Nat} (hk : k < 4) (hq : q ≤ 5) (g1 : so k = nI q - 1) (g2 : ms k = nI q - 1) (p : Int32) : ∃ r, f_X0_refusalOf (nI k) p so = some r ∧ f_X9_lacks (nI k) p ms = some r ∧ (r = 0 ∨ r = -11 ∨ r = -13) ∧ (r = 0 → q ≠ 0) := by
  have hm := @q_m1 q (by omega)
  unfold f_X0_refusalOf f_X0_isMissing f_X9_lacks
  simp (disch := omega) only [qcI, q_cl, g1, g2]
  by_cases c : q = 0
  · rw [if_pos (hm.1.mpr c), qb1, if_neg n10, if_neg (fun z => hm.2.1.mp z c)]
    exact ⟨_, rfl, rfl, Or.inr (Or.inl rfl), fun z => absurd z (by decide)⟩
  · rw [if_neg (fun z => c (hm.1.mp z)), qb1, if_pos rfl, if_pos (hm.2.1.mpr c)]
    by_cases d : nI q - 1 = p
    · rw [if_pos d]; exact ⟨_, rfl, rfl, Or.inl rfl, fun _ => c⟩
    · rw [if_neg d]; exact ⟨_, rfl, rfl, Or.inr (Or.inr rfl), fun z => absurd z (by decide)⟩
theorem st_item (h : InH so sz it ho sh ss sw ms mz mn mh mo) (p0 p1 p2 : Int32) : ∃ r, f_X8_item p0 p1 p2 it sz so = some r ∧ f_X9_item p0 p1 p2 mn mz ms = some r := by
  obtain ⟨h1, h2, h3⟩ := h
  unfold f_X8_item f_X9_item
  rcases e_sh (p := p0) with ⟨e1, -, e2⟩ | ⟨k, hk, rfl, e1, -, e2⟩
  · rw [e1, e2, qb1, qb1, if_pos rfl, if_pos rfl]; exact ⟨_, rfl, rfl⟩
  · obtain ⟨q, n, hq, hn, g1, g2, g3, g4⟩ := h1 k hk
    obtain ⟨r, e3, e4, e5, -⟩ := e_refuse hk hq g1 g2 p1
    rw [e1, e2, qb1, qb1, if_neg n10, if_neg n10, e3, e4]
    rcases e_in (p := p1) (lo := 0) (hi := 4) 0 4 rfl rfl (by decide) (by decide) with ⟨e6, e7, -⟩ | ⟨w, -, w2, rfl, e6, e7⟩
    · simp only [e6, e7, qb1, if_true]; exact ⟨_, rfl, rfl⟩
    · simp only [e6, e7, qb1, n10, if_false]
      by_cases c : r = 0
      · rw [if_pos c, if_pos c, qcI hk (by decide), q_cl (by omega), g4]
        rcases e_upto (p := p2) (n := n) (by omega) with ⟨e8, e9⟩ | ⟨i, hi, rfl, e9⟩
        · rw [e_hasItem hk g3 e8, qb1, if_pos rfl, e9, qb1, if_pos rfl]; exact ⟨_, rfl, rfl⟩
        · unfold f_X0_get
          rw [e_hasItem1 hk g3 hi (by omega), qb1, if_neg n10, e9, qb1, if_neg n10, ql40, q_mul, q_mul, q_add, q_add, Nat.mul_comm k 40, qcI (by omega) (by omega), qcI (by omega) (by omega), qb1, q_cl (by omega), h2 _ (by omega)]
          exact ⟨_, rfl, rfl⟩
      · rw [if_neg c, if_neg c]; exact ⟨_, rfl, rfl⟩
theorem sh_upd {i k : Nat} {f g : Nat → Int32} {x y : Int32} (hi : i ≠ k) : upd f k x i = f i ∧ upd g k y i = g i := ⟨upd_ne _ _ hi, upd_ne _ _ hi⟩
theorem st_shelf (h : InH so sz it ho sh ss sw ms mz mn mh mo) {cnt : Int32} {s : Nat → Int32} {n4 : Nat} (h4 : s 4 = nI n4) (hc : cnt = nI n4) (hn4 : n4 ≤ 6) (p0 p1 p2 : Int32) : ∃ r ho' sh' sw' ss' mo' mh', f_X8_shelf p0 p1 p2 ho sh sw ss sz so cnt = some (r, ho', sh', sw', ss') ∧ f_X9_shelf p0 p1 p2 mo mh s mz ms = some (r, mo', mh') ∧ InH so sz it ho' sh' ss' sw' ms mz mn mh' mo' := by
  have h0 := h
  obtain ⟨h1, h2, h3⟩ := h
  unfold f_X8_shelf f_X9_shelf
  rcases e_sh (p := p0) with ⟨-, e1, e2⟩ | ⟨k, hk, rfl, -, e1, e2⟩
  · rw [e1, e2, qb1, qb1, if_pos rfl, if_pos rfl]; exact ⟨_, _, _, _, _, _, _, rfl, rfl, h0⟩
  · rw [e1, e2, qb1, qb1, if_neg n10, if_neg n10]
    rcases e_in (p := p1) (lo := 0) (hi := 2) 0 2 rfl rfl (by decide) (by decide) with ⟨-, e4, e5⟩ | ⟨q, q1, q2, rfl, -, e4⟩
    · have no := e_out 0 2 rfl rfl (by decide) e5
      rw [e4, qb1, if_pos rfl, if_neg (show ¬ p1 = 0 from no 0 (by decide) (by decide)), if_neg (show ¬ p1 = 1 from no 1 (by decide) (by decide)), if_neg (show ¬ p1 = 2 from no 2 (by decide) (by decide))]
      exact ⟨_, _, _, _, _, _, _, rfl, rfl, h0⟩
    · rw [e4, qb1, if_neg n10]
      rcases (by omega : q = 0 ∨ q = 1 ∨ q = 2) with rfl | rfl | rfl
      · rw [if_pos (show nI 0 = 0 from rfl), if_pos (show nI 0 = 0 from rfl), hc]
        rcases e_has (p := p2) (n := n4) h4 (by omega) with ⟨e6, e7⟩ | ⟨j, hj, rfl, e6, e7⟩
        · rw [e6, e7, qb1, qb1, if_pos rfl, if_pos rfl]; exact ⟨_, _, _, _, _, _, _, rfl, rfl, h0⟩
        · unfold f_X9_shelf_b28 f_X9_shelf_b42 f_X9_shelf_b82 f_X0_holdShip
          rw [e6, e7, qb1, qb1, if_neg n10, if_neg n10, if_neg (show ¬ nI 0 = 1 by decide), if_pos (show nI 0 = 0 from rfl), if_pos (show nI 0 = 0 from rfl), qcI hk (by decide), qcI hk (by decide), qb3, qcI hk (by decide), qcI hk (by decide), q_cl (by omega)]
          refine ⟨_, _, _, _, _, _, _, rfl, rfl, h1, h2, fun i hi => ?_⟩
          by_cases d : i = k
          · exact Or.inr (Or.inl ⟨j, by omega, by rw [d, upd_at], by rw [d, upd_at], by rw [d, upd_at], by rw [d, upd_at]⟩)
          · rw [upd_ne _ _ d, upd_ne _ _ d, upd_ne _ _ d, upd_ne _ _ d]; exact h3 i hi
      · rw [if_neg (show ¬ nI 1 = 0 by decide), if_pos (show nI 1 = 1 from rfl), if_neg (show ¬ nI 1 = 0 by decide)]
        unfold f_X9_shelf_b28
        rw [if_pos (show nI 1 = 1 from rfl)]
        rcases e_sh (p := p2) with ⟨e6, -, e7⟩ | ⟨j, hj, rfl, e6, -, e7⟩
        · rw [e6, e7, qb1, qb1, if_pos rfl, if_pos rfl]; exact ⟨_, _, _, _, _, _, _, rfl, rfl, h0⟩
        · obtain ⟨q, n, hq, hn, g1, g2, g3, g4⟩ := h1 j hj
          have hm := @q_m1 q (by omega)
          unfold f_X0_holdRow f_X0_isMissing f_X0_holdRow_b18 f_X9_shelf_b42 f_X9_shelf_b81 f_X9_shelf_b82
          rw [e6, e7, qb1, qb1, if_neg n10, if_neg n10, if_neg (show ¬ nI 1 = 0 by decide), if_pos (show nI 1 = 1 from rfl), if_neg (show ¬ nI 1 = 0 by decide)]
          simp (disch := omega) only [qcI, q_cl, g1, g2, g3, g4, qt1]
          by_cases c : q = 0
          · rw [if_pos (hm.1.mpr c), qb1, if_neg n10, qb4, if_pos (hm.2.2.mpr c), if_pos (show nI 1 = 1 from rfl)]
            refine ⟨_, _, _, _, _, _, _, rfl, rfl, h1, h2, fun i hi => ?_⟩
            by_cases d : i = k
            · exact Or.inl ⟨by rw [d, upd_at], by rw [d, upd_at]⟩
            · rw [upd_ne _ _ d, upd_ne _ _ d, upd_ne _ _ d, upd_ne _ _ d, upd_ne _ _ d]; exact h3 i hi
          · have e : nI q - 1 = nI (q - 1) := by
              have := nI_pred (q - 1)
              rw [show q - 1 + 1 = q by omega] at this
              exact this
            rw [if_neg (fun z => c (hm.1.mp z)), qb1, if_pos rfl, qb4, if_neg (fun z => c (hm.2.2.mp z)), if_pos (show nI 1 = 1 from rfl)]
            refine ⟨_, _, _, _, _, _, _, rfl, rfl, h1, h2, fun i hi => ?_⟩
            by_cases d : i = k
            · exact Or.inr (Or.inr ⟨q - 1, n, by omega, hn, by rw [d, upd_at], by rw [d, upd_at, e, ql10, q_add], by rw [d, upd_at, e], by rw [d, upd_at], by rw [d, upd_at]⟩)
            · rw [upd_ne _ _ d, upd_ne _ _ d, upd_ne _ _ d, upd_ne _ _ d, upd_ne _ _ d]; exact h3 i hi
      · unfold f_X9_shelf_b28 f_X9_shelf_b42 f_X9_shelf_b81 f_X9_shelf_b82 f_X0_holdNothing
        rw [if_neg (show ¬ nI 2 = 0 by decide), if_neg (show ¬ nI 2 = 1 by decide), if_pos (show nI 2 = 2 from rfl), if_neg (show ¬ nI 2 = 0 by decide), if_neg (show ¬ nI 2 = 1 by decide), if_neg (show ¬ nI 2 = 0 by decide), if_neg (show ¬ nI 2 = 1 by decide), qcI hk (by decide), qb2, if_neg (show ¬ nI 2 = 0 by decide), if_neg (show ¬ nI 2 = 1 by decide), qcI hk (by decide), qcI hk (by decide), q_cl (by omega)]
        refine ⟨_, _, _, _, _, _, _, rfl, rfl, h1, h2, fun i hi => ?_⟩
        by_cases d : i = k
        · exact Or.inl ⟨by rw [d, upd_at], by rw [d, upd_at]⟩
        · rw [upd_ne _ _ d, upd_ne _ _ d, upd_ne _ _ d]; exact h3 i hi
end SH2
