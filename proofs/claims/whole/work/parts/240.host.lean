/-! ===== E: rows, the host, kept ===== -/
def InW (rc : Int32) (r8 : Nat → Int32) (rm : Int32) (r9 : Nat → Int32) : Prop := ∃ n : Nat, n ≤ 4 ∧ rc = nI n ∧ rm = nI n ∧ ∀ j, j < 12 → r8 j = r9 j
def InH (so sz it ho sh ss sw ms mz mn mh mo : Nat → Int32) : Prop := (∀ i, i < 4 → ∃ q n : Nat, q ≤ 5 ∧ n ≤ 40 ∧ so i = nI q - 1 ∧ ms i = nI q - 1 ∧ sz i = nI n ∧ mz i = nI n) ∧ (∀ j, j < 160 → it j = mn j) ∧ ∀ i, i < 4 → (ho i = 0 ∧ mh i = -1) ∨ (∃ k : Nat, k < 6 ∧ ho i = 1 ∧ mh i = 0 ∧ sh i = nI k ∧ mo i = nI k) ∨ (∃ q n : Nat, q ≤ 4 ∧ n ≤ 40 ∧ ho i = 2 ∧ mh i = nI (10 + q) ∧ ss i = nI q ∧ sw i = nI n ∧ mo i = nI n)
theorem e_row {p0 p1 : Int32} {n : Nat} (hn : n ≤ 4) : (f_X8_hasCell p0 p1 (nI n) = some 0 ∧ f_X9_isRow p0 p1 (nI n) = some 0) ∨ ∃ k w : Nat, k < n ∧ w < 3 ∧ p0 = nI k ∧ p1 = nI w ∧ f_X8_hasCell p0 p1 (nI n) = some 1 ∧ f_X9_isRow p0 p1 (nI n) = some 1 := by
  unfold f_X8_hasCell f_X9_isRow
  by_cases c : n = 0
  · subst c
    have e : nI 0 - 1 = (-1 : Int32) := rfl
    have : f_X8_within p0 0 (nI 0 - 1) = some 0 ∧ f_X9_in1 p0 0 (nI 0 - 1) = some 0 := by
      unfold f_X8_within f_X9_in1
      by_cases d : p0 < 0
      · exact ⟨if_pos d, if_pos d⟩
      · rw [if_neg d, e]
        have : (-1 : Int32) < p0 := by
          obtain ⟨j, hj, rfl⟩ := nI_of d
          rw [Int32.lt_iff_toInt_lt, nI_toInt hj]
          have : (-1 : Int32).toInt = -1 := rfl
          omega
        exact ⟨if_pos this, if_pos this⟩
    rw [this.1, this.2, qb1, qb1, if_pos rfl, if_pos rfl]
    exact Or.inl ⟨rfl, rfl⟩
  · have e : nI n - 1 = nI (n - 1) := by
      have := nI_pred (n - 1)
      rw [show n - 1 + 1 = n by omega] at this
      exact this
    rw [e]
    rcases e_in (p := p0) (lo := 0) (hi := nI (n - 1)) 0 (n - 1) rfl rfl (by omega) (by omega) with ⟨e1, e2, -⟩ | ⟨k, -, k2, rfl, e1, e2⟩
    · rw [e1, e2, qb1, qb1, if_pos rfl, if_pos rfl]
      exact Or.inl ⟨rfl, rfl⟩
    · rw [e1, e2, qb1, qb1, if_neg n10, if_neg n10]
      rcases e_in (p := p1) (lo := 0) (hi := 2) 0 2 rfl rfl (by decide) (by decide) with ⟨e3, e4, -⟩ | ⟨w, -, w2, rfl, e3, e4⟩
      · rw [e3, e4, qb1, if_pos rfl]
        exact Or.inl ⟨rfl, rfl⟩
      · rw [e3, e4, qb1, if_neg n10]
        exact Or.inr ⟨k, w, by omega, by omega, rfl, rfl, rfl, rfl⟩
section SW
variable {rc rm : Int32} {r8 r9 : Nat → Int32}
theorem st_row (h : InW rc r8 rm r9) (p0 p1 : Int32) : ∃ r, f_X8_row p0 p1 rc r8 = some r ∧ f_X9_row p0 p1 rm r9 = some r := by
  obtain ⟨n, hn, rfl, rfl, hr⟩ := h
  unfold f_X8_row f_X9_row
  rcases e_row (p0 := p0) (p1 := p1) hn with ⟨e1, e2⟩ | ⟨k, w, hk, hw, rfl, rfl, e1, e2⟩
  · rw [e1, e2, qb1, qb1, if_pos rfl, if_pos rfl]; exact ⟨_, rfl, rfl⟩
  · rw [e1, e2, qb1, qb1, if_neg n10, if_neg n10, ql3, q_mul, q_add, qcI (by omega) (by omega), qcI (by omega) (by omega), q_cl (by omega), hr _ (by omega)]
    exact ⟨_, rfl, rfl⟩
theorem st_alterRow (h : InW rc r8 rm r9) (p0 p1 p2 : Int32) : ∃ r r8' r9', f_X8_alterRow p0 p1 p2 rc r8 = some (r, r8') ∧ f_X9_alterRow p0 p1 p2 rm r9 = some (r, r9') ∧ InW rc r8' rm r9' := by
  have h0 := h
  obtain ⟨n, hn, rfl, rfl, hr⟩ := h
  unfold f_X8_alterRow f_X9_alterRow f_X8_put
  rcases e_row (p0 := p0) (p1 := p1) hn with ⟨e1, e2⟩ | ⟨k, w, hk, hw, rfl, rfl, e1, e2⟩
  · rw [e1, e2, qb1, qb1, if_pos rfl, if_pos rfl]; exact ⟨_, _, _, rfl, rfl, h0⟩
  · rw [e1, e2, qb1, qb1, if_neg n10, if_neg n10, ql3, q_mul, q_add, qcI (by omega) (by omega), qt1, qcI (by omega) (by omega), qb2, qcI (by omega) (by omega), qt1, qcI (by omega) (by omega), q_cl (by omega), hr _ (by omega)]
    refine ⟨_, _, _, rfl, rfl, n, hn, rfl, rfl, fun j hj => ?_⟩
    unfold upd
    split
    · rfl
    · exact hr j hj
end SW
theorem e_sh {p : Int32} : (f_X0_hasSheet p = some 0 ∧ f_X0_hasShelf p = some 0 ∧ f_X9_isSheet p = some 0) ∨ ∃ k : Nat, k < 4 ∧ p = nI k ∧ f_X0_hasSheet p = some 1 ∧ f_X0_hasShelf p = some 1 ∧ f_X9_isSheet p = some 1 := by
  unfold f_X0_hasSheet f_X0_hasShelf f_X9_isSheet f_X9_in1
  by_cases c : p < 0
  · rw [if_pos c, if_pos c]; exact Or.inl ⟨rfl, rfl, rfl⟩
  · obtain ⟨j, hj, rfl⟩ := nI_of c
    rw [if_neg c, if_neg c, ql4, ql3]
    by_cases d : j < 4
    · rw [if_neg (nI_ge d (by decide)), if_neg (nI_nlt (by omega) (by omega))]; exact Or.inr ⟨j, d, rfl, rfl, rfl, rfl⟩
    · rw [if_pos (nI_le (by omega) hj), if_pos (nI_lt (by omega) hj)]; exact Or.inl ⟨rfl, rfl, rfl⟩
theorem q_m1 {q : Nat} (h : q < 1000) : (nI q - 1 = -1 ↔ q = 0) ∧ (0 ≤ nI q - 1 ↔ q ≠ 0) ∧ (nI q - 1 < 0 ↔ q = 0) := by
  by_cases c : q = 0
  · subst c; decide
  · have e : nI q - 1 = nI (q - 1) := by
      have := nI_pred (q - 1)
      rw [show q - 1 + 1 = q by omega] at this
      exact this
    rw [e]
    have h1 : (nI (q - 1)).toInt = (q - 1 : Nat) := nI_toInt (by omega)
    refine ⟨⟨fun z => ?_, fun z => absurd z c⟩, ⟨fun _ => c, fun _ => nI_pos' (by omega)⟩, ⟨fun z => absurd z (nI_pos (by omega)), fun z => absurd z c⟩⟩
    rw [z] at h1
    have : (-1 : Int32).toInt = -1 := rfl
    omega
theorem e_fill : ∀ (d fuel j : Nat) (f : Nat → Int32) (hi : Nat), j + d = hi → d < fuel → hi ≤ 160 → ∃ f', f_J7_fill_fda19_L10 (nI hi) 0 160 fuel (nI j) f = some f' ∧ ∀ i, f' i = if j ≤ i ∧ i < hi then 0 else f i := by
  intro d
  induction d with
  | zero =>
    intro fuel j f hi hj hf hh
    obtain ⟨n, rfl⟩ : ∃ n, fuel = n + 1 := ⟨fuel - 1, by omega⟩
    rw [f_J7_fill_fda19_L10, if_pos (nI_le (by omega) (by omega))]
    exact ⟨_, rfl, fun i => by rw [if_neg (by omega)]⟩
  | succ d ih =>
    intro fuel j f hi hj hf hh
    obtain ⟨n, rfl⟩ : ∃ n, fuel = n + 1 := ⟨fuel - 1, by omega⟩
    rw [f_J7_fill_fda19_L10, if_neg (nI_ge (by omega) (by omega)), qcI (by omega) (by omega), ql1, q_add, qt1, q_cl (by omega)]
    obtain ⟨f', e1, e2⟩ := ih n (j + 1) (upd f j 0) hi (by omega) (by omega) hh
    refine ⟨f', e1, fun i => ?_⟩
    rw [e2 i]
    unfold upd
    by_cases c : i = j
    · rw [if_neg (by omega), if_pos c, if_pos (by omega)]
    · rw [if_neg c]
      by_cases d2 : j ≤ i ∧ i < hi
      · rw [if_pos d2, if_pos (by omega)]
      · rw [if_neg d2, if_neg (by omega)]
theorem e9_sheetL {k : Nat} (hk : k < 4) {z s : Nat → Int32} : ∀ (d fuel j : Nat) (f : Nat → Int32), j + d = 40 → d < fuel → ∃ f', f_X9_sheet_L64 (nI k) fuel (nI j) f z s = some (1, f', z, s) ∧ ∀ i, f' i = if 40 * k + j ≤ i ∧ i < 40 * k + 40 then 0 else f i := by
  intro d
  induction d with
  | zero =>
    intro fuel j f hj hf
    obtain ⟨n, rfl⟩ : ∃ n, fuel = n + 1 := ⟨fuel - 1, by omega⟩
    rw [f_X9_sheet_L64, ql40, if_pos (nI_le (by omega) (by omega))]
    exact ⟨_, rfl, fun i => by rw [if_neg (by omega)]⟩
  | succ d ih =>
    intro fuel j f hj hf
    obtain ⟨n, rfl⟩ : ∃ n, fuel = n + 1 := ⟨fuel - 1, by omega⟩
    rw [f_X9_sheet_L64, ql40, if_neg (nI_ge (by omega) (by omega)), q_mul, q_add, qcI (by omega) (by omega), ql1, q_add, qt1, q_cl (by omega)]
    obtain ⟨f', e1, e2⟩ := ih n (j + 1) (upd f (40 * k + j) 0) (by omega) (by omega)
    refine ⟨f', e1, fun i => ?_⟩
    rw [e2 i]
    unfold upd
    by_cases c : i = 40 * k + j
    · rw [if_neg (by omega), if_pos c, if_pos (by omega)]
    · rw [if_neg c]
      by_cases d2 : 40 * k + j ≤ i ∧ i < 40 * k + 40
      · rw [if_pos d2, if_pos (by omega)]
      · rw [if_neg d2, if_neg (by omega)]
section SH
variable {so sz it ho sh ss sw ms mz mn mh mo : Nat → Int32}
theorem e8_lay {k q n : Nat} (hk : k < 4) (hq : q ≤ 5) {p2 : Int32} (hp2 : q ≠ 0 → p2 = nI n) (hn0 : q = 0 → n = 0) : ∃ it', f_X0_lay (nI k) (nI q - 1) p2 it sz so = some (it', upd sz k (nI n), upd so k (nI q - 1)) ∧ ∀ i, it' i = if 40 * k ≤ i ∧ i < 40 * k + 40 then 0 else it i := by
  obtain ⟨f', e1, e2⟩ := e_fill 40 1000 (40 * k) it (40 * k + 40) (by omega) (by omega) (by omega)
  have hm := (@q_m1 q (by omega)).1
  unfold f_X0_lay f_X0_lay_b22 f_J7_fill_fda19 f_J7_rangeCheck_23922
  have ef : nI k * 40 = nI (40 * k) := by rw [ql40, q_mul, Nat.mul_comm]
  have et : (nI k + 1) * 40 = nI (40 * k + 40) := by rw [nI_1, ql40, q_mul]; congr 1; omega
  have e160 : Int32.ofNat 160 = nI 160 := rfl
  rw [ef, et, e160, if_pos (nI_le (by omega) (by omega)), if_pos (nI_pos' (by omega)), if_pos (nI_le (by omega) (by omega)), qb1, e1, qb1, qcI hk (by decide), q_cl (by omega)]
  refine ⟨f', ?_, e2⟩
  by_cases c : q = 0
  · rw [if_pos (hm.mpr c), hn0 c, qcI hk (by decide)]; rfl
  · rw [if_neg (fun z => c (hm.mp z)), hp2 c, qcI hk (by decide), qb1]
theorem st_sheet (h : InH so sz it ho sh ss sw ms mz mn mh mo) (p0 p1 p2 : Int32) : ∃ r it' sz' so' mn' mz' ms', f_X8_sheet p0 p1 p2 it sz so = some (r, it', sz', so') ∧ f_X9_sheet p0 p1 p2 mn mz ms = some (r, mn', mz', ms') ∧ InH so' sz' it' ho sh ss sw ms' mz' mn' mh mo := by
  have h0 := h
  obtain ⟨h1, h2, h3⟩ := h
  unfold f_X8_sheet f_X9_sheet
  rcases e_sh (p := p0) with ⟨e1, -, e2⟩ | ⟨k, hk, rfl, e1, -, e2⟩
  · rw [e1, e2, qb1, qb1, if_pos rfl, if_pos rfl]; exact ⟨_, _, _, _, _, _, _, rfl, rfl, h0⟩
  · rw [e1, e2, qb1, qb1, if_neg n10, if_neg n10]
    have hin : f_X9_in1 p1 (-1) 4 = f_X8_within p1 (-1) 4 := rfl
    rw [hin]
    by_cases c : ∃ q : Nat, q ≤ 5 ∧ p1 = nI q - 1
    · obtain ⟨q, hq, rfl⟩ := c
      have hw : f_X8_within (nI q - 1) (-1) 4 = some 1 := by
        rcases (by omega : q = 0 ∨ q = 1 ∨ q = 2 ∨ q = 3 ∨ q = 4 ∨ q = 5) with rfl | rfl | rfl | rfl | rfl | rfl <;> rfl
      have hm := @q_m1 q (by omega)
      rw [hw, qb1, if_neg n10, qb1, if_neg n10]
      have fin : ∀ n : Nat, n ≤ 40 → (q ≠ 0 → p2 = nI n) → (q = 0 → n = 0) → ∃ it' sz' so' mn' mz' ms', f_X8_sheet_b31 (nI k) (nI q - 1) p2 it sz so = some (1, it', sz', so') ∧ f_X9_sheet_b28 (nI k) (nI q - 1) p2 mn mz ms = some (1, mn', mz', ms') ∧ InH so' sz' it' ho sh ss sw ms' mz' mn' mh mo := by
        intro n hn hp2 hn0
        obtain ⟨it', e3, e4⟩ := e8_lay (it := it) (sz := sz) (so := so) hk hq hp2 hn0
        have hz : ∃ mn', f_X9_sheet_b39 (nI k) (nI q - 1) p2 mn mz ms = some (1, mn', upd mz k (nI n), upd ms k (nI q - 1)) ∧ ∀ i, mn' i = if 40 * k ≤ i ∧ i < 40 * k + 40 then 0 else mn i := by
          unfold f_X9_sheet_b39 f_X9_sheet_b60
          obtain ⟨f', e5, e6⟩ := e9_sheetL hk (z := upd mz k (nI n)) (s := upd ms k (nI q - 1)) 40 1000 0 mn (by omega) (by omega)
          rw [qcI hk (by decide), qcI hk (by decide), qcI hk (by decide), q_cl (by omega)]
          refine ⟨f', ?_, fun i => by rw [e6 i]; rfl⟩
          by_cases d : q = 0
          · rw [if_neg (fun z => hm.2.1.mp z d)]
            rw [hn0 d] at e5 ⊢
            exact e5
          · rw [if_pos (hm.2.1.mpr d), hp2 d]
            exact e5
        obtain ⟨mn', e5, e6⟩ := hz
        refine ⟨it', upd sz k (nI n), upd so k (nI q - 1), mn', upd mz k (nI n), upd ms k (nI q - 1), ?_, ?_, fun i hi => ?_, fun j hj => ?_, h3⟩
        · unfold f_X8_sheet_b31
          by_cases d : q = 0
          · rw [if_pos (hm.1.mpr d), e3, qb3]
          · rw [if_neg (fun z => d (hm.1.mp z)), if_pos (by rw [hp2 d]; exact nI_pos' (by omega)), e3, qb3]
        · unfold f_X9_sheet_b28
          by_cases d : q = 0
          · rw [if_pos (hm.2.2.mpr d)]; exact e5
          · rw [if_neg (fun z => d (hm.2.2.mp z)), if_pos (by rw [hp2 d]; exact nI_pos' (by omega))]; exact e5
        · by_cases d : i = k
          · exact ⟨q, n, hq, hn, by rw [d, upd_at], by rw [d, upd_at], by rw [d, upd_at], by rw [d, upd_at]⟩
          · rw [upd_ne _ _ d, upd_ne _ _ d, upd_ne _ _ d, upd_ne _ _ d]; exact h1 i hi
        · rw [e4 j, e6 j, h2 j hj]
      by_cases d : q = 0
      · obtain ⟨it', sz', so', mn', mz', ms', g1, g2, g3⟩ := fin 0 (by decide) (fun z => absurd d z) (fun _ => rfl)
        rw [if_pos (hm.1.mpr d), if_pos (hm.2.2.mpr d)]
        exact ⟨_, _, _, _, _, _, _, g1, g2, g3⟩
      · rw [if_neg (fun z => d (hm.1.mp z)), if_neg (fun z => d (hm.2.2.mp z))]
        by_cases c2 : p2 ≤ 40
        · rw [if_pos c2, if_pos c2]
          by_cases c3 : 0 ≤ p2
          · obtain ⟨n, hn, rfl⟩ := nI_of2 (M := 40) (n := 40) rfl (by intro z; exact Int32.lt_irrefl (Int32.lt_of_lt_of_le z c3)) c2
            obtain ⟨it', sz', so', mn', mz', ms', g1, g2, g3⟩ := fin n hn (fun _ => rfl) (fun z => absurd z d)
            exact ⟨_, _, _, _, _, _, _, g1, g2, g3⟩
          · unfold f_X8_sheet_b31 f_X9_sheet_b28
            rw [if_neg (fun z => d (hm.1.mp z)), if_neg (fun z => d (hm.2.2.mp z)), if_neg c3, if_neg c3]
            exact ⟨_, _, _, _, _, _, _, rfl, rfl, h0⟩
        · rw [if_neg c2, if_neg c2]; exact ⟨_, _, _, _, _, _, _, rfl, rfl, h0⟩
    · have hw : f_X8_within p1 (-1) 4 = some 0 := by
        unfold f_X8_within
        by_cases d : p1 < -1
        · exact if_pos d
        · rw [if_neg d]
          by_cases d2 : (4 : Int32) < p1
          · exact if_pos d2
          · exfalso
            apply c
            rw [Int32.lt_iff_toInt_lt] at d d2
            have em : (-1 : Int32).toInt = -1 := rfl
            have e4 : (4 : Int32).toInt = 4 := rfl
            refine ⟨(p1.toInt + 1).toNat, by omega, ?_⟩
            have e : p1 = nI (p1.toInt + 1).toNat - 1 := by
              rcases (by omega : p1.toInt = -1 ∨ p1.toInt = 0 ∨ p1.toInt = 1 ∨ p1.toInt = 2 ∨ p1.toInt = 3 ∨ p1.toInt = 4) with t | t | t | t | t | t <;> (apply Int32.toInt_inj.mp; rw [t]; rfl)
            exact e
      rw [hw, qb1, if_pos rfl, qb1, if_pos rfl]
      exact ⟨_, _, _, _, _, _, _, rfl, rfl, h0⟩
end SH
