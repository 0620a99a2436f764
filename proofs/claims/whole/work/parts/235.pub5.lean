/-! ===== E: trimFor, laneFor; by lot; reports ===== -/
theorem q_ush (x : Int32) : ∃ m : Nat, m < 65536 ∧ iushr x 16 = nI m := by
  refine ⟨(x.toUInt32 >>> ((16 : Int32).toUInt32 &&& Int32.toUInt32 31)).toNat, ?_, ?_⟩
  · rw [UInt32.toNat_shiftRight]
    have h1 : ((16 : Int32).toUInt32 &&& Int32.toUInt32 31).toNat % 32 = 16 := by decide +kernel
    rw [h1, Nat.shiftRight_eq_div_pow]
    have h2 := x.toUInt32.toNat_lt
    omega
  · unfold iushr nI
    apply Int32.toBitVec_inj.mp
    show _ = BitVec.ofNat 32 _
    rw [UInt32.toBitVec_toInt32]
    apply BitVec.eq_of_toNat_eq
    rw [BitVec.toNat_ofNat]
    exact (Nat.mod_eq_of_lt (UInt32.toNat_lt _)).symm
def lotZ (z : Int32) : Int32 := z * 1103515245 + 12345
def lotN (z : Int32) (n : Nat) : Nat := (iushr (lotZ z) 16).toNatClampNeg % (n + 1)
theorem lotN_le (z : Int32) (n : Nat) : lotN z n ≤ n := by
  have := Nat.mod_lt (iushr (lotZ z) 16).toNatClampNeg (show 0 < n + 1 by omega)
  unfold lotN
  omega
theorem lot_eq (z : Int32) {n : Nat} (hn : n < 1000) : iushr (lotZ z) 16 - iushr (lotZ z) 16 / (nI n + 1) * (nI n + 1) = nI (lotN z n) := by
  obtain ⟨m, h1, h2⟩ := q_ush (lotZ z)
  unfold lotN
  rw [h2, nI_1, q_rem (by omega) (by omega) (by omega), q_cl (by omega)]
section S5
variable {cnt en z wa sc ho rn rz pn : Int32} {kd tr ln li cu bu of rk rd rb rs rl rr ph pa pl pm s fa pi : Nat → Int32} {a : Nat → Nat} {RL : List RRul}
theorem e8_lobT (hB : BA a) (hE : CE cnt kd tr ln li cu bu a) (hS : CS wa ho of a) (he : en = nI (a 1)) (hC : CRs rk rd rb rs rl rr RL) {T la : Nat → Int32} (hMR : MRs T a RL) (hla : LB la a sc z T) {k : Nat} (hk : k < 6) : ∀ (d fuel v : Nat) (best most : Int32) (g fa ot s pi : Nat → Int32) (wt st ht : Int32), v + d = 10 → d < fuel → (∀ i, i < 6 → i ≠ k → g i = tr i) → MS s a sc z T →
    ∃ r fa' tr' wt' st' ht' ot' pi' s', f_X8_leastOfBest_trims_L14 (nI k) 9 cnt en bu cu kd ln li wa sc ho of (nI RL.length) rb rd rk rl rr rs fuel (tr k) best most (nI v) fa g wt st ht ot = some (r, fa', tr', wt', st', ht', ot') ∧ f_X9_bestFor_L23 (nI k) 2 9 fuel best most (nI v) la pi s = some (r, la, pi', s') ∧ (∀ i, i < 6 → tr' i = tr i) ∧ MS s' a sc z T := by
  intro d
  induction d with
  | zero =>
    intro fuel v best most g fa ot s pi wt st ht hv hf hg hM
    obtain ⟨n, rfl⟩ : ∃ n, fuel = n + 1 := ⟨fuel - 1, by omega⟩
    rw [f_X8_leastOfBest_trims_L14, f_X9_bestFor_L23, ql9, if_pos (nI_lt (by omega) (by omega)), if_pos (nI_lt (by omega) (by omega)), qcI (by omega) (by omega), q_cl (by omega)]
    refine ⟨_, _, _, _, _, _, _, _, _, rfl, rfl, fun i hi => ?_, hM⟩
    unfold upd
    by_cases c : i = k
    · rw [if_pos c, c]
    · rw [if_neg c]; exact hg i hi c
  | succ d ih =>
    intro fuel v best most g fa ot s pi wt st ht hv hf hg hM
    obtain ⟨n, rfl⟩ : ∃ n, fuel = n + 1 := ⟨fuel - 1, by omega⟩
    have hB2 : BA (updN a (37 + 5 * k) v) := BA_upd hB (by omega) (by omega) (by omega) (fun i hi => by omega) (by omega) (by omega)
    have hE2 : CE cnt kd (upd g k (nI v)) ln li cu bu (updN a (37 + 5 * k) v) := CE_mk (by rw [updN_ne _ _ (by omega)]; exact hE.1) (ar5n hE.ekd (by omega)) (fun i hi => by
      unfold upd updN
      by_cases c : i = k
      · rw [if_pos c, if_pos (by omega)]
      · rw [if_neg c, if_neg (by omega), hg i hi c]; exact hE.etr i hi) (ar5n hE.eln (by omega)) (ar1n hE.eli (by omega)) (ar1n hE.ecu (by omega)) (ar1n hE.ebu (by omega))
    obtain ⟨fa1, wa1, sc1, ho1, of1, e1, e2⟩ := e8_worth (fa := fa) (of0 := ot) (en := en) (sc := sc) hB2 hE2 (CS_n hS (by omega) (by omega)) hC (by rw [updN_ne _ _ (by omega)]; exact he) (show 16 ≤ 16 by decide)
    have hM2 := MS_upd hM (j := 37 + 5 * k) v (by omega) (by omega)
    have hMR2 : MRs T (updN a (37 + 5 * k) v) RL := ⟨hMR.1, hMR.2.1, hMR.2.2.1, by rw [updN_ne _ _ (by omega)]; exact hMR.2.2.2⟩
    obtain ⟨pi1, s1, e3, e4⟩ := e9_restOf (pi := pi) hB2 hM2 hMR2 (show 16 ≤ 16 by decide)
    obtain ⟨s2, e5, e6⟩ := e9_bk hla e4
    have ep : f_X9_puts (nI k) 2 (nI v) s = some (upd s (37 + 5 * k) (nI v)) := by rw [show 37 + 5 * k = 35 + 5 * k + 2 by omega]; exact e9_puts (f := 2) hk (by decide) _
    rw [f_X8_leastOfBest_trims_L14, f_X9_bestFor_L23, ql9, if_neg (nI_nlt (by omega) (by omega)), if_neg (nI_nlt (by omega) (by omega)), qcI (by omega) (by omega), q_cl (by omega), show (16 : Int32) = nI 16 from rfl, e1, qb6, ep, qb1, e3, qb3]
    unfold f_X9_bestFor_b59
    rw [e5, qb1, qb1, ql1, q_add, qt1, qt1, qt1, qt1]
    have hg2 : ∀ i, i < 6 → i ≠ k → upd g k (nI v) i = tr i := fun i hi c => by rw [upd_ne _ _ c]; exact hg i hi c
    by_cases c : nI (rsW RL 16 (updN a (37 + 5 * k) v)) ≤ most
    · rw [if_pos c, if_pos c, if_pos c]
      exact ih n (v + 1) best most _ fa1 of1 s2 pi1 wa1 sc1 ho1 (by omega) (by omega) hg2 e6
    · rw [if_neg c, if_neg c, if_neg c]
      exact ih n (v + 1) (nI v) _ _ fa1 of1 s2 pi1 wa1 sc1 ho1 (by omega) (by omega) hg2 e6
theorem st_trimFor (h : InR cnt en z wa sc ho kd tr ln li cu bu of rn rz rk rd rb rs rl rr pn ph pa pl pm s) {wt st ht : Int32} {ot la : Nat → Int32} (p0 : Int32) :
    ∃ r fa' tr' wt' st' ht' ot' la' pi' s', f_X8_trimFor p0 cnt en bu cu kd ln li wa sc ho of rn rb rd fa rk rl rr rs tr wt st ht ot = some (r, fa', tr', wt', st', ht', ot') ∧ f_X9_trimFor p0 la pi s = some (r, la', pi', s') ∧ InR cnt en z wa sc ho kd tr' ln li cu bu of rn rz rk rd rb rs rl rr pn ph pa pl pm s' := by
  have h0 := h
  obtain ⟨a, RL, hB, hE, hS, he, hC, hn, hz, hP, hM, hMR⟩ := h
  have h4 := hB.1
  unfold f_X8_trimFor f_X9_trimFor f_X9_bestFor
  rcases e_has (p := p0) (n := a 4) (hM.1 4 (by decide) (by decide) (by decide)) (by omega) with ⟨e1, e2⟩ | ⟨k, hk, rfl, e1, e2⟩
  · exact ⟨-1, _, _, _, _, _, _, _, _, _, by rw [hE.1, e1, qb1, if_pos rfl], by rw [e2, qb1, if_pos rfl, qb4], h0⟩
  · have hk6 : k < 6 := by omega
    obtain ⟨la1, e5, e6⟩ := e9_layDown (la := la) (s := s)
    have hLB : LB la1 a sc z s := ⟨s, hM, e6⟩
    obtain ⟨r, fa2, tr2, wt2, st2, ht2, ot2, pi2, s2, e7, e8, e9, e10⟩ := e8_lobT hB hE hS he hC hMR hLB hk6 10 1000 0 (nI 0) (-1) tr fa ot s pi wt st ht (by omega) (by omega) (fun _ _ _ => rfl) hM
    rw [hE.1, e1, qb1, if_neg n10, ← hE.1, e2, qb1, if_neg n10, e5, qb1]
    unfold f_X8_leastOfBest_trims
    rw [qcI (by omega) (by omega), q_cl (by omega), qt1, hn, ql0, e7, qb7, e8, qb4]
    exact ⟨_, _, _, _, _, _, _, _, _, _, rfl, rfl, InR_mk (a := a) (b := a) hB (CE_mk hE.1 hE.ekd (fun i hi => by rw [e9 i hi]; exact hE.etr i hi) hE.eln hE.eli hE.ecu hE.ebu) hS he hC rfl hz hP e10 hMR rfl⟩
theorem e8_lobL (hB : BA a) (hE : CE cnt kd tr ln li cu bu a) (hS : CS wa ho of a) (he : en = nI (a 1)) (hC : CRs rk rd rb rs rl rr RL) {T la : Nat → Int32} (hMR : MRs T a RL) (hla : LB la a sc z T) {k : Nat} (hk : k < 6) : ∀ (d fuel v : Nat) (best most : Int32) (g fa ot s pi : Nat → Int32) (wt st ht : Int32), v + d = 6 → d < fuel → (∀ i, i < 6 → i ≠ k → g i = ln i) → MS s a sc z T →
    ∃ r fa' ln' wt' st' ht' ot' pi' s', f_X8_leastOfBest_lanes_L14 (nI k) 5 cnt en bu cu kd li wa sc ho of (nI RL.length) rb rd rk rl rr rs tr fuel (ln k) best most (nI v) g fa wt st ht ot = some (r, ln', fa', wt', st', ht', ot') ∧ f_X9_bestFor_L23 (nI k) 3 5 fuel best most (nI v) la pi s = some (r, la, pi', s') ∧ (∀ i, i < 6 → ln' i = ln i) ∧ MS s' a sc z T := by
  intro d
  induction d with
  | zero =>
    intro fuel v best most g fa ot s pi wt st ht hv hf hg hM
    obtain ⟨n, rfl⟩ : ∃ n, fuel = n + 1 := ⟨fuel - 1, by omega⟩
    rw [f_X8_leastOfBest_lanes_L14, f_X9_bestFor_L23, ql5, if_pos (nI_lt (by omega) (by omega)), if_pos (nI_lt (by omega) (by omega)), qcI (by omega) (by omega), q_cl (by omega)]
    refine ⟨_, _, _, _, _, _, _, _, _, rfl, rfl, fun i hi => ?_, hM⟩
    unfold upd
    by_cases c : i = k
    · rw [if_pos c, c]
    · rw [if_neg c]; exact hg i hi c
  | succ d ih =>
    intro fuel v best most g fa ot s pi wt st ht hv hf hg hM
    obtain ⟨n, rfl⟩ : ∃ n, fuel = n + 1 := ⟨fuel - 1, by omega⟩
    have hB2 : BA (updN a (38 + 5 * k) v) := BA_upd hB (by omega) (by omega) (by omega) (fun i hi => by omega) (by omega) (by omega)
    have hE2 : CE cnt kd tr (upd g k (nI v)) li cu bu (updN a (38 + 5 * k) v) := CE_mk (by rw [updN_ne _ _ (by omega)]; exact hE.1) (ar5n hE.ekd (by omega)) (ar5n hE.etr (by omega)) (fun i hi => by
      unfold upd updN
      by_cases c : i = k
      · rw [if_pos c, if_pos (by omega)]
      · rw [if_neg c, if_neg (by omega), hg i hi c]; exact hE.eln i hi) (ar1n hE.eli (by omega)) (ar1n hE.ecu (by omega)) (ar1n hE.ebu (by omega))
    obtain ⟨fa1, wa1, sc1, ho1, of1, e1, e2⟩ := e8_worth (fa := fa) (of0 := ot) (en := en) (sc := sc) hB2 hE2 (CS_n hS (by omega) (by omega)) hC (by rw [updN_ne _ _ (by omega)]; exact he) (show 16 ≤ 16 by decide)
    have hM2 := MS_upd hM (j := 38 + 5 * k) v (by omega) (by omega)
    have hMR2 : MRs T (updN a (38 + 5 * k) v) RL := ⟨hMR.1, hMR.2.1, hMR.2.2.1, by rw [updN_ne _ _ (by omega)]; exact hMR.2.2.2⟩
    obtain ⟨pi1, s1, e3, e4⟩ := e9_restOf (pi := pi) hB2 hM2 hMR2 (show 16 ≤ 16 by decide)
    obtain ⟨s2, e5, e6⟩ := e9_bk hla e4
    have ep : f_X9_puts (nI k) 3 (nI v) s = some (upd s (38 + 5 * k) (nI v)) := by rw [show 38 + 5 * k = 35 + 5 * k + 3 by omega]; exact e9_puts (f := 3) hk (by decide) _
    rw [f_X8_leastOfBest_lanes_L14, f_X9_bestFor_L23, ql5, if_neg (nI_nlt (by omega) (by omega)), if_neg (nI_nlt (by omega) (by omega)), qcI (by omega) (by omega), q_cl (by omega), show (16 : Int32) = nI 16 from rfl, e1, qb6, ep, qb1, e3, qb3]
    unfold f_X9_bestFor_b59
    rw [e5, qb1, qb1, ql1, q_add, qt1, qt1, qt1, qt1]
    have hg2 : ∀ i, i < 6 → i ≠ k → upd g k (nI v) i = ln i := fun i hi c => by rw [upd_ne _ _ c]; exact hg i hi c
    by_cases c : nI (rsW RL 16 (updN a (38 + 5 * k) v)) ≤ most
    · rw [if_pos c, if_pos c, if_pos c]
      exact ih n (v + 1) best most _ fa1 of1 s2 pi1 wa1 sc1 ho1 (by omega) (by omega) hg2 e6
    · rw [if_neg c, if_neg c, if_neg c]
      exact ih n (v + 1) (nI v) _ _ fa1 of1 s2 pi1 wa1 sc1 ho1 (by omega) (by omega) hg2 e6
theorem st_laneFor (h : InR cnt en z wa sc ho kd tr ln li cu bu of rn rz rk rd rb rs rl rr pn ph pa pl pm s) {wt st ht : Int32} {ot la : Nat → Int32} (p0 : Int32) :
    ∃ r ln' fa' wt' st' ht' ot' la' pi' s', f_X8_laneFor p0 cnt en bu cu kd ln li wa sc ho of rn rb rd fa rk rl rr rs tr wt st ht ot = some (r, ln', fa', wt', st', ht', ot') ∧ f_X9_laneFor p0 la pi s = some (r, la', pi', s') ∧ InR cnt en z wa sc ho kd tr ln' li cu bu of rn rz rk rd rb rs rl rr pn ph pa pl pm s' := by
  have h0 := h
  obtain ⟨a, RL, hB, hE, hS, he, hC, hn, hz, hP, hM, hMR⟩ := h
  have h4 := hB.1
  unfold f_X8_laneFor f_X9_laneFor f_X9_bestFor
  rcases e_has (p := p0) (n := a 4) (hM.1 4 (by decide) (by decide) (by decide)) (by omega) with ⟨e1, e2⟩ | ⟨k, hk, rfl, e1, e2⟩
  · exact ⟨-1, _, _, _, _, _, _, _, _, _, by rw [hE.1, e1, qb1, if_pos rfl], by rw [e2, qb1, if_pos rfl, qb4], h0⟩
  · have hk6 : k < 6 := by omega
    obtain ⟨la1, e5, e6⟩ := e9_layDown (la := la) (s := s)
    have hLB : LB la1 a sc z s := ⟨s, hM, e6⟩
    obtain ⟨r, fa2, tr2, wt2, st2, ht2, ot2, pi2, s2, e7, e8, e9, e10⟩ := e8_lobL (tr := tr) hB hE hS he hC hMR hLB hk6 6 1000 0 (nI 0) (-1) ln fa ot s pi wt st ht (by omega) (by omega) (fun _ _ _ => rfl) hM
    rw [hE.1, e1, qb1, if_neg n10, ← hE.1, e2, qb1, if_neg n10, e5, qb1]
    unfold f_X8_leastOfBest_lanes
    rw [qcI (by omega) (by omega), q_cl (by omega), qt1, hn, ql0, e7, qb7, e8, qb4]
    exact ⟨_, _, _, _, _, _, _, _, _, _, rfl, rfl, InR_mk (a := a) (b := a) hB (CE_mk hE.1 hE.ekd hE.etr (fun i hi => by rw [e9 i hi]; exact hE.eln i hi) hE.eli hE.ecu hE.ebu) hS he hC rfl hz hP e10 hMR rfl⟩
theorem e8_byLot (hB : BA a) (hE : CE cnt kd tr ln li cu bu a) (hS : CS wa ho of a) (hC : CRs rk rd rb rs rl rr RL) :
    ∃ wa' ho' of' fa', f_X3_passByLot wa sc ho of cnt z bu cu kd ln li (nI RL.length) rb rd fa rk rl rr rs tr = some (nI (goW a RL (lotN z (a 4))), wa', sc + nI (goW a RL (lotN z (a 4))), ho', of', lotZ z, fa') ∧ CS wa' ho' of' (goA a RL (lotN z (a 4))) := by
  have h4 := hB.1
  obtain ⟨wa1, ho1, of1, fa1, e1, e2⟩ := e8_pass (fa := fa) (sc := sc) hB hE hS hC (lotN_le z (a 4))
  unfold f_X3_passByLot
  have ez : (z * 1103515245) + 12345 = lotZ z := rfl
  have e0 : nI (a 4) + 1 = nI (a 4 + 1) := nI_1 _
  have el : iushr (lotZ z) 16 - iushr (lotZ z) 16 / (cnt + 1) * (cnt + 1) = nI (lotN z (a 4)) := by rw [hE.1]; exact lot_eq z (by omega)
  rw [ez, qt1, el, e1, qb6, hE.1, e0, qcD (by omega) (by omega)]
  exact ⟨_, _, _, _, rfl, e2⟩
theorem e9_byLot {T : Nat → Int32} (hB : BA a) (hM : MS s a sc z T) (hMR : MRs T a RL) :
    ∃ pi' s', f_X9_byLot pi s = some (nI (goW a RL (lotN z (a 4))), pi', s') ∧ MS s' (goA a RL (lotN z (a 4))) (sc + nI (goW a RL (lotN z (a 4)))) (lotZ z) T := by
  have h4 := hB.1
  have hM2 : MS (upd s 3 (lotZ z)) a sc (lotZ z) T := ⟨fun i h1 h2 h3 => by rw [upd_ne _ _ h3]; exact hM.1 i h1 h2 h3, by rw [upd_ne _ _ (by decide)]; exact hM.2.1, upd_at _ _ _, fun j hj => by rw [upd_ne _ _ (by omega)]; exact hM.2.2.2 j hj⟩
  obtain ⟨pi1, s1, e1, e2⟩ := e9_goesBy (pi := pi) hB hM2 hMR (lotN_le z (a 4))
  unfold f_X9_byLot
  have ez : (z * 1103515245) + 12345 = lotZ z := rfl
  have e0 : nI (a 4) + 1 = nI (a 4 + 1) := nI_1 _
  rw [hM.2.2.1, ez, qt1, upd_at, upd_ne _ _ (show (4 : Nat) ≠ 3 by decide), hM.1 4 (by decide) (by decide) (by decide), lot_eq z (by omega), e1, qb3, e0, qcD (by omega) (by omega)]
  exact ⟨_, _, rfl, e2⟩
theorem st_lot (h : InR cnt en z wa sc ho kd tr ln li cu bu of rn rz rk rd rb rs rl rr pn ph pa pl pm s) :
    ∃ r z' wa' sc' ho' of' fa' pi' s', f_X8_lot cnt en z bu cu kd ln li wa sc ho of rn rb rd fa rk rl rr rs tr = some (r, z', wa', sc', ho', of', fa') ∧ f_X9_lot pi s = some (r, pi', s') ∧ InR cnt en z' wa' sc' ho' kd tr ln li cu bu of' rn rz rk rd rb rs rl rr pn ph pa pl pm s' := by
  have h0 := h
  obtain ⟨a, RL, hB, hE, hS, he, hC, hn, hz, hP, hM, hMR⟩ := h
  unfold f_X8_lot f_X9_lot
  rw [e8_isOver hS.1 he hB, qb1, e9_isOver hB hM, qb1]
  by_cases c : a 0 < a 1
  · rw [if_pos c, if_pos rfl, if_pos rfl]
    obtain ⟨wa1, ho1, of1, fa1, e1, e2⟩ := e8_byLot (fa := fa) (sc := sc) (z := z) hB hE hS hC
    obtain ⟨pi1, s1, e3, e4⟩ := e9_byLot (pi := pi) hB hM hMR
    rw [← hn] at e1
    refine ⟨_, _, _, _, _, _, _, _, _, by rw [e1, qb7], by rw [e3, qb3], ?_⟩
    exact InR_mk (a := goA a RL (lotN z (a 4))) (b := a) (BA_goA hB c) (CE_goA hB hE) e2 (by rw [goA_1 hB]; exact he) hC hn hz (RP_congr hP (fun y hy => goA_oth (by omega) (by omega) hB.1)) e4 hMR (goA_oth (by decide) (by decide) hB.1)
  · rw [if_neg c, if_neg n10, if_neg n10]
    exact ⟨_, _, _, _, _, _, _, _, _, rfl, rfl, h0⟩
/-- all watches yet by lot, m at most -/
def ltW (RL : List RRul) : Nat → (Nat → Nat) → Int32 → Nat
  | 0, _, _ => 0
  | m + 1, b, z => if b 0 < b 1 then goW b RL (lotN z (b 4)) + ltW RL m (goA b RL (lotN z (b 4))) (lotZ z) else 0
def ltZ (RL : List RRul) : Nat → (Nat → Nat) → Int32 → Int32
  | 0, _, z => z
  | m + 1, b, z => if b 0 < b 1 then ltZ RL m (goA b RL (lotN z (b 4))) (lotZ z) else z
theorem ltW_s {m : Nat} {b : Nat → Nat} : ltW RL (m + 1) b z = if b 0 < b 1 then goW b RL (lotN z (b 4)) + ltW RL m (goA b RL (lotN z (b 4))) (lotZ z) else 0 := rfl
theorem ltZ_s {m : Nat} {b : Nat → Nat} : ltZ RL (m + 1) b z = if b 0 < b 1 then ltZ RL m (goA b RL (lotN z (b 4))) (lotZ z) else z := rfl
theorem e8_wblL {sc0 : Int32} : ∀ (m fuel i : Nat) (b : Nat → Nat) (fa of : Nat → Int32) (wa sc ho z : Int32), i + m = 16 → m < fuel → BA b → en = nI (b 1) → CE cnt kd tr ln li cu bu b → CS wa ho of b → CRs rk rd rb rs rl rr RL →
    ∃ fa' wa' sc' ho' of', f_X8_worthByLot_L16 cnt en bu cu kd ln li sc0 (nI RL.length) rb rd rk rl rr rs tr fuel (nI i) z fa wa sc ho of = some (sc + nI (ltW RL m b z) - sc0, ltZ RL m b z, fa', wa', sc', ho', of') := by
  intro m
  induction m with
  | zero =>
    intro fuel i b fa of wa sc ho z hi hf hB he hE hS hC
    obtain ⟨n, rfl⟩ : ∃ n, fuel = n + 1 := ⟨fuel - 1, by omega⟩
    rw [f_X8_worthByLot_L16, ql16, if_pos (nI_le (by omega) (by omega))]
    unfold f_X8_worthByLot_b54 ltW ltZ
    rw [show sc + nI 0 = sc from Int32.add_zero _]
    exact ⟨_, _, _, _, _, rfl⟩
  | succ m ih =>
    intro fuel i b fa of wa sc ho z hi hf hB he hE hS hC
    obtain ⟨n, rfl⟩ : ∃ n, fuel = n + 1 := ⟨fuel - 1, by omega⟩
    rw [f_X8_worthByLot_L16, ql16, if_neg (nI_ge (by omega) (by omega)), e8_isOver hS.1 he hB, qb1, ltW_s, ltZ_s]
    by_cases c : b 0 < b 1
    · obtain ⟨wa1, ho1, of1, fa1, e1, e2⟩ := e8_byLot (fa := fa) (sc := sc) (z := z) hB hE hS hC
      rw [if_pos c, if_pos rfl, e1, qb7, ql1, q_add, qt1, if_pos c, if_pos c]
      obtain ⟨fa2, wa2, sc2, ho2, of2, e3⟩ := ih n (i + 1) (goA b RL (lotN z (b 4))) fa1 of1 wa1 (sc + nI (goW b RL (lotN z (b 4)))) ho1 (lotZ z) (by omega) (by omega) (BA_goA hB c) (by rw [goA_1 hB]; exact he) (CE_goA hB hE) e2 hC
      rw [Int32.add_assoc, q_add] at e3
      exact ⟨_, _, _, _, _, e3⟩
    · rw [if_neg c, if_neg n10, if_neg c, if_neg c, show sc + nI 0 = sc from Int32.add_zero _]
      exact ⟨_, _, _, _, _, rfl⟩
theorem e8_wbl {ot : Nat → Int32} (hB : BA a) (hE : CE cnt kd tr ln li cu bu a) (hS : CS wa ho of a) (he : en = nI (a 1)) (hC : CRs rk rd rb rs rl rr RL) :
    ∃ fa' wa' sc' ho' of', f_X8_worthByLot cnt en z bu cu kd ln li wa sc ho of (nI RL.length) rb rd fa rk rl rr rs tr ot = some (nI (ltW RL 16 a z), ltZ RL 16 a z, fa', wa', sc', ho', of') := by
  unfold f_X8_worthByLot
  rw [e8_become, qb4]
  obtain ⟨fa2, wa2, sc2, ho2, of2, e3⟩ := e8_wblL (sc0 := sc) 16 1000 0 a fa (va_cpy of ot 0 0 6) wa sc ho z (by omega) (by omega) hB he hE (CS_cpy hS) hC
  rw [show sc + nI (ltW RL 16 a z) - sc = nI (ltW RL 16 a z) by grind] at e3
  exact ⟨_, _, _, _, _, e3⟩
theorem ltW_le : ∀ (m : Nat) (b : Nat → Nat) (z : Int32), BA b → ltW RL m b z ≤ 21 * m := by
  intro m
  induction m with
  | zero => intro b z _; exact Nat.le_refl 0
  | succ m ih =>
    intro b z hB
    rw [ltW_s]
    split
    · have h1 := goW_le (RL := RL) hB (lotN z (b 4))
      have h2 := ih (goA b RL (lotN z (b 4))) (lotZ z) (BA_goA hB (by assumption))
      omega
    · omega
theorem e9_timesI {T la : Nat → Int32} {p1 : Int32} {rec0 : Int32 → Int32 → (Nat → Int32) → (Nat → Int32) → (Nat → Int32) → Option (Int32 × (Nat → Int32) × (Nat → Int32) × (Nat → Int32))} {v3 v4 : Int32} : ∀ (m fuel v : Nat) (b : Nat → Nat) (s pi : Nat → Int32) (sc z : Int32), b 1 - b 0 ≤ m → m < fuel → BA b → MS s b sc z T → MRs T b RL →
    ∃ pi' s' b' sc', f_X9_times_L41 rec0 p1 fuel v3 v4 (nI v) la pi s = f_X9_times_b60 rec0 p1 v3 v4 (nI (v + ltW RL m b z)) la pi' s' ∧ MS s' b' sc' (ltZ RL m b z) T := by
  intro m
  induction m with
  | zero =>
    intro fuel v b s pi sc z hm hf hB hM hMR
    obtain ⟨n, rfl⟩ : ∃ n, fuel = n + 1 := ⟨fuel - 1, by omega⟩
    rw [f_X9_times_L41, e9_isOver hB hM, qb1, if_neg (show ¬ b 0 < b 1 by omega), if_neg n10]
    exact ⟨_, _, _, _, rfl, hM⟩
  | succ m ih =>
    intro fuel v b s pi sc z hm hf hB hM hMR
    obtain ⟨n, rfl⟩ : ∃ n, fuel = n + 1 := ⟨fuel - 1, by omega⟩
    rw [f_X9_times_L41, e9_isOver hB hM, qb1, ltW_s, ltZ_s]
    by_cases c : b 0 < b 1
    · obtain ⟨pi1, s1, e3, e4⟩ := e9_byLot (pi := pi) hB hM hMR
      have g0 := goA_0 (a := b) (RL := RL) (act := lotN z (b 4))
      have g1 := goA_1 (RL := RL) (act := lotN z (b 4)) hB
      obtain ⟨pi2, s2, b2, sc2, e5, e6⟩ := ih n (v + goW b RL (lotN z (b 4))) (goA b RL (lotN z (b 4))) s1 pi1 _ (lotZ z) (by omega) (by omega) (BA_goA hB c) e4 (MRs_go hB hMR)
      rw [if_pos c, if_pos rfl, e3, qb3, q_add, qt1, if_pos c, if_pos c, ← Nat.add_assoc]
      exact ⟨_, _, _, _, e5, e6⟩
    · rw [if_neg c, if_neg n10, if_neg c, if_neg c]
      exact ⟨_, _, _, _, rfl, hM⟩
theorem e8_timesL (hB : BA a) (hE : CE cnt kd tr ln li cu bu a) (hS : CS wa ho of a) (he : en = nI (a 1)) (hC : CRs rk rd rb rs rl rr RL) {T la : Nat → Int32} (hMR : MRs T a RL) {z0 : Int32} (hla : LB la a sc z0 T) {N v : Nat} (hN : N ≤ 40) (hv : v ≤ 999) {zz : Int32} : ∀ (m fuel i g : Nat) (fa ot s pi : Nat → Int32) (wt st ht z : Int32), i + m = N → m < fuel → MS s a sc z T →
    ∃ r fa' wt' st' ht' ot' pi' s', f_X8_times_L37 (nI N) (nI v) cnt en bu cu kd ln li wa sc ho of (nI RL.length) rb rd rk rl rr rs tr fuel zz (nI g) (nI i) z fa wt st ht ot = some (r, zz, fa', wt', st', ht', ot') ∧ f_X9_times_L32 (nI N) (nI v) fuel (nI g) (nI i) la pi s = some (r, la, pi', s') ∧ MS s' a sc z0 T := by
  intro m
  induction m with
  | zero =>
    intro fuel i g fa ot s pi wt st ht z hi hf hM
    obtain ⟨n, rfl⟩ : ∃ n, fuel = n + 1 := ⟨fuel - 1, by omega⟩
    obtain ⟨s2, e1, e2⟩ := e9_bk hla hM
    rw [f_X8_times_L37, f_X9_times_L32, if_pos (nI_le (by omega) (by omega)), if_pos (nI_le (by omega) (by omega)), e1, qb1]
    exact ⟨_, _, _, _, _, _, _, _, rfl, rfl, e2⟩
  | succ m ih =>
    intro fuel i g fa ot s pi wt st ht z hi hf hM
    obtain ⟨n, rfl⟩ : ∃ n, fuel = n + 1 := ⟨fuel - 1, by omega⟩
    have b1 := hB.2.2.1
    obtain ⟨fa1, wa1, sc1, ho1, of1, e1⟩ := e8_wbl (fa := fa) (z := z) (ot := ot) (sc := sc) hB hE hS he hC
    obtain ⟨pi1, s1, b', sc', e2, e3⟩ := e9_timesI (la := la) (p1 := nI v) (rec0 := f_X9_times_L32 (nI N) (nI v) n) (v3 := nI g) (v4 := nI i) 16 1000 0 a s pi sc z (by omega) (by omega) hB hM hMR
    obtain ⟨s2, e4, e5⟩ := e9_bk hla e3
    have hw := ltW_le (RL := RL) 16 a z hB
    rw [f_X8_times_L37, f_X9_times_L32, if_neg (nI_ge (by omega) (by omega)), if_neg (nI_ge (by omega) (by omega)), e1, qb7, ql0, e2, Nat.zero_add]
    have hM3 : MS (upd s2 3 (ltZ RL 16 a z)) a sc (ltZ RL 16 a z) T := ⟨fun i h1 h2 h3 => by rw [upd_ne _ _ h3]; exact e5.1 i h1 h2 h3, by rw [upd_ne _ _ (by decide)]; exact e5.2.1, upd_at _ _ _, fun j hj => by rw [upd_ne _ _ (by omega)]; exact e5.2.2.2 j hj⟩
    unfold f_X9_times_b60 f_X9_times_b72
    simp only [e3.2.2.1, qt1, e4, qb1]
    simp only [ql1, q_add]
    by_cases c : nI (ltW RL 16 a z) < nI v
    · rw [if_pos c, if_pos c, show nI g + 0 = nI g from Int32.add_zero _]
      exact ih n (i + 1) g fa1 of1 _ pi1 wa1 sc1 ho1 _ (by omega) (by omega) hM3
    · rw [if_neg c, if_neg c]
      exact ih n (i + 1) (g + 1) fa1 of1 _ pi1 wa1 sc1 ho1 _ (by omega) (by omega) hM3
theorem st_times (h : InR cnt en z wa sc ho kd tr ln li cu bu of rn rz rk rd rb rs rl rr pn ph pa pl pm s) {wt st ht : Int32} {ot la : Nat → Int32} (p0 p1 : Int32) :
    ∃ r z' fa' wt' st' ht' ot' la' pi' s', f_X8_times p0 p1 cnt en z bu cu kd ln li wa sc ho of rn rb rd fa rk rl rr rs tr wt st ht ot = some (r, z', fa', wt', st', ht', ot') ∧ f_X9_times p0 p1 la pi s = some (r, la', pi', s') ∧ InR cnt en z' wa sc ho kd tr ln li cu bu of rn rz rk rd rb rs rl rr pn ph pa pl pm s' := by
  have h0 := h
  obtain ⟨a, RL, hB, hE, hS, he, hC, hn, hz, hP, hM, hMR⟩ := h
  unfold f_X8_times f_X9_times
  rcases e_in (p := p0) (lo := 1) (hi := 40) 1 40 rfl rfl (by decide) (by decide) with ⟨e1, e2, -⟩ | ⟨k, k1, k2, rfl, e1, e2⟩
  · exact ⟨-1, _, _, _, _, _, _, _, _, _, by rw [e1, qb1, if_pos rfl], by rw [e2, qb1, if_pos rfl], h0⟩
  · rw [e1, qb1, if_neg n10, e2, qb1, if_neg n10]
    rcases e_in (p := p1) (lo := 0) (hi := 999) 0 999 rfl rfl (by decide) (by decide) with ⟨e3, e4, -⟩ | ⟨q, -, q2, rfl, e3, e4⟩
    · exact ⟨-1, _, _, _, _, _, _, _, _, _, by rw [e3, qb1, if_pos rfl], by rw [e4, qb1, if_pos rfl], h0⟩
    · rw [e3, qb1, if_neg n10, e4, qb1, if_neg n10]
      obtain ⟨la1, e5, e6⟩ := e9_layDown (la := la) (s := s)
      have hLB : LB la1 a sc z s := ⟨s, hM, e6⟩
      obtain ⟨r, fa2, wt2, st2, ht2, ot2, pi2, s2, e7, e8, e9⟩ := e8_timesL hB hE hS he hC hMR hLB k2 q2 (zz := z) k 1000 0 0 fa ot s pi wt st ht z (by omega) (by omega) hM
      rw [← hn] at e7
      exact ⟨_, _, _, _, _, _, _, _, _, _, e7, by rw [e5, qb1]; exact e8, InR_mk (a := a) (b := a) hB hE hS he hC hn hz hP e9 hMR rfl⟩
/-- reports: filed -/
theorem st_report (h : InR cnt en z wa sc ho kd tr ln li cu bu of rn rz rk rd rb rs rl rr pn ph pa pl pm s) (p0 p1 p2 p3 : Int32) :
    ∃ r pn' pa' ph' pl' pm' s', f_X8_report p0 p1 p2 p3 pn pa ph pl pm = some (r, pn', pa', ph', pl', pm') ∧ f_X9_report p0 p1 p2 p3 s = some (r, s') ∧ InR cnt en z wa sc ho kd tr ln li cu bu of rn rz rk rd rb rs rl rr pn' ph' pa' pl' pm' s' := by
  have h0 := h
  obtain ⟨a, RL, hB, hE, hS, he, hC, hn, hz, hP, hM, hMR⟩ := h
  unfold f_X8_report f_X9_report
  have key : ∀ (top : Nat) (tI : Int32), tI = nI top → top ≤ 99 → f_X8_within p0 0 15 = f_X8_within p0 0 15 → ∃ r pn' pa' ph' pl' pm' s',
      (bd1 (f_X8_within p0 0 15) (fun r1 => (if r1 = 0 then some (-1, pn, pa, ph, pl, pm) else bd1 (f_X8_within p1 0 1) (fun r4 => (if r4 = 0 then some (-1, pn, pa, ph, pl, pm) else f_X8_report_b32 p0 p1 p2 p3 pn pa ph pl pm tI))))) = some (r, pn', pa', ph', pl', pm') ∧ f_X9_report_b11 p0 p1 p2 p3 s tI = some (r, s') ∧ InR cnt en z wa sc ho kd tr ln li cu bu of rn rz rk rd rb rs rl rr pn' ph' pa' pl' pm' s' := by
    intro top tI htI htop _
    subst htI
    unfold f_X8_report_b32 f_X9_report_b11
    rcases e_in (p := p0) (lo := 0) (hi := 15) 0 15 rfl rfl (by decide) (by decide) with ⟨e1, e2, -⟩ | ⟨x0, -, x0b, rfl, e1, e2⟩
    · exact ⟨-1, pn, pa, ph, pl, pm, s, by rw [e1, qb1, if_pos rfl], by rw [e2, qb1, if_pos rfl], h0⟩
    · rw [e1, qb1, if_neg n10, e2, qb1, if_neg n10]
      rcases e_in (p := p1) (lo := 0) (hi := 1) 0 1 rfl rfl (by decide) (by decide) with ⟨e3, e4, -⟩ | ⟨x1, -, x1b, rfl, e3, e4⟩
      · exact ⟨-1, pn, pa, ph, pl, pm, s, by rw [e3, qb1, if_pos rfl], by rw [e4, qb1, if_pos rfl], h0⟩
      · rw [e3, qb1, if_neg n10, e4, qb1, if_neg n10]
        rcases e_in (p := p2) (lo := 0) (hi := nI top) 0 top rfl rfl (by omega) (by omega) with ⟨e5, e6, -⟩ | ⟨x2, -, x2b, rfl, e5, e6⟩
        · exact ⟨-1, pn, pa, ph, pl, pm, s, by rw [e5, qb1, if_pos rfl], by rw [e6, qb1, if_pos rfl], h0⟩
        · rw [e5, qb1, if_neg n10, e6, qb1, if_neg n10]
          rcases e_in (p := p3) (lo := nI x2) (hi := nI top) x2 top rfl rfl (by omega) (by omega) with ⟨e7, e8, -⟩ | ⟨x3, -, x3b, rfl, e7, e8⟩
          · exact ⟨-1, pn, pa, ph, pl, pm, s, by rw [e7, qb1, if_pos rfl], by rw [e8, qb1, if_pos rfl], h0⟩
          · rw [e7, qb1, if_neg n10, e8, qb1, if_neg n10, hP.1, hM.1 6 (by decide) (by decide) (by decide)]
            have h6 := hP.2.1
            by_cases c : a 6 = 6
            · rw [if_neg (show ¬ nI (a 6) < 6 by rw [c]; decide), if_pos (show nI (a 6) = 6 by rw [c]; rfl)]
              exact ⟨-2, _, pa, ph, pl, pm, s, rfl, rfl, by rw [← hP.1]; exact h0⟩
            · rw [if_pos (show nI (a 6) < 6 from nI_lt (show a 6 < 6 by omega) (by decide)), if_neg (show ¬ nI (a 6) = 6 by rw [ql6, q_eq (by omega) (by omega)]; exact c)]
              obtain ⟨k, hk⟩ : ∃ k, a 6 = k := ⟨_, rfl⟩
              have hk6 : k < 6 := by omega
              rw [hk]
              obtain ⟨b, hb5⟩ : ∃ b, updN (updN (updN (updN (updN a (65 + 4 * k) x0) (66 + 4 * k) x1) (67 + 4 * k) x2) (68 + 4 * k) x3) 6 (k + 1) = b := ⟨_, rfl⟩
              have eo : ∀ x, x ≠ 6 → (x < 65 + 4 * k ∨ 69 + 4 * k ≤ x) → b x = a x := fun x h1 hx => by
                rw [← hb5, updN_ne _ _ (by omega), updN_ne _ _ (by omega), updN_ne _ _ (by omega), updN_ne _ _ (by omega), updN_ne _ _ (by omega)]
              have g0 : b (65 + 4 * k) = x0 := by rw [← hb5, updN_ne _ _ (by omega), updN_ne _ _ (by omega), updN_ne _ _ (by omega), updN_ne _ _ (by omega), updN_at]
              have g1 : b (66 + 4 * k) = x1 := by rw [← hb5, updN_ne _ _ (by omega), updN_ne _ _ (by omega), updN_ne _ _ (by omega), updN_at]
              have g2 : b (67 + 4 * k) = x2 := by rw [← hb5, updN_ne _ _ (by omega), updN_ne _ _ (by omega), updN_at]
              have g3 : b (68 + 4 * k) = x3 := by rw [← hb5, updN_ne _ _ (by omega), updN_at]
              have g6 : b 6 = k + 1 := by rw [← hb5, updN_at]
              obtain ⟨s5, hs5⟩ : ∃ s5, upd (upd (upd (upd (upd s (65 + 4 * k) (nI x0)) (66 + 4 * k) (nI x1)) (67 + 4 * k) (nI x2)) (68 + 4 * k) (nI x3)) 6 (nI (k + 1)) = s5 := ⟨_, rfl⟩
              have hMn : MS s5 b sc z s5 := by
                rw [← hs5]
                refine ⟨?_, ?_, ?_, fun j hj => rfl⟩
                · rw [← hb5]; exact RM_upd (RM_upd (RM_upd (RM_upd (RM_upd hM.1 _ _) _ _) _ _) _ _) _ _
                · rw [upd_ne _ _ (by omega), upd_ne _ _ (by omega), upd_ne _ _ (by omega), upd_ne _ _ (by omega), upd_ne _ _ (by omega)]; exact hM.2.1
                · rw [upd_ne _ _ (by omega), upd_ne _ _ (by omega), upd_ne _ _ (by omega), upd_ne _ _ (by omega), upd_ne _ _ (by omega)]; exact hM.2.2.1
              have hT : ∀ j, 89 ≤ j → s5 j = s j := fun j hj => by
                rw [← hs5, upd_ne _ _ (by omega), upd_ne _ _ (by omega), upd_ne _ _ (by omega), upd_ne _ _ (by omega), upd_ne _ _ (by omega)]
              have hBn : BA b := by
                obtain ⟨i1, i2, i3, i4, i5, i6, i7⟩ := hB
                refine ⟨by rw [eo 4 (by decide) (by omega)]; exact i1, by rw [eo 0 (by decide) (by omega), eo 1 (by decide) (by omega)]; exact i2, by rw [eo 1 (by decide) (by omega)]; exact i3, fun j hj => ?_, fun w hw => by rw [eo _ (by omega) (by omega)]; exact i5 w hw, fun c hc => by rw [eo _ (by omega) (by omega), eo _ (by omega) (by omega)]; exact i6 c hc, fun j hj h => ?_⟩
                · rw [eo _ (by omega) (by omega), eo _ (by omega) (by omega), eo _ (by omega) (by omega), eo _ (by omega) (by omega), eo _ (by omega) (by omega)]; exact i4 j hj
                · rw [eo 4 (by decide) (by omega)] at h
                  rw [eo _ (by omega) (by omega)]; exact i7 j hj h
              have ar : ∀ (f : Nat → Int32) (cc x : Nat), (∀ i, i < 6 → f i = nI (a (cc + 4 * i))) → b (cc + 4 * k) = x → 65 ≤ cc → cc < 69 → ∀ i, i < 6 → upd f k (nI x) i = nI (b (cc + 4 * i)) := by
                intro f cc x h1 h2 h3 h3b i hi
                by_cases d : i = k
                · rw [d, upd_at, h2]
                · rw [upd_ne _ _ d, eo _ (by omega) (by omega)]; exact h1 i hi
              refine ⟨nI k, nI (k + 1), upd pa k (nI x1), upd ph k (nI x0), upd pl k (nI x2), upd pm k (nI x3), s5, ?_, ?_, ⟨b, RL, hBn, ?_, ?_, ?_, hC, hn, hz, ?_, hMn, MRl_congr hT RL 0 0 hMR.1, hMR.2.1, hMR.2.2.1, by rw [eo 5 (by decide) (by omega)]; exact hMR.2.2.2⟩⟩
              · unfold f_X2_file
                rw [qcI hk6 (by decide), qcI hk6 (by decide), qcI hk6 (by decide), qcI hk6 (by decide), nI_1, qt1, qb6, q_cl (by omega)]
              · rw [ql65, ql4, q_mul, q_add, qt1, ql1, ql2, ql3, q_add, q_add, q_add, qcI (by omega) (by omega), qcI (by omega) (by omega), qcI (by omega) (by omega), qcI (by omega) (by omega), q_cl (by omega), q_cl (by omega), q_cl (by omega), q_cl (by omega)]
                rw [upd_ne _ _ (show (6 : Nat) ≠ 65 + 4 * k + 3 by omega), upd_ne _ _ (show (6 : Nat) ≠ 65 + 4 * k + 2 by omega), upd_ne _ _ (show (6 : Nat) ≠ 65 + 4 * k + 1 by omega), upd_ne _ _ (show (6 : Nat) ≠ 65 + 4 * k by omega), hM.1 6 (by decide) (by decide) (by decide), hk, q_add, qt1, upd_at, show 65 + 4 * k + 1 = 66 + 4 * k by omega, show 65 + 4 * k + 2 = 67 + 4 * k by omega, show 65 + 4 * k + 3 = 68 + 4 * k by omega, hs5]
                rw [show nI (k + 1) - nI 1 = nI k from nI_pred k]
              · exact CE_mk (by rw [eo 4 (by decide) (by omega)]; exact hE.1) (fun i hi => by rw [eo _ (by omega) (by omega)]; exact hE.ekd i hi) (fun i hi => by rw [eo _ (by omega) (by omega)]; exact hE.etr i hi) (fun i hi => by rw [eo _ (by omega) (by omega)]; exact hE.eln i hi) (fun i hi => by rw [eo _ (by omega) (by omega)]; exact hE.eli i hi) (fun i hi => by rw [eo _ (by omega) (by omega)]; exact hE.ecu i hi) (fun i hi => by rw [eo _ (by omega) (by omega)]; exact hE.ebu i hi)
              · exact ⟨by rw [eo 0 (by decide) (by omega)]; exact hS.1, by rw [show hb b = hb a by unfold hb; rw [eo 39 (by decide) (by omega), eo 44 (by decide) (by omega), eo 49 (by decide) (by omega), eo 54 (by decide) (by omega), eo 59 (by decide) (by omega), eo 64 (by decide) (by omega)]]; exact hS.2.1, fun i hi => by rw [eo _ (by omega) (by omega)]; exact hS.2.2 i hi⟩
              · rw [eo 1 (by decide) (by omega)]; exact he
              · refine ⟨by rw [g6], by rw [g6]; omega, fun r hr => ⟨ar ph 65 x0 (fun i hi => (hP.2.2.1 i hi).1) g0 (by omega) (by omega) r hr, ar pa 66 x1 (fun i hi => (hP.2.2.1 i hi).2.1) g1 (by omega) (by omega) r hr, ar pl 67 x2 (fun i hi => (hP.2.2.1 i hi).2.2.1) g2 (by omega) (by omega) r hr, ar pm 68 x3 (fun i hi => (hP.2.2.1 i hi).2.2.2) g3 (by omega) (by omega) r hr⟩, fun r hr => ?_⟩
                by_cases d : r = k
                · rw [d, g0, g1, g2, g3]; omega
                · rw [eo _ (by omega) (by omega), eo _ (by omega) (by omega), eo _ (by omega) (by omega), eo _ (by omega) (by omega)]; exact hP.2.2.2 r hr
  by_cases c : p1 = 0
  · simp only [if_pos c]
    obtain ⟨r, pn', pa', ph', pl', pm', s', e1, e2, e3⟩ := key 99 99 rfl (by decide) rfl
    refine ⟨r, pn', pa', ph', pl', pm', s', ?_, e2, e3⟩
    rw [← e1]
  · simp only [if_neg c]
    obtain ⟨r, pn', pa', ph', pl', pm', s', e1, e2, e3⟩ := key 16 16 rfl (by decide) rfl
    refine ⟨r, pn', pa', ph', pl', pm', s', ?_, e2, e3⟩
    rw [← e1]
end S5
