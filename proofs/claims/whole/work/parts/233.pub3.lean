/-! ===== E: calls on the rock: ship, state, anew, report ===== -/
section S3
variable {cnt en z wa sc ho rn rz pn : Int32} {kd tr ln li cu bu of rk rd rb rs rl rr ph pa pl pm s fa pi : Nat → Int32}
theorem st_state (h : InR cnt en z wa sc ho kd tr ln li cu bu of rn rz rk rd rb rs rl rr pn ph pa pl pm s) (p0 : Int32) :
    ∃ r, f_X8_state p0 cnt en li wa sc ho of = some r ∧ f_X9_state p0 s = some r := by
  obtain ⟨a, RL, hB, hE, hS, he, hC, hn, hz, hP, hM, hMR⟩ := h
  have b1 := hB.2.1
  have b2 := hB.2.2.1
  unfold f_X8_state f_X9_state
  rw [e8_isOver hS.1 he hB, e9_isOver hB hM, qb1, e9_those hB hM.1, qb1, e9_light hB hM.1, qb1, e9_onRockN hM.1 hB, qb1, hE.1, e8_stranded hB hS, qb1]
  have el : f_X3_lightAt wa li = some (nI (lightN a)) := by rw [hS.1]; exact e8_lightAt hE.eli (by omega)
  rw [el, qb1, hM.1 0 (by decide) (by decide) (by decide), hM.1 1 (by decide) (by decide) (by decide), hM.2.1, hS.1, he, hS.2.1]
  repeat' split
  all_goals exact ⟨_, rfl, rfl⟩
/-- none at home up to the j-th -/
def away (a : Nat → Nat) (j : Nat) : Nat → Nat := fun x => if 35 ≤ x ∧ x < 35 + 5 * j ∧ x % 5 = 4 then 0 else a x
theorem away_s (a : Nat → Nat) (j : Nat) : away a (j + 1) = updN (away a j) (39 + 5 * j) 0 := by
  funext x
  unfold away updN
  by_cases c : x = 39 + 5 * j
  · rw [if_pos ⟨by omega, by omega, by omega⟩, if_pos c]
  · rw [if_neg c]
    show _ = if 35 ≤ x ∧ x < 35 + 5 * j ∧ x % 5 = 4 then 0 else a x
    by_cases d : 35 ≤ x ∧ x < 35 + 5 * j ∧ x % 5 = 4
    · rw [if_pos d, if_pos ⟨d.1, by omega, d.2.2⟩]
    · rw [if_neg d, if_neg (fun z => d ⟨z.1, by omega, z.2.2⟩)]
theorem e9_anewL {a : Nat → Nat} {z : Int32} {T : Nat → Int32} (h4 : a 4 ≤ 6) : ∀ (d fuel j : Nat) (s : Nat → Int32) (sc : Int32), j + d = a 4 → d < fuel → MS s (away a j) sc z T →
    ∃ s', f_X9_anew_L9 fuel (nI j) s = f_X9_anew_L9 (fuel - d) (nI (a 4)) s' ∧ MS s' (away a (a 4)) sc z T := by
  intro d
  induction d with
  | zero =>
    intro fuel j s sc hj hf hM
    have : j = a 4 := by omega
    subst this
    exact ⟨s, rfl, hM⟩
  | succ d ih =>
    intro fuel j s sc hj hf hM
    obtain ⟨n, rfl⟩ : ∃ n, fuel = n + 1 := ⟨fuel - 1, by omega⟩
    have e4 : away a j 4 = a 4 := if_neg (by omega)
    have hM2 := MS_upd hM (j := 39 + 5 * j) 0 (by omega) (by omega)
    rw [← away_s] at hM2
    obtain ⟨s', e1, e2⟩ := ih n (j + 1) _ sc (by omega) (by omega) hM2
    refine ⟨s', ?_, e2⟩
    rw [f_X9_anew_L9, hM.1 4 (by decide) (by decide) (by decide), e4, if_neg (nI_ge (by omega) (by omega)), e9_putHome (by omega), qb1, ql1, q_add, qt1, show n + 1 - (d + 1) = n - d by omega]
    exact e1
theorem st_anew (h : InR cnt en z wa sc ho kd tr ln li cu bu of rn rz rk rd rb rs rl rr pn ph pa pl pm s) :
    ∃ r wa' sc' ho' s', f_X8_anew wa = some (r, wa', sc', ho') ∧ f_X9_anew s = some (r, s') ∧ InR cnt en z wa' sc' ho' kd tr ln li cu bu of rn rz rk rd rb rs rl rr pn ph pa pl pm s' := by
  obtain ⟨a, RL, hB, hE, hS, he, hC, hn, hz, hP, hM, hMR⟩ := h
  have h4 := hB.1
  unfold f_X8_anew f_X9_anew
  have hM1 : MS (upd s 2 0) (away a 0) 0 z s := by
    have e : away a 0 = a := by funext x; exact if_neg (by omega)
    rw [e]
    exact ⟨fun i h1 h2 h3 => by rw [upd_ne _ _ h2]; exact hM.1 i h1 h2 h3, upd_at _ _ _, by rw [upd_ne _ _ (by decide)]; exact hM.2.2.1, fun j hj => upd_ne _ _ (by omega)⟩
  obtain ⟨s1, e1, e2⟩ := e9_anewL h4 (a 4) 1000 0 _ 0 (by omega) (by omega) hM1
  obtain ⟨m, hm⟩ : ∃ m, 1000 - a 4 = m + 1 := ⟨999 - a 4, by omega⟩
  have e4 : away a (a 4) 4 = a 4 := if_neg (by omega)
  have ea : away a (a 4) 0 = a 0 := if_neg (by omega)
  refine ⟨nI (a 0), 0, 0, 0, upd s1 0 (nI 0), by rw [hS.1], ?_, ?_⟩
  · rw [ql0, ← ql0]
    have e1' : f_X9_anew_L9 1000 0 (upd s 2 0) = f_X9_anew_L9 (1000 - a 4) (nI (a 4)) s1 := e1
    rw [e1', hm, f_X9_anew_L9, e2.1 4 (by decide) (by decide) (by decide), e4, if_pos (nI_le (Nat.le_refl _) (by omega)), ql0, e9_becomes (by decide), qb2, e2.1 0 (by decide) (by decide) (by decide), ea]
  · have hM2 := MS_updg e2 (j := 0) 0 (by decide) (by decide) (by decide)
    have eo : ∀ x, x ≠ 0 → (x < 35 ∨ 65 ≤ x ∨ x % 5 ≠ 4) → updN (away a (a 4)) 0 0 x = a x := fun x h1 h2 => by
      rw [updN_ne _ _ h1]; exact if_neg (by omega)
    have eh : ∀ k, k < 6 → updN (away a (a 4)) 0 0 (39 + 5 * k) = 0 := fun k hk => by
      rw [updN_ne _ _ (by omega)]
      unfold away
      by_cases c : k < a 4
      · rw [if_pos ⟨by omega, by omega, by omega⟩]
      · rw [if_neg (by omega)]; exact hB.2.2.2.2.2.2 k hk (by omega)
    have hB2 : BA (updN (away a (a 4)) 0 0) := by
      obtain ⟨g1, g2, g3, g4, g5, g6, g7⟩ := hB
      refine ⟨by rw [eo 4 (by decide) (by decide)]; exact g1, by rw [updN_at]; exact Nat.zero_le _, by rw [eo 1 (by decide) (by decide)]; exact g3, fun k hk => ?_, fun w hw => by rw [eo _ (by omega) (by omega)]; exact g5 w hw, fun c hc => by rw [eo _ (by omega) (by omega), eo _ (by omega) (by omega)]; exact g6 c hc, fun k hk _ => eh k hk⟩
      have b1 := g4 k hk
      rw [eo _ (by omega) (by omega), eo _ (by omega) (by omega), eo _ (by omega) (by omega), eo _ (by omega) (by omega), eh k hk]
      omega
    refine InR_mk (a := updN (away a (a 4)) 0 0) (b := a) hB2 ?_ ?_ ?_ hC hn hz (RP_congr hP (fun y hy => eo y (by omega) (by omega))) hM2 hMR (eo 5 (by decide) (by decide))
    · exact CE_congr hE (fun x h1 h2 => eo x h2 (by omega))
    · refine ⟨by rw [updN_at]; rfl, ?_, fun k hk => by rw [eo _ (by omega) (by omega)]; exact hS.2.2 k hk⟩
      have : hb (updN (away a (a 4)) 0 0) = 0 := by
        unfold hb
        rw [eh 0 (by decide), eh 1 (by decide), eh 2 (by decide), eh 3 (by decide), eh 4 (by decide), eh 5 (by decide)]
      rw [this]; rfl
    · rw [eo 1 (by decide) (by decide)]; exact he
theorem st_ship (h : InR cnt en z wa sc ho kd tr ln li cu bu of rn rz rk rd rb rs rl rr pn ph pa pl pm s) (p0 p1 p2 p3 : Int32) :
    ∃ r cnt' kd' ln' of' tr' s', f_X8_ship p0 p1 p2 p3 cnt kd ln of tr = some (r, cnt', kd', ln', of', tr') ∧ f_X9_ship p0 p1 p2 p3 s = some (r, s') ∧ InR cnt' en z wa sc ho kd' tr' ln' li cu bu of' rn rz rk rd rb rs rl rr pn ph pa pl pm s' := by
  have h0 := h
  obtain ⟨a, RL, hB, hE, hS, he, hC, hn, hz, hP, hM, hMR⟩ := h
  have h4 := hB.1
  unfold f_X8_ship f_X9_ship
  rcases e_in (p := p0) (lo := 1) (hi := 5) 1 5 rfl rfl (by decide) (by decide) with ⟨e1, e2, -⟩ | ⟨x0, -, x0b, rfl, e1, e2⟩
  · exact ⟨-1, cnt, kd, ln, of, tr, s, by rw [e1, qb1, if_pos rfl], by rw [e2, qb1, if_pos rfl], h0⟩
  · rw [e1, qb1, if_neg (show ¬ (1 : Int32) = 0 by decide), e2, qb1, if_neg (show ¬ (1 : Int32) = 0 by decide)]
    rcases e_in (p := p1) (lo := 0) (hi := 99) 0 99 rfl rfl (by decide) (by decide) with ⟨e3, e4, -⟩ | ⟨x1, -, x1b, rfl, e3, e4⟩
    · exact ⟨-1, cnt, kd, ln, of, tr, s, by rw [e3, qb1, if_pos rfl], by rw [e4, qb1, if_pos rfl], h0⟩
    · rw [e3, qb1, if_neg (show ¬ (1 : Int32) = 0 by decide), e4, qb1, if_neg (show ¬ (1 : Int32) = 0 by decide)]
      rcases e_in (p := p2) (lo := 0) (hi := 9) 0 9 rfl rfl (by decide) (by decide) with ⟨e5, e6, -⟩ | ⟨x2, -, x2b, rfl, e5, e6⟩
      · exact ⟨-1, cnt, kd, ln, of, tr, s, by rw [e5, qb1, if_pos rfl], by rw [e_digit (Or.inl e6), e6, qb1, if_pos rfl], h0⟩
      · rw [e5, qb1, if_neg (show ¬ (1 : Int32) = 0 by decide), e_digit (Or.inr e6), e6, qb1, if_neg (show ¬ (1 : Int32) = 0 by decide)]
        rcases e_in (p := p3) (lo := 0) (hi := 5) 0 5 rfl rfl (by decide) (by decide) with ⟨e7, e8, -⟩ | ⟨x3, -, x3b, rfl, e7, e8⟩
        · exact ⟨-1, cnt, kd, ln, of, tr, s, by rw [e7, qb1, if_pos rfl], by rw [e_lane (Or.inl e8), e8, qb1, if_pos rfl], h0⟩
        · rw [e7, qb1, if_neg (show ¬ (1 : Int32) = 0 by decide), e_lane (Or.inr e8), e8, qb1, if_neg (show ¬ (1 : Int32) = 0 by decide), hE.1, hM.1 4 (by decide) (by decide) (by decide)]
          by_cases c : a 4 = 6
          · rw [if_neg (show ¬ nI (a 4) < 6 by rw [c]; decide), if_pos (show nI (a 4) = 6 by rw [c]; rfl)]
            exact ⟨-2, _, kd, ln, of, tr, s, rfl, rfl, by rw [← hE.1]; exact h0⟩
          · rw [if_pos (show nI (a 4) < 6 from nI_lt (show a 4 < 6 by omega) (by decide)), if_neg (show ¬ nI (a 4) = 6 by rw [ql6, q_eq (by omega) (by omega)]; exact c)]
            obtain ⟨k, hk⟩ : ∃ k, a 4 = k := ⟨_, rfl⟩
            have hk6 : k < 6 := by omega
            rw [hk]
            have hM5 := MS_upd (MS_upd (MS_upd (MS_upd (MS_upd hM (j := 35 + 5 * k) x0 (by omega) (by omega)) (j := 36 + 5 * k) x1 (by omega) (by omega)) (j := 37 + 5 * k) x2 (by omega) (by omega)) (j := 38 + 5 * k) x3 (by omega) (by omega)) (j := 39 + 5 * k) 0 (by omega) (by omega)
            have hB1 : BA (updN a (35 + 5 * k) x0) := BA_upd hB (by omega) (by omega) (by omega) (fun i hi => by omega) (by omega) (by omega)
            have hB2 : BA (updN (updN a (35 + 5 * k) x0) (36 + 5 * k) x1) := BA_upd hB1 (by omega) (by omega) (by omega) (fun i hi => by omega) (by omega) (by omega)
            have hB3 : BA (updN (updN (updN a (35 + 5 * k) x0) (36 + 5 * k) x1) (37 + 5 * k) x2) := BA_upd hB2 (by omega) (by omega) (by omega) (fun i hi => by omega) (by omega) (by omega)
            have hB4 : BA (updN (updN (updN (updN a (35 + 5 * k) x0) (36 + 5 * k) x1) (37 + 5 * k) x2) (38 + 5 * k) x3) := BA_upd hB3 (by omega) (by omega) (by omega) (fun i hi => by omega) (by omega) (by omega)
            have hB5 : BA (updN (updN (updN (updN (updN a (35 + 5 * k) x0) (36 + 5 * k) x1) (37 + 5 * k) x2) (38 + 5 * k) x3) (39 + 5 * k) 0) := BA_upd hB4 (by omega) (by omega) (by omega) (fun i hi => by omega) (by omega) (by omega)
            obtain ⟨b, hb5⟩ : ∃ b, updN (updN (updN (updN (updN a (35 + 5 * k) x0) (36 + 5 * k) x1) (37 + 5 * k) x2) (38 + 5 * k) x3) (39 + 5 * k) 0 = b := ⟨_, rfl⟩
            have eo : ∀ x, (x < 35 + 5 * k ∨ 40 + 5 * k ≤ x) → b x = a x := fun x hx => by
              rw [← hb5, updN_ne _ _ (by omega), updN_ne _ _ (by omega), updN_ne _ _ (by omega), updN_ne _ _ (by omega), updN_ne _ _ (by omega)]
            have ek : b (35 + 5 * k) = x0 := by rw [← hb5, updN_ne _ _ (by omega), updN_ne _ _ (by omega), updN_ne _ _ (by omega), updN_ne _ _ (by omega), updN_at]
            have eof : b (36 + 5 * k) = x1 := by rw [← hb5, updN_ne _ _ (by omega), updN_ne _ _ (by omega), updN_ne _ _ (by omega), updN_at]
            have et : b (37 + 5 * k) = x2 := by rw [← hb5, updN_ne _ _ (by omega), updN_ne _ _ (by omega), updN_at]
            have eln : b (38 + 5 * k) = x3 := by rw [← hb5, updN_ne _ _ (by omega), updN_at]
            have ehm : b (39 + 5 * k) = 0 := by rw [← hb5, updN_at]
            have eh0 : a (39 + 5 * k) = 0 := hB.2.2.2.2.2.2 k hk6 (by omega)
            have ehb : hb b = hb a := by
              refine hb_congr (fun x h1 h2 => ?_)
              by_cases d : x = 39 + 5 * k
              · rw [d, ehm, eh0]
              · by_cases d2 : x < 35 + 5 * k ∨ 40 + 5 * k ≤ x
                · exact eo x d2
                · exfalso; omega
            rw [hb5] at hM5 hB5
            have hBn := BA_cnt hB5 (x := k + 1) (by rw [eo 4 (by omega)]; omega) (by omega)
            have hMn := MS_updg hM5 (j := 4) (k + 1) (by decide) (by decide) (by decide)
            have ar : ∀ (f : Nat → Int32) (cc x : Nat), (∀ i, i < 6 → f i = nI (a (cc + 5 * i))) → b (cc + 5 * k) = x → 35 ≤ cc → cc < 40 → ∀ i, i < 6 → upd f k (nI x) i = nI (updN b 4 (k + 1) (cc + 5 * i)) := by
              intro f cc x h1 h2 h3 h3b i hi
              rw [updN_ne _ _ (by omega)]
              by_cases d : i = k
              · rw [d, upd_at, h2]
              · rw [upd_ne _ _ d, eo _ (by omega)]; exact h1 i hi
            refine ⟨nI k, nI (k + 1), upd kd k (nI x0), upd ln k (nI x3), upd of k (nI x1), upd tr k (nI x2), _, ?_, ?_, InR_mk (a := updN b 4 (k + 1)) (b := a) hBn ?_ ?_ ?_ hC hn hz (RP_congr hP (fun y hy => by rw [updN_ne _ _ (by omega)]; exact eo y (by omega))) hMn hMR (by rw [updN_ne _ _ (by omega)]; exact eo 5 (by omega))⟩
            · unfold f_X3_enlist
              rw [qcI hk6 (by decide), qcI hk6 (by decide), qcI hk6 (by decide), qcI hk6 (by decide), ql1, q_add, qt1, qb6, q_cl (by omega)]
            · rw [qt1, show (0 : Int32) = nI 0 from rfl, e9_puts (f := 0) hk6 (by decide), qb1, show (1 : Int32) = nI 1 from rfl, e9_puts (f := 1) hk6 (by decide), qb1, show (2 : Int32) = nI 2 from rfl, e9_puts (f := 2) hk6 (by decide), qb1, show (3 : Int32) = nI 3 from rfl, e9_puts (f := 3) hk6 (by decide), qb1, show (4 : Int32) = nI 4 from rfl, e9_puts (f := 4) hk6 (by decide), qb1]
              rw [show 35 + 5 * k + 0 = 35 + 5 * k by omega, show 35 + 5 * k + 1 = 36 + 5 * k by omega, show 35 + 5 * k + 2 = 37 + 5 * k by omega, show 35 + 5 * k + 3 = 38 + 5 * k by omega, show 35 + 5 * k + 4 = 39 + 5 * k by omega, hM5.1 4 (by decide) (by decide) (by decide), eo 4 (by omega), hk, q_add, qt1]
            · exact CE_mk (by rw [updN_at]) (ar kd 35 x0 hE.ekd ek (by omega) (by omega)) (ar tr 37 x2 hE.etr et (by omega) (by omega)) (ar ln 38 x3 hE.eln eln (by omega) (by omega)) (fun i hi => by rw [updN_ne _ _ (by omega), eo _ (by omega)]; exact hE.eli i hi) (fun i hi => by rw [updN_ne _ _ (by omega), eo _ (by omega)]; exact hE.ecu i hi) (fun i hi => by rw [updN_ne _ _ (by omega), eo _ (by omega)]; exact hE.ebu i hi)
            · refine ⟨by rw [updN_ne _ _ (by omega), eo 0 (by omega)]; exact hS.1, ?_, ar of 36 x1 hS.2.2 eof (by omega) (by omega)⟩
              rw [hb_congr (a := b) (fun x h1 h2 => updN_ne _ _ (by omega)), ehb]; exact hS.2.1
            · rw [updN_ne _ _ (by omega), eo 1 (by omega)]; exact he
end S3
