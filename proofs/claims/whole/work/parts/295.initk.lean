/-! ===== constructors: links, the letters, filled rows ===== -/
def ltl : List Int32 := [115, 104, 105, 112, 32, 32, 32, 32, 116, 101, 110, 100, 101, 114, 32, 32, 99, 111, 97, 115, 116, 101, 114, 32, 99, 111, 108, 108, 105, 101, 114, 32, 98, 114, 105, 103, 32, 32, 32, 32, 99, 97, 112, 116, 97, 105, 110, 32, 101, 110, 116, 101, 114, 32, 32, 32, 115, 116, 97, 110, 100, 32, 32, 32, 104, 97, 105, 108, 32, 32, 32, 32, 105, 102, 32, 32, 32, 32, 32, 32, 110, 111, 116, 32, 32, 32, 32, 32, 97, 110, 100, 32, 32, 32, 32, 32, 111, 114, 32, 32, 32, 32, 32, 32, 119, 97, 116, 99, 104, 32, 32, 32, 111, 102, 102, 32, 32, 32, 32, 32, 116, 114, 105, 109, 32, 32, 32, 32, 102, 108, 97, 115, 104, 32, 32, 32, 110, 117, 109, 98, 101, 114, 32, 32]
def ltv (j : Nat) : Int32 := ltl.getD j 0
def lt_f (k : Nat) : Nat → Int32 := fun j => if j < k then ltv j else 0
theorem lt_f0 : lt_f 0 = fun _ => 0 := by
  funext j
  exact if_neg (Nat.not_lt_zero j)
theorem lt_step {k : Nat} {i x : Int32} (hi : i.toNatClampNeg = k) (hx : vp_nar .char x = ltv k) : upd (lt_f k) i.toNatClampNeg (vp_nar .char x) = lt_f (k + 1) := by
  funext j
  unfold upd lt_f
  rw [hi, hx]
  by_cases c : j = k
  · rw [if_pos c, if_pos (by omega), c]
  · rw [if_neg c]
    by_cases d : j < k
    · rw [if_pos d, if_pos (by omega)]
    · rw [if_neg d, if_neg (by omega)]
theorem lt_InL : InL (lt_f 144) := by
  have t : ∀ v, v < 18 → ∀ j, j < 8 → ltv (8 * v + j) = nI (lt9 v j) := by decide +kernel
  intro v hv j hj
  unfold lt_f
  rw [if_pos (by omega)]
  exact t v hv j hj
theorem rl5_up (a b c d e : Nat) : va_up (va_up (va_up (va_up (va_up (fun _ => none) 0 (some a)) 1 (some b)) 2 (some c)) 3 (some d)) 4 (some e) = rl5 a b c d e := by
  funext k
  match k with
  | 0 => rfl
  | 1 => rfl
  | 2 => rfl
  | 3 => rfl
  | 4 => rfl
  | n + 5 => rfl
theorem fill_L {v : Int32} {N : Nat} (hN : N < 2 ^ 30) : ∀ (d m i : Nat) (g : Nat → Int32), i + d = N → d < m → ∃ g', f_J7_fill_53178_L5 v N m (nI i) (nI N) g = some g' ∧ ∀ j, j < N → i ≤ j → g' j = v := by
  have main : ∀ (d m i : Nat) (g : Nat → Int32), i + d = N → d < m → ∃ g', f_J7_fill_53178_L5 v N m (nI i) (nI N) g = some g' ∧ (∀ j, j < N → i ≤ j → g' j = v) ∧ ∀ j, j < i → g' j = g j := by
    intro d
    induction d with
    | zero =>
      intro m i g hi hm
      obtain ⟨m, rfl⟩ : ∃ x, m = x + 1 := ⟨m - 1, by omega⟩
      rw [f_J7_fill_53178_L5, if_pos (nI_le (by omega) (by omega))]
      exact ⟨g, rfl, fun j h1 h2 => absurd h1 (by omega), fun j _ => rfl⟩
    | succ d ih =>
      intro m i g hi hm
      obtain ⟨m, rfl⟩ : ∃ x, m = x + 1 := ⟨m - 1, by omega⟩
      rw [f_J7_fill_53178_L5, if_neg (nI_ge (by omega) (by omega)), qcI (show i < N by omega) (by omega), show nI i + 1 = nI (i + 1) from q_add i 1, qt1, q_cl (show i < 2 ^ 31 by omega)]
      obtain ⟨g', e, h1, h2⟩ := ih m (i + 1) (upd g i v) (by omega) (by omega)
      refine ⟨g', e, fun j h3 h4 => ?_, fun j h3 => ?_⟩
      · by_cases c : j = i
        · rw [h2 j (by omega)]; unfold upd; rw [if_pos c]
        · exact h1 j h3 (by omega)
      · rw [h2 j (by omega)]; unfold upd; rw [if_neg (by omega)]
  intro d m i g h1 h2
  obtain ⟨g', e, h3, -⟩ := main d m i g h1 h2
  exact ⟨g', e, h3⟩
def flc_X0_init : Nat → Int32 := (f_J7_fill_53178 (-1 : Int32) 4 (fun _ => 0)).getD (fun _ => 0)
theorem flc_X0_init_ok : f_J7_fill_53178 (-1 : Int32) 4 (fun _ => 0) = some flc_X0_init ∧ ∀ j, j < 4 → flc_X0_init j = (-1 : Int32) := by
  obtain ⟨g, e, h⟩ := fill_L (v := (-1 : Int32)) (N := 4) (by decide) 4 1000 0 (fun _ => 0) (by decide) (by decide)
  have e1 : f_J7_fill_53178 (-1 : Int32) 4 (fun _ => 0) = some g := by
    unfold f_J7_fill_53178
    rw [qt1]
    exact e
  have e2 : flc_X0_init = g := by unfold flc_X0_init; rw [e1]; rfl
  rw [e2]
  exact ⟨e1, fun j hj => h j hj (Nat.zero_le j)⟩
def flc_X3_init : Nat → Int32 := (f_J7_fill_53178 (6 : Int32) 16 (fun _ => 0)).getD (fun _ => 0)
theorem flc_X3_init_ok : f_J7_fill_53178 (6 : Int32) 16 (fun _ => 0) = some flc_X3_init ∧ ∀ j, j < 16 → flc_X3_init j = (6 : Int32) := by
  obtain ⟨g, e, h⟩ := fill_L (v := (6 : Int32)) (N := 16) (by decide) 16 1000 0 (fun _ => 0) (by decide) (by decide)
  have e1 : f_J7_fill_53178 (6 : Int32) 16 (fun _ => 0) = some g := by
    unfold f_J7_fill_53178
    rw [qt1]
    exact e
  have e2 : flc_X3_init = g := by unfold flc_X3_init; rw [e1]; rfl
  rw [e2]
  exact ⟨e1, fun j hj => h j hj (Nat.zero_le j)⟩
theorem zf_X6_9 : FLf RX6 9 6 0 (.array .int) := ⟨_, _, _, rfl, by decide, iw_X6, gw_in 138 (by decide +kernel) (by decide +kernel), ⟨tyX6, tyX6_ok⟩, nmX6, rfl, rfl, by decide +kernel⟩
theorem zp_X6_15 : FLw RX6 15 6 1 .int := ⟨_, _, _, rfl, by decide, iw_X6, gw_in 141 (by decide +kernel) (by decide +kernel), ⟨tyX6, tyX6_ok⟩, nmX6, rfl, by decide +kernel⟩
theorem zp_X6_19 : FLw RX6 19 6 2 .int := ⟨_, _, _, rfl, by decide, iw_X6, gw_in 145 (by decide +kernel) (by decide +kernel), ⟨tyX6, tyX6_ok⟩, nmX6, rfl, by decide +kernel⟩
theorem zp_X6_22 : FLw RX6 22 6 3 .int := ⟨_, _, _, rfl, by decide, iw_X6, gw_in 149 (by decide +kernel) (by decide +kernel), ⟨tyX6, tyX6_ok⟩, nmX6, rfl, by decide +kernel⟩
theorem zf_X5_9 : FLf RX5 9 5 0 (.array .int) := ⟨_, _, _, rfl, by decide, iw_X5, gw_in 169 (by decide +kernel) (by decide +kernel), ⟨tyX5, tyX5_ok⟩, nmX5, rfl, rfl, by decide +kernel⟩
theorem zf_X5_15 : FLf RX5 15 5 1 (.array .int) := ⟨_, _, _, rfl, by decide, iw_X5, gw_in 171 (by decide +kernel) (by decide +kernel), ⟨tyX5, tyX5_ok⟩, nmX5, rfl, rfl, by decide +kernel⟩
theorem zf_X5_18 : FLf RX5 18 5 2 (.array .int) := ⟨_, _, _, rfl, by decide, iw_X5, gw_in 173 (by decide +kernel) (by decide +kernel), ⟨tyX5, tyX5_ok⟩, nmX5, rfl, rfl, by decide +kernel⟩
theorem zf_X5_21 : FLf RX5 21 5 3 (.array .int) := ⟨_, _, _, rfl, by decide, iw_X5, gw_in 174 (by decide +kernel) (by decide +kernel), ⟨tyX5, tyX5_ok⟩, nmX5, rfl, rfl, by decide +kernel⟩
theorem zf_X5_24 : FLf RX5 24 5 4 (.array .int) := ⟨_, _, _, rfl, by decide, iw_X5, gw_in 175 (by decide +kernel) (by decide +kernel), ⟨tyX5, tyX5_ok⟩, nmX5, rfl, rfl, by decide +kernel⟩
theorem zf_X5_27 : FLf RX5 27 5 5 (.array .int) := ⟨_, _, _, rfl, by decide, iw_X5, gw_in 176 (by decide +kernel) (by decide +kernel), ⟨tyX5, tyX5_ok⟩, nmX5, rfl, rfl, by decide +kernel⟩
theorem zf_X5_30 : FLf RX5 30 5 6 (.array .int) := ⟨_, _, _, rfl, by decide, iw_X5, gw_in 177 (by decide +kernel) (by decide +kernel), ⟨tyX5, tyX5_ok⟩, nmX5, rfl, rfl, by decide +kernel⟩
theorem zp_X5_33 : FLw RX5 33 5 7 .int := ⟨_, _, _, rfl, by decide, iw_X5, gw_in 178 (by decide +kernel) (by decide +kernel), ⟨tyX5, tyX5_ok⟩, nmX5, rfl, by decide +kernel⟩
theorem zp_X5_37 : FLw RX5 37 5 8 .int := ⟨_, _, _, rfl, by decide, iw_X5, gw_in 182 (by decide +kernel) (by decide +kernel), ⟨tyX5, tyX5_ok⟩, nmX5, rfl, by decide +kernel⟩
theorem zf_X2_9 : FLf RX2 9 2 0 (.array .int) := ⟨_, _, _, rfl, by decide, iw_X2, gw_in 208 (by decide +kernel) (by decide +kernel), ⟨tyX2, tyX2_ok⟩, nmX2, rfl, rfl, by decide +kernel⟩
theorem zf_X2_15 : FLf RX2 15 2 1 (.array .int) := ⟨_, _, _, rfl, by decide, iw_X2, gw_in 209 (by decide +kernel) (by decide +kernel), ⟨tyX2, tyX2_ok⟩, nmX2, rfl, rfl, by decide +kernel⟩
theorem zf_X2_18 : FLf RX2 18 2 2 (.array .int) := ⟨_, _, _, rfl, by decide, iw_X2, gw_in 210 (by decide +kernel) (by decide +kernel), ⟨tyX2, tyX2_ok⟩, nmX2, rfl, rfl, by decide +kernel⟩
theorem zf_X2_21 : FLf RX2 21 2 3 (.array .int) := ⟨_, _, _, rfl, by decide, iw_X2, gw_in 211 (by decide +kernel) (by decide +kernel), ⟨tyX2, tyX2_ok⟩, nmX2, rfl, rfl, by decide +kernel⟩
theorem zp_X2_24 : FLw RX2 24 2 4 .int := ⟨_, _, _, rfl, by decide, iw_X2, gw_in 212 (by decide +kernel) (by decide +kernel), ⟨tyX2, tyX2_ok⟩, nmX2, rfl, by decide +kernel⟩
theorem zf_X4_9 : FLf RX4 9 4 0 (.array .int) := ⟨_, _, _, rfl, by decide, iw_X4, gw_in 332 (by decide +kernel) (by decide +kernel), ⟨tyX4, tyX4_ok⟩, nmX4, rfl, rfl, by decide +kernel⟩
theorem zp_X4_15 : FLw RX4 15 4 1 .int := ⟨_, _, _, rfl, by decide, iw_X4, gw_in 333 (by decide +kernel) (by decide +kernel), ⟨tyX4, tyX4_ok⟩, nmX4, rfl, by decide +kernel⟩
theorem zp_X4_19 : FLw RX4 19 4 2 .int := ⟨_, _, _, rfl, by decide, iw_X4, gw_in 334 (by decide +kernel) (by decide +kernel), ⟨tyX4, tyX4_ok⟩, nmX4, rfl, by decide +kernel⟩
theorem zp_X4_22 : FLw RX4 22 4 3 .int := ⟨_, _, _, rfl, by decide, iw_X4, gw_in 335 (by decide +kernel) (by decide +kernel), ⟨tyX4, tyX4_ok⟩, nmX4, rfl, by decide +kernel⟩
theorem zp_X4_25 : FLw RX4 25 4 4 .int := ⟨_, _, _, rfl, by decide, iw_X4, gw_in 336 (by decide +kernel) (by decide +kernel), ⟨tyX4, tyX4_ok⟩, nmX4, rfl, by decide +kernel⟩
theorem zp_X4_28 : FLw RX4 28 4 5 .int := ⟨_, _, _, rfl, by decide, iw_X4, gw_in 337 (by decide +kernel) (by decide +kernel), ⟨tyX4, tyX4_ok⟩, nmX4, rfl, by decide +kernel⟩
theorem zp_X4_31 : FLw RX4 31 4 6 .int := ⟨_, _, _, rfl, by decide, iw_X4, gw_in 338 (by decide +kernel) (by decide +kernel), ⟨tyX4, tyX4_ok⟩, nmX4, rfl, by decide +kernel⟩
theorem zp_X4_34 : FLw RX4 34 4 7 .int := ⟨_, _, _, rfl, by decide, iw_X4, gw_in 339 (by decide +kernel) (by decide +kernel), ⟨tyX4, tyX4_ok⟩, nmX4, rfl, by decide +kernel⟩
theorem zp_X4_37 : FLw RX4 37 4 8 .int := ⟨_, _, _, rfl, by decide, iw_X4, gw_in 340 (by decide +kernel) (by decide +kernel), ⟨tyX4, tyX4_ok⟩, nmX4, rfl, by decide +kernel⟩
theorem zp_X4_40 : FLw RX4 40 4 9 .int := ⟨_, _, _, rfl, by decide, iw_X4, gw_in 341 (by decide +kernel) (by decide +kernel), ⟨tyX4, tyX4_ok⟩, nmX4, rfl, by decide +kernel⟩
theorem zp_X4_43 : FLw RX4 43 4 10 .int := ⟨_, _, _, rfl, by decide, iw_X4, gw_in 342 (by decide +kernel) (by decide +kernel), ⟨tyX4, tyX4_ok⟩, nmX4, rfl, by decide +kernel⟩
theorem zf_X7_11 : FLf RX7 11 7 0 (.array .int) := ⟨_, _, _, rfl, by decide, iw_X7, gw_in 403 (by decide +kernel) (by decide +kernel), ⟨tyX7, tyX7_ok⟩, nmX7, rfl, rfl, by decide +kernel⟩
theorem zp_X7_15 : FLw RX7 15 7 1 .int := ⟨_, _, _, rfl, by decide, iw_X7, gw_in 405 (by decide +kernel) (by decide +kernel), ⟨tyX7, tyX7_ok⟩, nmX7, rfl, by decide +kernel⟩
theorem zp_X7_19 : FLw RX7 19 7 2 .boolean := ⟨_, _, _, rfl, by decide, iw_X7, gw_in 407 (by decide +kernel) (by decide +kernel), ⟨tyX7, tyX7_ok⟩, nmX7, rfl, by decide +kernel⟩
theorem zp_X7_23 : FLw RX7 23 7 3 .int := ⟨_, _, _, rfl, by decide, iw_X7, gw_in 409 (by decide +kernel) (by decide +kernel), ⟨tyX7, tyX7_ok⟩, nmX7, rfl, by decide +kernel⟩
theorem zp_X7_26 : FLw RX7 26 7 4 .int := ⟨_, _, _, rfl, by decide, iw_X7, gw_in 410 (by decide +kernel) (by decide +kernel), ⟨tyX7, tyX7_ok⟩, nmX7, rfl, by decide +kernel⟩
theorem zp_X7_29 : FLw RX7 29 7 5 .int := ⟨_, _, _, rfl, by decide, iw_X7, gw_in 411 (by decide +kernel) (by decide +kernel), ⟨tyX7, tyX7_ok⟩, nmX7, rfl, by decide +kernel⟩
theorem zf_X0_9 : FLf RX0 9 0 0 (.array .int) := ⟨_, _, _, rfl, by decide, iw_X0, gw_in 375 (by decide +kernel) (by decide +kernel), ⟨tyX0, tyX0_ok⟩, nmX0, rfl, rfl, by decide +kernel⟩
theorem zf_X0_15 : FLf RX0 15 0 1 (.array .int) := ⟨_, _, _, rfl, by decide, iw_X0, gw_in 376 (by decide +kernel) (by decide +kernel), ⟨tyX0, tyX0_ok⟩, nmX0, rfl, rfl, by decide +kernel⟩
theorem zf_X0_18 : FLf RX0 18 0 2 (.array .int) := ⟨_, _, _, rfl, by decide, iw_X0, gw_in 377 (by decide +kernel) (by decide +kernel), ⟨tyX0, tyX0_ok⟩, nmX0, rfl, rfl, by decide +kernel⟩
theorem zf_X0_21 : FLf RX0 21 0 3 (.array .int) := ⟨_, _, _, rfl, by decide, iw_X0, gw_in 378 (by decide +kernel) (by decide +kernel), ⟨tyX0, tyX0_ok⟩, nmX0, rfl, rfl, by decide +kernel⟩
theorem zf_X0_24 : FLf RX0 24 0 4 (.array .int) := ⟨_, _, _, rfl, by decide, iw_X0, gw_in 379 (by decide +kernel) (by decide +kernel), ⟨tyX0, tyX0_ok⟩, nmX0, rfl, rfl, by decide +kernel⟩
theorem zf_X0_27 : FLf RX0 27 0 5 (.array .int) := ⟨_, _, _, rfl, by decide, iw_X0, gw_in 380 (by decide +kernel) (by decide +kernel), ⟨tyX0, tyX0_ok⟩, nmX0, rfl, rfl, by decide +kernel⟩
theorem zf_X0_30 : FLf RX0 30 0 6 (.array .int) := ⟨_, _, _, rfl, by decide, iw_X0, gw_in 381 (by decide +kernel) (by decide +kernel), ⟨tyX0, tyX0_ok⟩, nmX0, rfl, rfl, by decide +kernel⟩
theorem zg_X0_9 : FLk RX0 9 0 0 := ⟨_, _, _, rfl, by decide, iw_X0, gw_in 375 (by decide +kernel) (by decide +kernel)⟩
theorem zs_X0_33 : MLs RX0 33 yJ7_fill_53178 cJ7_fill_53178 4 none 2 := by unfold MLs okY; exact ⟨gw_in 374 (by decide +kernel) (by decide +kernel), gw_in 226 (by decide +kernel) (by decide +kernel), gw_in 105 (by decide +kernel) (by decide +kernel), gw_in 227 (by decide +kernel) (by decide +kernel), by decide +kernel, by decide +kernel, by decide +kernel, by decide⟩
theorem zf_X1_11 : FLf RX1 11 1 0 (.array (.object "LightHalves$Standing")) := ⟨_, _, _, rfl, by decide, iw_X1, gw_in 291 (by decide +kernel) (by decide +kernel), ⟨tyX1, tyX1_ok⟩, nmX1, rfl, rfl, by decide +kernel⟩
theorem zf_X1_17 : FLf RX1 17 1 1 (.array .int) := ⟨_, _, _, rfl, by decide, iw_X1, gw_in 292 (by decide +kernel) (by decide +kernel), ⟨tyX1, tyX1_ok⟩, nmX1, rfl, rfl, by decide +kernel⟩
theorem zf_X1_21 : FLf RX1 21 1 2 (.array .int) := ⟨_, _, _, rfl, by decide, iw_X1, gw_in 294 (by decide +kernel) (by decide +kernel), ⟨tyX1, tyX1_ok⟩, nmX1, rfl, rfl, by decide +kernel⟩
theorem zp_X1_24 : FLw RX1 24 1 3 .int := ⟨_, _, _, rfl, by decide, iw_X1, gw_in 296 (by decide +kernel) (by decide +kernel), ⟨tyX1, tyX1_ok⟩, nmX1, rfl, by decide +kernel⟩
theorem zp_X1_28 : FLw RX1 28 1 4 .int := ⟨_, _, _, rfl, by decide, iw_X1, gw_in 298 (by decide +kernel) (by decide +kernel), ⟨tyX1, tyX1_ok⟩, nmX1, rfl, by decide +kernel⟩
theorem zp_X1_31 : FLw RX1 31 1 5 .int := ⟨_, _, _, rfl, by decide, iw_X1, gw_in 299 (by decide +kernel) (by decide +kernel), ⟨tyX1, tyX1_ok⟩, nmX1, rfl, by decide +kernel⟩
theorem zp_X1_34 : FLw RX1 34 1 6 .int := ⟨_, _, _, rfl, by decide, iw_X1, gw_in 301 (by decide +kernel) (by decide +kernel), ⟨tyX1, tyX1_ok⟩, nmX1, rfl, by decide +kernel⟩
theorem zp_X1_37 : FLw RX1 37 1 7 .int := ⟨_, _, _, rfl, by decide, iw_X1, gw_in 303 (by decide +kernel) (by decide +kernel), ⟨tyX1, tyX1_ok⟩, nmX1, rfl, by decide +kernel⟩
theorem zp_X1_40 : FLw RX1 40 1 8 .int := ⟨_, _, _, rfl, by decide, iw_X1, gw_in 305 (by decide +kernel) (by decide +kernel), ⟨tyX1, tyX1_ok⟩, nmX1, rfl, by decide +kernel⟩
theorem zg_X1_11 : FLk RX1 11 1 0 := ⟨_, _, _, rfl, by decide, iw_X1, gw_in 291 (by decide +kernel) (by decide +kernel)⟩
theorem zn_X1_9 : NWk RX1 9 6 [.null, .int 0, .int 0, .int 0] := ⟨_, _, _, rfl, iw_X6, ⟨tyX6, tyX6_ok, dv_of rfl⟩, gw_in 288 (by decide +kernel) (by decide +kernel), gw_in 133 (by decide +kernel) (by decide +kernel), gw_in 102 (by decide +kernel) (by decide +kernel), rfl⟩
theorem zj_X1_43 : MLj RX1 43 yX6_init cX6_init 1 := by unfold MLj okY; exact ⟨by decide +kernel, gw_in 135 (by decide +kernel) (by decide +kernel), gw_in 102 (by decide +kernel) (by decide +kernel), gw_in 136 (by decide +kernel) (by decide +kernel), rfl, by decide +kernel, by decide +kernel, by decide +kernel, by decide⟩
theorem zf_X3_9 : FLf RX3 9 3 0 (.array .int) := ⟨_, _, _, rfl, by decide, iw_X3, gw_in 228 (by decide +kernel) (by decide +kernel), ⟨tyX3, tyX3_ok⟩, nmX3, rfl, rfl, by decide +kernel⟩
theorem zf_X3_15 : FLf RX3 15 3 1 (.array .int) := ⟨_, _, _, rfl, by decide, iw_X3, gw_in 230 (by decide +kernel) (by decide +kernel), ⟨tyX3, tyX3_ok⟩, nmX3, rfl, rfl, by decide +kernel⟩
theorem zf_X3_18 : FLf RX3 18 3 2 (.array .int) := ⟨_, _, _, rfl, by decide, iw_X3, gw_in 232 (by decide +kernel) (by decide +kernel), ⟨tyX3, tyX3_ok⟩, nmX3, rfl, rfl, by decide +kernel⟩
theorem zf_X3_21 : FLf RX3 21 3 3 (.array .int) := ⟨_, _, _, rfl, by decide, iw_X3, gw_in 234 (by decide +kernel) (by decide +kernel), ⟨tyX3, tyX3_ok⟩, nmX3, rfl, rfl, by decide +kernel⟩
theorem zf_X3_24 : FLf RX3 24 3 4 (.array .int) := ⟨_, _, _, rfl, by decide, iw_X3, gw_in 236 (by decide +kernel) (by decide +kernel), ⟨tyX3, tyX3_ok⟩, nmX3, rfl, rfl, by decide +kernel⟩
theorem zf_X3_27 : FLf RX3 27 3 5 (.array .int) := ⟨_, _, _, rfl, by decide, iw_X3, gw_in 238 (by decide +kernel) (by decide +kernel), ⟨tyX3, tyX3_ok⟩, nmX3, rfl, rfl, by decide +kernel⟩
theorem zn_X3_30 : NWk RX3 30 6 [.null, .int 0, .int 0, .int 0] := ⟨_, _, _, rfl, iw_X6, ⟨tyX6, tyX6_ok, dv_of rfl⟩, gw_in 132 (by decide +kernel) (by decide +kernel), gw_in 133 (by decide +kernel) (by decide +kernel), gw_in 102 (by decide +kernel) (by decide +kernel), rfl⟩
theorem zj_X3_32 : MLj RX3 32 yX6_init cX6_init 1 := by unfold MLj okY; exact ⟨by decide +kernel, gw_in 135 (by decide +kernel) (by decide +kernel), gw_in 102 (by decide +kernel) (by decide +kernel), gw_in 136 (by decide +kernel) (by decide +kernel), rfl, by decide +kernel, by decide +kernel, by decide +kernel, by decide⟩
theorem zf_X3_33 : FLf RX3 33 3 6 (.object "LightHalves$Standing") := ⟨_, _, _, rfl, by decide, iw_X3, gw_in 240 (by decide +kernel) (by decide +kernel), ⟨tyX3, tyX3_ok⟩, nmX3, rfl, rfl, by decide +kernel⟩
theorem zn_X3_37 : NWk RX3 37 5 [.null, .null, .null, .null, .null, .null, .null, .int 0, .int 0] := ⟨_, _, _, rfl, iw_X5, ⟨tyX5, tyX5_ok, dv_of rfl⟩, gw_in 163 (by decide +kernel) (by decide +kernel), gw_in 164 (by decide +kernel) (by decide +kernel), gw_in 103 (by decide +kernel) (by decide +kernel), rfl⟩
theorem zj_X3_39 : MLj RX3 39 yX5_init cX5_init 1 := by unfold MLj okY; exact ⟨by decide +kernel, gw_in 166 (by decide +kernel) (by decide +kernel), gw_in 103 (by decide +kernel) (by decide +kernel), gw_in 167 (by decide +kernel) (by decide +kernel), rfl, by decide +kernel, by decide +kernel, by decide +kernel, by decide⟩
theorem zf_X3_40 : FLf RX3 40 3 7 (.object "LightHalves$Rules") := ⟨_, _, _, rfl, by decide, iw_X3, gw_in 243 (by decide +kernel) (by decide +kernel), ⟨tyX3, tyX3_ok⟩, nmX3, rfl, rfl, by decide +kernel⟩
theorem zn_X3_44 : NWk RX3 44 2 [.null, .null, .null, .null, .int 0] := ⟨_, _, _, rfl, iw_X2, ⟨tyX2, tyX2_ok, dv_of rfl⟩, gw_in 202 (by decide +kernel) (by decide +kernel), gw_in 203 (by decide +kernel) (by decide +kernel), gw_in 104 (by decide +kernel) (by decide +kernel), rfl⟩
theorem zj_X3_46 : MLj RX3 46 yX2_init cX2_init 1 := by unfold MLj okY; exact ⟨by decide +kernel, gw_in 205 (by decide +kernel) (by decide +kernel), gw_in 104 (by decide +kernel) (by decide +kernel), gw_in 206 (by decide +kernel) (by decide +kernel), rfl, by decide +kernel, by decide +kernel, by decide +kernel, by decide⟩
theorem zf_X3_47 : FLf RX3 47 3 8 (.object "LightHalves$Reports") := ⟨_, _, _, rfl, by decide, iw_X3, gw_in 245 (by decide +kernel) (by decide +kernel), ⟨tyX3, tyX3_ok⟩, nmX3, rfl, rfl, by decide +kernel⟩
theorem zp_X3_51 : FLw RX3 51 3 9 .int := ⟨_, _, _, rfl, by decide, iw_X3, gw_in 247 (by decide +kernel) (by decide +kernel), ⟨tyX3, tyX3_ok⟩, nmX3, rfl, by decide +kernel⟩
theorem zp_X3_55 : FLw RX3 55 3 10 .int := ⟨_, _, _, rfl, by decide, iw_X3, gw_in 250 (by decide +kernel) (by decide +kernel), ⟨tyX3, tyX3_ok⟩, nmX3, rfl, by decide +kernel⟩
theorem zp_X3_58 : FLw RX3 58 3 11 .int := ⟨_, _, _, rfl, by decide, iw_X3, gw_in 253 (by decide +kernel) (by decide +kernel), ⟨tyX3, tyX3_ok⟩, nmX3, rfl, by decide +kernel⟩
theorem zg_X3_21 : FLk RX3 21 3 3 := ⟨_, _, _, rfl, by decide, iw_X3, gw_in 234 (by decide +kernel) (by decide +kernel)⟩
theorem zs_X3_61 : MLs RX3 61 yJ7_fill_53178 cJ7_fill_53178 4 none 2 := by unfold MLs okY; exact ⟨gw_in 225 (by decide +kernel) (by decide +kernel), gw_in 226 (by decide +kernel) (by decide +kernel), gw_in 105 (by decide +kernel) (by decide +kernel), gw_in 227 (by decide +kernel) (by decide +kernel), by decide +kernel, by decide +kernel, by decide +kernel, by decide⟩
theorem zn_X8_7 : NWk RX8 7 3 [.null, .null, .null, .null, .null, .null, .null, .null, .null, .int 0, .int 0, .int 0] := ⟨_, _, _, rfl, iw_X3, ⟨tyX3, tyX3_ok, dv_of rfl⟩, gw_in 126 (by decide +kernel) (by decide +kernel), gw_in 127 (by decide +kernel) (by decide +kernel), gw_in 101 (by decide +kernel) (by decide +kernel), rfl⟩
theorem zi_X8_9 : MLi RX8 9 yX3_init cX3_init 1 := by unfold MLi okY; exact ⟨gw_in 128 (by decide +kernel) (by decide +kernel), gw_in 129 (by decide +kernel) (by decide +kernel), gw_in 101 (by decide +kernel) (by decide +kernel), gw_in 130 (by decide +kernel) (by decide +kernel), rfl, by decide +kernel, by decide +kernel, by decide +kernel, by decide⟩
theorem zf_X8_10 : FLf RX8 10 8 0 (.object "LightHalves$Rock") := ⟨_, _, _, rfl, by decide, iw_X8, gw_in 425 (by decide +kernel) (by decide +kernel), ⟨tyX8, tyX8_ok⟩, nmX8, rfl, rfl, by decide +kernel⟩
theorem zf_X8_16 : FLf RX8 16 8 1 (.object "LightHalves$Rock") := ⟨_, _, _, rfl, by decide, iw_X8, gw_in 426 (by decide +kernel) (by decide +kernel), ⟨tyX8, tyX8_ok⟩, nmX8, rfl, rfl, by decide +kernel⟩
theorem zn_X8_19 : NWk RX8 19 6 [.null, .int 0, .int 0, .int 0] := ⟨_, _, _, rfl, iw_X6, ⟨tyX6, tyX6_ok, dv_of rfl⟩, gw_in 280 (by decide +kernel) (by decide +kernel), gw_in 133 (by decide +kernel) (by decide +kernel), gw_in 102 (by decide +kernel) (by decide +kernel), rfl⟩
theorem zj_X8_21 : MLj RX8 21 yX6_init cX6_init 1 := by unfold MLj okY; exact ⟨by decide +kernel, gw_in 135 (by decide +kernel) (by decide +kernel), gw_in 102 (by decide +kernel) (by decide +kernel), gw_in 136 (by decide +kernel) (by decide +kernel), rfl, by decide +kernel, by decide +kernel, by decide +kernel, by decide⟩
theorem zf_X8_22 : FLf RX8 22 8 2 (.object "LightHalves$Standing") := ⟨_, _, _, rfl, by decide, iw_X8, gw_in 427 (by decide +kernel) (by decide +kernel), ⟨tyX8, tyX8_ok⟩, nmX8, rfl, rfl, by decide +kernel⟩
theorem zn_X8_26 : NWk RX8 26 1 [.null, .null, .null, .int 0, .int 0, .int 0, .int 0, .int 0, .int 0] := ⟨_, _, _, rfl, iw_X1, ⟨tyX1, tyX1_ok, dv_of rfl⟩, gw_in 282 (by decide +kernel) (by decide +kernel), gw_in 283 (by decide +kernel) (by decide +kernel), gw_in 106 (by decide +kernel) (by decide +kernel), rfl⟩
theorem zi_X8_28 : MLi RX8 28 yX1_init cX1_init 2 := by unfold MLi okY; exact ⟨gw_in 284 (by decide +kernel) (by decide +kernel), gw_in 285 (by decide +kernel) (by decide +kernel), gw_in 106 (by decide +kernel) (by decide +kernel), gw_in 286 (by decide +kernel) (by decide +kernel), rfl, by decide +kernel, by decide +kernel, by decide +kernel, by decide⟩
theorem zf_X8_29 : FLf RX8 29 8 3 (.object "LightHalves$Planner") := ⟨_, _, _, rfl, by decide, iw_X8, gw_in 428 (by decide +kernel) (by decide +kernel), ⟨tyX8, tyX8_ok⟩, nmX8, rfl, rfl, by decide +kernel⟩
theorem zn_X8_33 : NWk RX8 33 4 [.null, .int 0, .int 0, .int 0, .int 0, .int 0, .int 0, .int 0, .int 0, .int 0, .int 0] := ⟨_, _, _, rfl, iw_X4, ⟨tyX4, tyX4_ok, dv_of rfl⟩, gw_in 326 (by decide +kernel) (by decide +kernel), gw_in 327 (by decide +kernel) (by decide +kernel), gw_in 107 (by decide +kernel) (by decide +kernel), rfl⟩
theorem zj_X8_35 : MLj RX8 35 yX4_init cX4_init 1 := by unfold MLj okY; exact ⟨by decide +kernel, gw_in 329 (by decide +kernel) (by decide +kernel), gw_in 107 (by decide +kernel) (by decide +kernel), gw_in 330 (by decide +kernel) (by decide +kernel), rfl, by decide +kernel, by decide +kernel, by decide +kernel, by decide⟩
theorem zf_X8_36 : FLf RX8 36 8 4 (.object "LightHalves$RuleReader") := ⟨_, _, _, rfl, by decide, iw_X8, gw_in 429 (by decide +kernel) (by decide +kernel), ⟨tyX8, tyX8_ok⟩, nmX8, rfl, rfl, by decide +kernel⟩
theorem zn_X8_40 : NWk RX8 40 5 [.null, .null, .null, .null, .null, .null, .null, .int 0, .int 0] := ⟨_, _, _, rfl, iw_X5, ⟨tyX5, tyX5_ok, dv_of rfl⟩, gw_in 366 (by decide +kernel) (by decide +kernel), gw_in 164 (by decide +kernel) (by decide +kernel), gw_in 103 (by decide +kernel) (by decide +kernel), rfl⟩
theorem zj_X8_42 : MLj RX8 42 yX5_init cX5_init 1 := by unfold MLj okY; exact ⟨by decide +kernel, gw_in 166 (by decide +kernel) (by decide +kernel), gw_in 103 (by decide +kernel) (by decide +kernel), gw_in 167 (by decide +kernel) (by decide +kernel), rfl, by decide +kernel, by decide +kernel, by decide +kernel, by decide⟩
theorem zf_X8_43 : FLf RX8 43 8 5 (.object "LightHalves$Rules") := ⟨_, _, _, rfl, by decide, iw_X8, gw_in 430 (by decide +kernel) (by decide +kernel), ⟨tyX8, tyX8_ok⟩, nmX8, rfl, rfl, by decide +kernel⟩
theorem zn_X8_47 : NWk RX8 47 0 [.null, .null, .null, .null, .null, .null, .null] := ⟨_, _, _, rfl, iw_X0, ⟨tyX0, tyX0_ok, dv_of rfl⟩, gw_in 368 (by decide +kernel) (by decide +kernel), gw_in 369 (by decide +kernel) (by decide +kernel), gw_in 108 (by decide +kernel) (by decide +kernel), rfl⟩
theorem zi_X8_49 : MLi RX8 49 yX0_init cX0_init 1 := by unfold MLi okY; exact ⟨gw_in 370 (by decide +kernel) (by decide +kernel), gw_in 371 (by decide +kernel) (by decide +kernel), gw_in 108 (by decide +kernel) (by decide +kernel), gw_in 372 (by decide +kernel) (by decide +kernel), rfl, by decide +kernel, by decide +kernel, by decide +kernel, by decide⟩
theorem zf_X8_50 : FLf RX8 50 8 6 (.object "LightHalves$Host") := ⟨_, _, _, rfl, by decide, iw_X8, gw_in 431 (by decide +kernel) (by decide +kernel), ⟨tyX8, tyX8_ok⟩, nmX8, rfl, rfl, by decide +kernel⟩
theorem zn_X8_54 : NWk RX8 54 7 [.null, .int 0, .int 0, .int 0, .int 0, .int 0] := ⟨_, _, _, rfl, iw_X7, ⟨tyX7, tyX7_ok, dv_of rfl⟩, gw_in 397 (by decide +kernel) (by decide +kernel), gw_in 398 (by decide +kernel) (by decide +kernel), gw_in 109 (by decide +kernel) (by decide +kernel), rfl⟩
theorem zj_X8_56 : MLj RX8 56 yX7_init cX7_init 1 := by unfold MLj okY; exact ⟨by decide +kernel, gw_in 400 (by decide +kernel) (by decide +kernel), gw_in 109 (by decide +kernel) (by decide +kernel), gw_in 401 (by decide +kernel) (by decide +kernel), rfl, by decide +kernel, by decide +kernel, by decide +kernel, by decide⟩
theorem zf_X8_57 : FLf RX8 57 8 7 (.object "LightHalves$Thing") := ⟨_, _, _, rfl, by decide, iw_X8, gw_in 432 (by decide +kernel) (by decide +kernel), ⟨tyX8, tyX8_ok⟩, nmX8, rfl, rfl, by decide +kernel⟩
theorem zf_X8_61 : FLf RX8 61 8 8 (.array .int) := ⟨_, _, _, rfl, by decide, iw_X8, gw_in 433 (by decide +kernel) (by decide +kernel), ⟨tyX8, tyX8_ok⟩, nmX8, rfl, rfl, by decide +kernel⟩
theorem zf_X8_65 : FLf RX8 65 8 9 (.array .int) := ⟨_, _, _, rfl, by decide, iw_X8, gw_in 434 (by decide +kernel) (by decide +kernel), ⟨tyX8, tyX8_ok⟩, nmX8, rfl, rfl, by decide +kernel⟩
theorem zp_X8_68 : FLw RX8 68 8 10 .int := ⟨_, _, _, rfl, by decide, iw_X8, gw_in 435 (by decide +kernel) (by decide +kernel), ⟨tyX8, tyX8_ok⟩, nmX8, rfl, by decide +kernel⟩
theorem zp_X8_72 : FLw RX8 72 8 11 .int := ⟨_, _, _, rfl, by decide, iw_X8, gw_in 436 (by decide +kernel) (by decide +kernel), ⟨tyX8, tyX8_ok⟩, nmX8, rfl, by decide +kernel⟩
theorem zp_X8_75 : FLw RX8 75 8 12 .boolean := ⟨_, _, _, rfl, by decide, iw_X8, gw_in 437 (by decide +kernel) (by decide +kernel), ⟨tyX8, tyX8_ok⟩, nmX8, rfl, by decide +kernel⟩
theorem zf_X9_9 : FLf RX9 9 9 0 (.array .int) := ⟨_, _, _, rfl, by decide, iw_X9, gw_in 1194 (by decide +kernel) (by decide +kernel), ⟨tyX9, tyX9_ok⟩, nmX9, rfl, rfl, by decide +kernel⟩
theorem zf_X9_13 : FLf RX9 13 9 1 (.array .int) := ⟨_, _, _, rfl, by decide, iw_X9, gw_in 1195 (by decide +kernel) (by decide +kernel), ⟨tyX9, tyX9_ok⟩, nmX9, rfl, rfl, by decide +kernel⟩
theorem zf_X9_16 : FLf RX9 16 9 2 (.array .int) := ⟨_, _, _, rfl, by decide, iw_X9, gw_in 1196 (by decide +kernel) (by decide +kernel), ⟨tyX9, tyX9_ok⟩, nmX9, rfl, rfl, by decide +kernel⟩
theorem zf_X9_19 : FLf RX9 19 9 4 (.array .int) := ⟨_, _, _, rfl, by decide, iw_X9, gw_in 1198 (by decide +kernel) (by decide +kernel), ⟨tyX9, tyX9_ok⟩, nmX9, rfl, rfl, by decide +kernel⟩
theorem zf_X9_22 : FLf RX9 22 9 5 (.array .int) := ⟨_, _, _, rfl, by decide, iw_X9, gw_in 1199 (by decide +kernel) (by decide +kernel), ⟨tyX9, tyX9_ok⟩, nmX9, rfl, rfl, by decide +kernel⟩
theorem zf_X9_25 : FLf RX9 25 9 7 (.array .char) := ⟨_, _, _, rfl, by decide, iw_X9, gw_in 1201 (by decide +kernel) (by decide +kernel), ⟨tyX9, tyX9_ok⟩, nmX9, rfl, rfl, by decide +kernel⟩
theorem zf_X9_29 : FLf RX9 29 9 14 (.array .int) := ⟨_, _, _, rfl, by decide, iw_X9, gw_in 1208 (by decide +kernel) (by decide +kernel), ⟨tyX9, tyX9_ok⟩, nmX9, rfl, rfl, by decide +kernel⟩
theorem zf_X9_32 : FLf RX9 32 9 15 (.array .int) := ⟨_, _, _, rfl, by decide, iw_X9, gw_in 1209 (by decide +kernel) (by decide +kernel), ⟨tyX9, tyX9_ok⟩, nmX9, rfl, rfl, by decide +kernel⟩
theorem zf_X9_35 : FLf RX9 35 9 16 (.array .int) := ⟨_, _, _, rfl, by decide, iw_X9, gw_in 1210 (by decide +kernel) (by decide +kernel), ⟨tyX9, tyX9_ok⟩, nmX9, rfl, rfl, by decide +kernel⟩
theorem zf_X9_38 : FLf RX9 38 9 17 (.array .int) := ⟨_, _, _, rfl, by decide, iw_X9, gw_in 1211 (by decide +kernel) (by decide +kernel), ⟨tyX9, tyX9_ok⟩, nmX9, rfl, rfl, by decide +kernel⟩
theorem zf_X9_41 : FLf RX9 41 9 18 (.array .int) := ⟨_, _, _, rfl, by decide, iw_X9, gw_in 1212 (by decide +kernel) (by decide +kernel), ⟨tyX9, tyX9_ok⟩, nmX9, rfl, rfl, by decide +kernel⟩
theorem zf_X9_44 : FLf RX9 44 9 23 (.array .int) := ⟨_, _, _, rfl, by decide, iw_X9, gw_in 1217 (by decide +kernel) (by decide +kernel), ⟨tyX9, tyX9_ok⟩, nmX9, rfl, rfl, by decide +kernel⟩
theorem zf_X9_47 : FLf RX9 47 9 24 (.array .int) := ⟨_, _, _, rfl, by decide, iw_X9, gw_in 1218 (by decide +kernel) (by decide +kernel), ⟨tyX9, tyX9_ok⟩, nmX9, rfl, rfl, by decide +kernel⟩
theorem zf_X9_50 : FLf RX9 50 9 26 (.array .int) := ⟨_, _, _, rfl, by decide, iw_X9, gw_in 1220 (by decide +kernel) (by decide +kernel), ⟨tyX9, tyX9_ok⟩, nmX9, rfl, rfl, by decide +kernel⟩
theorem zf_X9_53 : FLf RX9 53 9 28 (.array .int) := ⟨_, _, _, rfl, by decide, iw_X9, gw_in 1222 (by decide +kernel) (by decide +kernel), ⟨tyX9, tyX9_ok⟩, nmX9, rfl, rfl, by decide +kernel⟩
theorem zf_X9_56 : FLf RX9 56 9 29 (.array .int) := ⟨_, _, _, rfl, by decide, iw_X9, gw_in 1223 (by decide +kernel) (by decide +kernel), ⟨tyX9, tyX9_ok⟩, nmX9, rfl, rfl, by decide +kernel⟩
theorem zf_X9_59 : FLf RX9 59 9 30 (.array .int) := ⟨_, _, _, rfl, by decide, iw_X9, gw_in 1224 (by decide +kernel) (by decide +kernel), ⟨tyX9, tyX9_ok⟩, nmX9, rfl, rfl, by decide +kernel⟩
theorem zf_X9_62 : FLf RX9 62 9 31 (.array .int) := ⟨_, _, _, rfl, by decide, iw_X9, gw_in 1225 (by decide +kernel) (by decide +kernel), ⟨tyX9, tyX9_ok⟩, nmX9, rfl, rfl, by decide +kernel⟩
theorem zf_X9_65 : FLf RX9 65 9 32 (.array .int) := ⟨_, _, _, rfl, by decide, iw_X9, gw_in 1226 (by decide +kernel) (by decide +kernel), ⟨tyX9, tyX9_ok⟩, nmX9, rfl, rfl, by decide +kernel⟩
theorem zf_X9_68 : FLf RX9 68 9 33 (.array .int) := ⟨_, _, _, rfl, by decide, iw_X9, gw_in 1227 (by decide +kernel) (by decide +kernel), ⟨tyX9, tyX9_ok⟩, nmX9, rfl, rfl, by decide +kernel⟩
theorem zg_X9_9 : FLk RX9 9 9 0 := ⟨_, _, _, rfl, by decide, iw_X9, gw_in 1194 (by decide +kernel) (by decide +kernel)⟩
