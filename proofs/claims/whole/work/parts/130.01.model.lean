set_option maxRecDepth 100000 in
set_option maxHeartbeats 4000000 in
theorem c_X9_isPlan {l : Launch} {G : Gt} {p0 : Int32} {r : Int32} (hf : f_X9_isPlan p0 = some r) : mFi l G yX9_isPlan cX9_isPlan 1 .boolean 1 [.int p0] ([] : va_W) r ([] : va_W) := by
  refine mFi.of (by decide +kernel) (Nat.le_of_ble_eq_true rfl) ?_
  intro p e s m below meth c A C hr hlk h ls hl
  obtain ⟨hx, hb, hml, hown, hts⟩ := id C
  replace hl : lv_has ls 1 [(0, .int p0)] := hl
  unfold f_X9_isPlan at hf
  refine lv_iload_n hx hb dX9_isPlan_0 rfl (lv_at hl 0 rfl) ?_
  refine lv_iconst (v := (0 : Int32)) hx hb dX9_isPlan_1 rfl ?_
  refine lv_iconst (v := (4 : Int32)) hx hb dX9_isPlan_2 rfl ?_
  replace hf := bd1_inv hf
  obtain ⟨r1, hc2, hf⟩ := hf
  refine r_ciS0 C h (c_X9_in1 hc2) ms_X9_71 rfl [] rfl rfl hl.1 rfl (Nat.le_of_ble_eq_true rfl) (rok (by decide)) dX9_isPlan_3 (fun H locs h => ?_)
  replace hf := chkB_inv hf
  obtain ⟨hb3, hf⟩ := hf
  cases hf
  exact r_iret C h hr hlk hb3 dX9_isPlan_6
