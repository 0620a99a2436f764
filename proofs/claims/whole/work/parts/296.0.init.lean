set_option maxHeartbeats 4000000 in
set_option maxRecDepth 100000 in
theorem c_X6_init {l : Launch} {G : Gt} {h0 : Nat} : mFn l G yX6_init cX6_init 1 1 1 6 [.ref h0] [(h0, ob 6 [.null, .int 0, .int 0, .int 0])] (fun a => [(h0, ob 6 [.ref (a 0), .int (0 : Int32), .int (0 : Int32), .int (0 : Int32)]), (a 0, ia G 6 (fun _ => 0))]) := by
  refine mFn.of (by decide +kernel) rfl (Nat.le_of_ble_eq_true rfl) ?_
  intro p e s m below meth c A C hr hlk hin hO h ls hl
  obtain ⟨hx, hb, hml, hown, hts⟩ := id C
  replace hl : lv_has ls 1 [(0, .ref h0)] := hl
  refine lv_aload_n hx hb dX6_init_0 rfl (lv_at hl 0 rfl) ?_
  refine r_obj C (gw_in 137 (by decide +kernel) (by decide +kernel)) (gw_in 124 (by decide +kernel) (by decide +kernel)) (gw_in 125 (by decide +kernel) (by decide +kernel)) hl.1 ⟨Nat.le_of_ble_eq_true rfl, Nat.le_of_ble_eq_true rfl⟩ (Nat.le_of_ble_eq_true rfl) dX6_init_1 ?_
  refine lv_aload_n hx hb dX6_init_4 rfl (lv_at hl 0 rfl) ?_
  refine lv_bipush (v := (6 : Int32)) hx hb dX6_init_5 rfl ?_
  refine r_newa (N' := 6) C h (gw_in 162 (by decide +kernel) (by decide +kernel)) (by decide) (by decide) (Nat.le_of_ble_eq_true rfl) (Nat.le_of_ble_eq_true rfl) (Nat.le_of_ble_eq_true rfl) dX6_init_7 (fun q0 H h => ?_)
  refine W.widen (k := 1) (n := 6) (Nat.le_of_ble_eq_true rfl) (Nat.le_of_ble_eq_true rfl) ?_
  replace h : Wd G A s [(h0, ob 6 [.null, .int 0, .int 0, .int 0]), (q0, ia G 6 (fun _ => 0))] H _ := h
  refine r_putF (ws' := [(h0, ob 6 [.ref q0, .int 0, .int 0, .int 0]), (q0, ia G 6 (fun _ => 0))]) C h hin zf_X6_9 0 rfl rfl rfl (Nat.le_of_ble_eq_true rfl) dX6_init_9 rfl (fun H locs h => ?_)
  refine lv_aload_n hx hb dX6_init_12 rfl (lv_at hl 0 rfl) ?_
  refine lv_iconst (v := (0 : Int32)) hx hb dX6_init_13 (by decide) ?_
  refine r_put (ws' := [(h0, ob 6 [.ref q0, .int (0 : Int32), .int 0, .int 0]), (q0, ia G 6 (fun _ => 0))]) C h zp_X6_15 0 rfl rfl rfl (Nat.le_of_ble_eq_true rfl) dX6_init_14 rfl (fun H locs h => ?_)
  refine lv_aload_n hx hb dX6_init_17 rfl (lv_at hl 0 rfl) ?_
  refine lv_iconst (v := (0 : Int32)) hx hb dX6_init_18 (by decide) ?_
  refine r_put (ws' := [(h0, ob 6 [.ref q0, .int (0 : Int32), .int (0 : Int32), .int 0]), (q0, ia G 6 (fun _ => 0))]) C h zp_X6_19 0 rfl rfl rfl (Nat.le_of_ble_eq_true rfl) dX6_init_19 rfl (fun H locs h => ?_)
  refine lv_aload_n hx hb dX6_init_22 rfl (lv_at hl 0 rfl) ?_
  refine lv_iconst (v := (0 : Int32)) hx hb dX6_init_23 (by decide) ?_
  refine r_put (ws' := [(h0, ob 6 [.ref q0, .int (0 : Int32), .int (0 : Int32), .int (0 : Int32)]), (q0, ia G 6 (fun _ => 0))]) C h zp_X6_22 0 rfl rfl rfl (Nat.le_of_ble_eq_true rfl) dX6_init_24 rfl (fun H locs h => ?_)
  exact r_nret C h hr hlk (fun k => ([q0] : List Nat).getD k 0) rfl dX6_init_27
set_option maxHeartbeats 4000000 in
set_option maxRecDepth 100000 in
theorem c_X5_init {l : Launch} {G : Gt} {h0 : Nat} : mFn l G yX5_init cX5_init 1 1 7 630 [.ref h0] [(h0, ob 5 [.null, .null, .null, .null, .null, .null, .null, .int 0, .int 0])] (fun a => [(h0, ob 5 [.ref (a 0), .ref (a 1), .ref (a 2), .ref (a 3), .ref (a 4), .ref (a 5), .ref (a 6), .int (0 : Int32), .int (0 : Int32)]), (a 0, ia G 8 (fun _ => 0)), (a 1, ia G 8 (fun _ => 0)), (a 2, ia G 9 (fun _ => 0)), (a 3, ia G 200 (fun _ => 0)), (a 4, ia G 200 (fun _ => 0)), (a 5, ia G 200 (fun _ => 0)), (a 6, ia G 5 (fun _ => 0))]) := by
  refine mFn.of (by decide +kernel) rfl (Nat.le_of_ble_eq_true rfl) ?_
  intro p e s m below meth c A C hr hlk hin hO h ls hl
  obtain ⟨hx, hb, hml, hown, hts⟩ := id C
  replace hl : lv_has ls 1 [(0, .ref h0)] := hl
  refine lv_aload_n hx hb dX5_init_0 rfl (lv_at hl 0 rfl) ?_
  refine r_obj C (gw_in 168 (by decide +kernel) (by decide +kernel)) (gw_in 124 (by decide +kernel) (by decide +kernel)) (gw_in 125 (by decide +kernel) (by decide +kernel)) hl.1 ⟨Nat.le_of_ble_eq_true rfl, Nat.le_of_ble_eq_true rfl⟩ (Nat.le_of_ble_eq_true rfl) dX5_init_1 ?_
  refine lv_aload_n hx hb dX5_init_4 rfl (lv_at hl 0 rfl) ?_
  refine lv_bipush (v := (8 : Int32)) hx hb dX5_init_5 rfl ?_
  refine r_newa (N' := 8) C h (gw_in 162 (by decide +kernel) (by decide +kernel)) (by decide) (by decide) (Nat.le_of_ble_eq_true rfl) (Nat.le_of_ble_eq_true rfl) (Nat.le_of_ble_eq_true rfl) dX5_init_7 (fun q0 H h => ?_)
  refine W.widen (k := 1) (n := 8) (Nat.le_of_ble_eq_true rfl) (Nat.le_of_ble_eq_true rfl) ?_
  replace h : Wd G A s [(h0, ob 5 [.null, .null, .null, .null, .null, .null, .null, .int 0, .int 0]), (q0, ia G 8 (fun _ => 0))] H _ := h
  refine r_putF (ws' := [(h0, ob 5 [.ref q0, .null, .null, .null, .null, .null, .null, .int 0, .int 0]), (q0, ia G 8 (fun _ => 0))]) C h hin zf_X5_9 0 rfl rfl rfl (Nat.le_of_ble_eq_true rfl) dX5_init_9 rfl (fun H locs h => ?_)
  refine lv_aload_n hx hb dX5_init_12 rfl (lv_at hl 0 rfl) ?_
  refine lv_bipush (v := (8 : Int32)) hx hb dX5_init_13 rfl ?_
  refine r_newa (N' := 8) C h (gw_in 162 (by decide +kernel) (by decide +kernel)) (by decide) (by decide) (Nat.le_of_ble_eq_true rfl) (Nat.le_of_ble_eq_true rfl) (Nat.le_of_ble_eq_true rfl) dX5_init_15 (fun q1 H h => ?_)
  refine W.widen (k := 2) (n := 16) (Nat.le_of_ble_eq_true rfl) (Nat.le_of_ble_eq_true rfl) ?_
  replace h : Wd G A s [(h0, ob 5 [.ref q0, .null, .null, .null, .null, .null, .null, .int 0, .int 0]), (q0, ia G 8 (fun _ => 0)), (q1, ia G 8 (fun _ => 0))] H _ := h
  refine r_putF (ws' := [(h0, ob 5 [.ref q0, .ref q1, .null, .null, .null, .null, .null, .int 0, .int 0]), (q0, ia G 8 (fun _ => 0)), (q1, ia G 8 (fun _ => 0))]) C h hin zf_X5_15 0 rfl rfl rfl (Nat.le_of_ble_eq_true rfl) dX5_init_17 rfl (fun H locs h => ?_)
  refine lv_aload_n hx hb dX5_init_20 rfl (lv_at hl 0 rfl) ?_
  refine lv_bipush (v := (9 : Int32)) hx hb dX5_init_21 rfl ?_
  refine r_newa (N' := 9) C h (gw_in 162 (by decide +kernel) (by decide +kernel)) (by decide) (by decide) (Nat.le_of_ble_eq_true rfl) (Nat.le_of_ble_eq_true rfl) (Nat.le_of_ble_eq_true rfl) dX5_init_23 (fun q2 H h => ?_)
  refine W.widen (k := 3) (n := 25) (Nat.le_of_ble_eq_true rfl) (Nat.le_of_ble_eq_true rfl) ?_
  replace h : Wd G A s [(h0, ob 5 [.ref q0, .ref q1, .null, .null, .null, .null, .null, .int 0, .int 0]), (q0, ia G 8 (fun _ => 0)), (q1, ia G 8 (fun _ => 0)), (q2, ia G 9 (fun _ => 0))] H _ := h
  refine r_putF (ws' := [(h0, ob 5 [.ref q0, .ref q1, .ref q2, .null, .null, .null, .null, .int 0, .int 0]), (q0, ia G 8 (fun _ => 0)), (q1, ia G 8 (fun _ => 0)), (q2, ia G 9 (fun _ => 0))]) C h hin zf_X5_18 0 rfl rfl rfl (Nat.le_of_ble_eq_true rfl) dX5_init_25 rfl (fun H locs h => ?_)
  refine lv_aload_n hx hb dX5_init_28 rfl (lv_at hl 0 rfl) ?_
  refine lv_sipush (v := (200 : Int32)) hx hb dX5_init_29 rfl ?_
  refine r_newa (N' := 200) C h (gw_in 162 (by decide +kernel) (by decide +kernel)) (by decide) (by decide) (Nat.le_of_ble_eq_true rfl) (Nat.le_of_ble_eq_true rfl) (Nat.le_of_ble_eq_true rfl) dX5_init_32 (fun q3 H h => ?_)
  refine W.widen (k := 4) (n := 225) (Nat.le_of_ble_eq_true rfl) (Nat.le_of_ble_eq_true rfl) ?_
  replace h : Wd G A s [(h0, ob 5 [.ref q0, .ref q1, .ref q2, .null, .null, .null, .null, .int 0, .int 0]), (q0, ia G 8 (fun _ => 0)), (q1, ia G 8 (fun _ => 0)), (q2, ia G 9 (fun _ => 0)), (q3, ia G 200 (fun _ => 0))] H _ := h
  refine r_putF (ws' := [(h0, ob 5 [.ref q0, .ref q1, .ref q2, .ref q3, .null, .null, .null, .int 0, .int 0]), (q0, ia G 8 (fun _ => 0)), (q1, ia G 8 (fun _ => 0)), (q2, ia G 9 (fun _ => 0)), (q3, ia G 200 (fun _ => 0))]) C h hin zf_X5_21 0 rfl rfl rfl (Nat.le_of_ble_eq_true rfl) dX5_init_34 rfl (fun H locs h => ?_)
  refine lv_aload_n hx hb dX5_init_37 rfl (lv_at hl 0 rfl) ?_
  refine lv_sipush (v := (200 : Int32)) hx hb dX5_init_38 rfl ?_
  refine r_newa (N' := 200) C h (gw_in 162 (by decide +kernel) (by decide +kernel)) (by decide) (by decide) (Nat.le_of_ble_eq_true rfl) (Nat.le_of_ble_eq_true rfl) (Nat.le_of_ble_eq_true rfl) dX5_init_41 (fun q4 H h => ?_)
  refine W.widen (k := 5) (n := 425) (Nat.le_of_ble_eq_true rfl) (Nat.le_of_ble_eq_true rfl) ?_
  replace h : Wd G A s [(h0, ob 5 [.ref q0, .ref q1, .ref q2, .ref q3, .null, .null, .null, .int 0, .int 0]), (q0, ia G 8 (fun _ => 0)), (q1, ia G 8 (fun _ => 0)), (q2, ia G 9 (fun _ => 0)), (q3, ia G 200 (fun _ => 0)), (q4, ia G 200 (fun _ => 0))] H _ := h
  refine r_putF (ws' := [(h0, ob 5 [.ref q0, .ref q1, .ref q2, .ref q3, .ref q4, .null, .null, .int 0, .int 0]), (q0, ia G 8 (fun _ => 0)), (q1, ia G 8 (fun _ => 0)), (q2, ia G 9 (fun _ => 0)), (q3, ia G 200 (fun _ => 0)), (q4, ia G 200 (fun _ => 0))]) C h hin zf_X5_24 0 rfl rfl rfl (Nat.le_of_ble_eq_true rfl) dX5_init_43 rfl (fun H locs h => ?_)
  refine lv_aload_n hx hb dX5_init_46 rfl (lv_at hl 0 rfl) ?_
  refine lv_sipush (v := (200 : Int32)) hx hb dX5_init_47 rfl ?_
  refine r_newa (N' := 200) C h (gw_in 162 (by decide +kernel) (by decide +kernel)) (by decide) (by decide) (Nat.le_of_ble_eq_true rfl) (Nat.le_of_ble_eq_true rfl) (Nat.le_of_ble_eq_true rfl) dX5_init_50 (fun q5 H h => ?_)
  refine W.widen (k := 6) (n := 625) (Nat.le_of_ble_eq_true rfl) (Nat.le_of_ble_eq_true rfl) ?_
  replace h : Wd G A s [(h0, ob 5 [.ref q0, .ref q1, .ref q2, .ref q3, .ref q4, .null, .null, .int 0, .int 0]), (q0, ia G 8 (fun _ => 0)), (q1, ia G 8 (fun _ => 0)), (q2, ia G 9 (fun _ => 0)), (q3, ia G 200 (fun _ => 0)), (q4, ia G 200 (fun _ => 0)), (q5, ia G 200 (fun _ => 0))] H _ := h
  refine r_putF (ws' := [(h0, ob 5 [.ref q0, .ref q1, .ref q2, .ref q3, .ref q4, .ref q5, .null, .int 0, .int 0]), (q0, ia G 8 (fun _ => 0)), (q1, ia G 8 (fun _ => 0)), (q2, ia G 9 (fun _ => 0)), (q3, ia G 200 (fun _ => 0)), (q4, ia G 200 (fun _ => 0)), (q5, ia G 200 (fun _ => 0))]) C h hin zf_X5_27 0 rfl rfl rfl (Nat.le_of_ble_eq_true rfl) dX5_init_52 rfl (fun H locs h => ?_)
  refine lv_aload_n hx hb dX5_init_55 rfl (lv_at hl 0 rfl) ?_
  refine lv_iconst (v := (5 : Int32)) hx hb dX5_init_56 (by decide) ?_
  refine r_newa (N' := 5) C h (gw_in 162 (by decide +kernel) (by decide +kernel)) (by decide) (by decide) (Nat.le_of_ble_eq_true rfl) (Nat.le_of_ble_eq_true rfl) (Nat.le_of_ble_eq_true rfl) dX5_init_57 (fun q6 H h => ?_)
  refine W.widen (k := 7) (n := 630) (Nat.le_of_ble_eq_true rfl) (Nat.le_of_ble_eq_true rfl) ?_
  replace h : Wd G A s [(h0, ob 5 [.ref q0, .ref q1, .ref q2, .ref q3, .ref q4, .ref q5, .null, .int 0, .int 0]), (q0, ia G 8 (fun _ => 0)), (q1, ia G 8 (fun _ => 0)), (q2, ia G 9 (fun _ => 0)), (q3, ia G 200 (fun _ => 0)), (q4, ia G 200 (fun _ => 0)), (q5, ia G 200 (fun _ => 0)), (q6, ia G 5 (fun _ => 0))] H _ := h
  refine r_putF (ws' := [(h0, ob 5 [.ref q0, .ref q1, .ref q2, .ref q3, .ref q4, .ref q5, .ref q6, .int 0, .int 0]), (q0, ia G 8 (fun _ => 0)), (q1, ia G 8 (fun _ => 0)), (q2, ia G 9 (fun _ => 0)), (q3, ia G 200 (fun _ => 0)), (q4, ia G 200 (fun _ => 0)), (q5, ia G 200 (fun _ => 0)), (q6, ia G 5 (fun _ => 0))]) C h hin zf_X5_30 0 rfl rfl rfl (Nat.le_of_ble_eq_true rfl) dX5_init_59 rfl (fun H locs h => ?_)
  refine lv_aload_n hx hb dX5_init_62 rfl (lv_at hl 0 rfl) ?_
  refine lv_iconst (v := (0 : Int32)) hx hb dX5_init_63 (by decide) ?_
  refine r_put (ws' := [(h0, ob 5 [.ref q0, .ref q1, .ref q2, .ref q3, .ref q4, .ref q5, .ref q6, .int (0 : Int32), .int 0]), (q0, ia G 8 (fun _ => 0)), (q1, ia G 8 (fun _ => 0)), (q2, ia G 9 (fun _ => 0)), (q3, ia G 200 (fun _ => 0)), (q4, ia G 200 (fun _ => 0)), (q5, ia G 200 (fun _ => 0)), (q6, ia G 5 (fun _ => 0))]) C h zp_X5_33 0 rfl rfl rfl (Nat.le_of_ble_eq_true rfl) dX5_init_64 rfl (fun H locs h => ?_)
  refine lv_aload_n hx hb dX5_init_67 rfl (lv_at hl 0 rfl) ?_
  refine lv_iconst (v := (0 : Int32)) hx hb dX5_init_68 (by decide) ?_
  refine r_put (ws' := [(h0, ob 5 [.ref q0, .ref q1, .ref q2, .ref q3, .ref q4, .ref q5, .ref q6, .int (0 : Int32), .int (0 : Int32)]), (q0, ia G 8 (fun _ => 0)), (q1, ia G 8 (fun _ => 0)), (q2, ia G 9 (fun _ => 0)), (q3, ia G 200 (fun _ => 0)), (q4, ia G 200 (fun _ => 0)), (q5, ia G 200 (fun _ => 0)), (q6, ia G 5 (fun _ => 0))]) C h zp_X5_37 0 rfl rfl rfl (Nat.le_of_ble_eq_true rfl) dX5_init_69 rfl (fun H locs h => ?_)
  exact r_nret C h hr hlk (fun k => ([q0, q1, q2, q3, q4, q5, q6] : List Nat).getD k 0) rfl dX5_init_72
set_option maxHeartbeats 4000000 in
set_option maxRecDepth 100000 in
theorem c_X2_init {l : Launch} {G : Gt} {h0 : Nat} : mFn l G yX2_init cX2_init 1 1 4 24 [.ref h0] [(h0, ob 2 [.null, .null, .null, .null, .int 0])] (fun a => [(h0, ob 2 [.ref (a 0), .ref (a 1), .ref (a 2), .ref (a 3), .int (0 : Int32)]), (a 0, ia G 6 (fun _ => 0)), (a 1, ia G 6 (fun _ => 0)), (a 2, ia G 6 (fun _ => 0)), (a 3, ia G 6 (fun _ => 0))]) := by
  refine mFn.of (by decide +kernel) rfl (Nat.le_of_ble_eq_true rfl) ?_
  intro p e s m below meth c A C hr hlk hin hO h ls hl
  obtain ⟨hx, hb, hml, hown, hts⟩ := id C
  replace hl : lv_has ls 1 [(0, .ref h0)] := hl
  refine lv_aload_n hx hb dX2_init_0 rfl (lv_at hl 0 rfl) ?_
  refine r_obj C (gw_in 207 (by decide +kernel) (by decide +kernel)) (gw_in 124 (by decide +kernel) (by decide +kernel)) (gw_in 125 (by decide +kernel) (by decide +kernel)) hl.1 ⟨Nat.le_of_ble_eq_true rfl, Nat.le_of_ble_eq_true rfl⟩ (Nat.le_of_ble_eq_true rfl) dX2_init_1 ?_
  refine lv_aload_n hx hb dX2_init_4 rfl (lv_at hl 0 rfl) ?_
  refine lv_bipush (v := (6 : Int32)) hx hb dX2_init_5 rfl ?_
  refine r_newa (N' := 6) C h (gw_in 162 (by decide +kernel) (by decide +kernel)) (by decide) (by decide) (Nat.le_of_ble_eq_true rfl) (Nat.le_of_ble_eq_true rfl) (Nat.le_of_ble_eq_true rfl) dX2_init_7 (fun q0 H h => ?_)
  refine W.widen (k := 1) (n := 6) (Nat.le_of_ble_eq_true rfl) (Nat.le_of_ble_eq_true rfl) ?_
  replace h : Wd G A s [(h0, ob 2 [.null, .null, .null, .null, .int 0]), (q0, ia G 6 (fun _ => 0))] H _ := h
  refine r_putF (ws' := [(h0, ob 2 [.ref q0, .null, .null, .null, .int 0]), (q0, ia G 6 (fun _ => 0))]) C h hin zf_X2_9 0 rfl rfl rfl (Nat.le_of_ble_eq_true rfl) dX2_init_9 rfl (fun H locs h => ?_)
  refine lv_aload_n hx hb dX2_init_12 rfl (lv_at hl 0 rfl) ?_
  refine lv_bipush (v := (6 : Int32)) hx hb dX2_init_13 rfl ?_
  refine r_newa (N' := 6) C h (gw_in 162 (by decide +kernel) (by decide +kernel)) (by decide) (by decide) (Nat.le_of_ble_eq_true rfl) (Nat.le_of_ble_eq_true rfl) (Nat.le_of_ble_eq_true rfl) dX2_init_15 (fun q1 H h => ?_)
  refine W.widen (k := 2) (n := 12) (Nat.le_of_ble_eq_true rfl) (Nat.le_of_ble_eq_true rfl) ?_
  replace h : Wd G A s [(h0, ob 2 [.ref q0, .null, .null, .null, .int 0]), (q0, ia G 6 (fun _ => 0)), (q1, ia G 6 (fun _ => 0))] H _ := h
  refine r_putF (ws' := [(h0, ob 2 [.ref q0, .ref q1, .null, .null, .int 0]), (q0, ia G 6 (fun _ => 0)), (q1, ia G 6 (fun _ => 0))]) C h hin zf_X2_15 0 rfl rfl rfl (Nat.le_of_ble_eq_true rfl) dX2_init_17 rfl (fun H locs h => ?_)
  refine lv_aload_n hx hb dX2_init_20 rfl (lv_at hl 0 rfl) ?_
  refine lv_bipush (v := (6 : Int32)) hx hb dX2_init_21 rfl ?_
  refine r_newa (N' := 6) C h (gw_in 162 (by decide +kernel) (by decide +kernel)) (by decide) (by decide) (Nat.le_of_ble_eq_true rfl) (Nat.le_of_ble_eq_true rfl) (Nat.le_of_ble_eq_true rfl) dX2_init_23 (fun q2 H h => ?_)
  refine W.widen (k := 3) (n := 18) (Nat.le_of_ble_eq_true rfl) (Nat.le_of_ble_eq_true rfl) ?_
  replace h : Wd G A s [(h0, ob 2 [.ref q0, .ref q1, .null, .null, .int 0]), (q0, ia G 6 (fun _ => 0)), (q1, ia G 6 (fun _ => 0)), (q2, ia G 6 (fun _ => 0))] H _ := h
  refine r_putF (ws' := [(h0, ob 2 [.ref q0, .ref q1, .ref q2, .null, .int 0]), (q0, ia G 6 (fun _ => 0)), (q1, ia G 6 (fun _ => 0)), (q2, ia G 6 (fun _ => 0))]) C h hin zf_X2_18 0 rfl rfl rfl (Nat.le_of_ble_eq_true rfl) dX2_init_25 rfl (fun H locs h => ?_)
  refine lv_aload_n hx hb dX2_init_28 rfl (lv_at hl 0 rfl) ?_
  refine lv_bipush (v := (6 : Int32)) hx hb dX2_init_29 rfl ?_
  refine r_newa (N' := 6) C h (gw_in 162 (by decide +kernel) (by decide +kernel)) (by decide) (by decide) (Nat.le_of_ble_eq_true rfl) (Nat.le_of_ble_eq_true rfl) (Nat.le_of_ble_eq_true rfl) dX2_init_31 (fun q3 H h => ?_)
  refine W.widen (k := 4) (n := 24) (Nat.le_of_ble_eq_true rfl) (Nat.le_of_ble_eq_true rfl) ?_
  replace h : Wd G A s [(h0, ob 2 [.ref q0, .ref q1, .ref q2, .null, .int 0]), (q0, ia G 6 (fun _ => 0)), (q1, ia G 6 (fun _ => 0)), (q2, ia G 6 (fun _ => 0)), (q3, ia G 6 (fun _ => 0))] H _ := h
  refine r_putF (ws' := [(h0, ob 2 [.ref q0, .ref q1, .ref q2, .ref q3, .int 0]), (q0, ia G 6 (fun _ => 0)), (q1, ia G 6 (fun _ => 0)), (q2, ia G 6 (fun _ => 0)), (q3, ia G 6 (fun _ => 0))]) C h hin zf_X2_21 0 rfl rfl rfl (Nat.le_of_ble_eq_true rfl) dX2_init_33 rfl (fun H locs h => ?_)
  refine lv_aload_n hx hb dX2_init_36 rfl (lv_at hl 0 rfl) ?_
  refine lv_iconst (v := (0 : Int32)) hx hb dX2_init_37 (by decide) ?_
  refine r_put (ws' := [(h0, ob 2 [.ref q0, .ref q1, .ref q2, .ref q3, .int (0 : Int32)]), (q0, ia G 6 (fun _ => 0)), (q1, ia G 6 (fun _ => 0)), (q2, ia G 6 (fun _ => 0)), (q3, ia G 6 (fun _ => 0))]) C h zp_X2_24 0 rfl rfl rfl (Nat.le_of_ble_eq_true rfl) dX2_init_38 rfl (fun H locs h => ?_)
  exact r_nret C h hr hlk (fun k => ([q0, q1, q2, q3] : List Nat).getD k 0) rfl dX2_init_41
set_option maxHeartbeats 4000000 in
set_option maxRecDepth 100000 in
theorem c_X4_init {l : Launch} {G : Gt} {h0 : Nat} : mFn l G yX4_init cX4_init 1 1 1 200 [.ref h0] [(h0, ob 4 [.null, .int 0, .int 0, .int 0, .int 0, .int 0, .int 0, .int 0, .int 0, .int 0, .int 0])] (fun a => [(h0, ob 4 [.ref (a 0), .int (0 : Int32), .int (0 : Int32), .int (0 : Int32), .int (0 : Int32), .int (0 : Int32), .int (0 : Int32), .int (19 : Int32), .int (0 : Int32), .int (0 : Int32), .int (0 : Int32)]), (a 0, ia G 200 (fun _ => 0))]) := by
  refine mFn.of (by decide +kernel) rfl (Nat.le_of_ble_eq_true rfl) ?_
  intro p e s m below meth c A C hr hlk hin hO h ls hl
  obtain ⟨hx, hb, hml, hown, hts⟩ := id C
  replace hl : lv_has ls 1 [(0, .ref h0)] := hl
  refine lv_aload_n hx hb dX4_init_0 rfl (lv_at hl 0 rfl) ?_
  refine r_obj C (gw_in 331 (by decide +kernel) (by decide +kernel)) (gw_in 124 (by decide +kernel) (by decide +kernel)) (gw_in 125 (by decide +kernel) (by decide +kernel)) hl.1 ⟨Nat.le_of_ble_eq_true rfl, Nat.le_of_ble_eq_true rfl⟩ (Nat.le_of_ble_eq_true rfl) dX4_init_1 ?_
  refine lv_aload_n hx hb dX4_init_4 rfl (lv_at hl 0 rfl) ?_
  refine lv_sipush (v := (200 : Int32)) hx hb dX4_init_5 rfl ?_
  refine r_newa (N' := 200) C h (gw_in 162 (by decide +kernel) (by decide +kernel)) (by decide) (by decide) (Nat.le_of_ble_eq_true rfl) (Nat.le_of_ble_eq_true rfl) (Nat.le_of_ble_eq_true rfl) dX4_init_8 (fun q0 H h => ?_)
  refine W.widen (k := 1) (n := 200) (Nat.le_of_ble_eq_true rfl) (Nat.le_of_ble_eq_true rfl) ?_
  replace h : Wd G A s [(h0, ob 4 [.null, .int 0, .int 0, .int 0, .int 0, .int 0, .int 0, .int 0, .int 0, .int 0, .int 0]), (q0, ia G 200 (fun _ => 0))] H _ := h
  refine r_putF (ws' := [(h0, ob 4 [.ref q0, .int 0, .int 0, .int 0, .int 0, .int 0, .int 0, .int 0, .int 0, .int 0, .int 0]), (q0, ia G 200 (fun _ => 0))]) C h hin zf_X4_9 0 rfl rfl rfl (Nat.le_of_ble_eq_true rfl) dX4_init_10 rfl (fun H locs h => ?_)
  refine lv_aload_n hx hb dX4_init_13 rfl (lv_at hl 0 rfl) ?_
  refine lv_iconst (v := (0 : Int32)) hx hb dX4_init_14 (by decide) ?_
  refine r_put (ws' := [(h0, ob 4 [.ref q0, .int (0 : Int32), .int 0, .int 0, .int 0, .int 0, .int 0, .int 0, .int 0, .int 0, .int 0]), (q0, ia G 200 (fun _ => 0))]) C h zp_X4_15 0 rfl rfl rfl (Nat.le_of_ble_eq_true rfl) dX4_init_15 rfl (fun H locs h => ?_)
  refine lv_aload_n hx hb dX4_init_18 rfl (lv_at hl 0 rfl) ?_
  refine lv_iconst (v := (0 : Int32)) hx hb dX4_init_19 (by decide) ?_
  refine r_put (ws' := [(h0, ob 4 [.ref q0, .int (0 : Int32), .int (0 : Int32), .int 0, .int 0, .int 0, .int 0, .int 0, .int 0, .int 0, .int 0]), (q0, ia G 200 (fun _ => 0))]) C h zp_X4_19 0 rfl rfl rfl (Nat.le_of_ble_eq_true rfl) dX4_init_20 rfl (fun H locs h => ?_)
  refine lv_aload_n hx hb dX4_init_23 rfl (lv_at hl 0 rfl) ?_
  refine lv_iconst (v := (0 : Int32)) hx hb dX4_init_24 (by decide) ?_
  refine r_put (ws' := [(h0, ob 4 [.ref q0, .int (0 : Int32), .int (0 : Int32), .int (0 : Int32), .int 0, .int 0, .int 0, .int 0, .int 0, .int 0, .int 0]), (q0, ia G 200 (fun _ => 0))]) C h zp_X4_22 0 rfl rfl rfl (Nat.le_of_ble_eq_true rfl) dX4_init_25 rfl (fun H locs h => ?_)
  refine lv_aload_n hx hb dX4_init_28 rfl (lv_at hl 0 rfl) ?_
  refine lv_iconst (v := (0 : Int32)) hx hb dX4_init_29 (by decide) ?_
  refine r_put (ws' := [(h0, ob 4 [.ref q0, .int (0 : Int32), .int (0 : Int32), .int (0 : Int32), .int (0 : Int32), .int 0, .int 0, .int 0, .int 0, .int 0, .int 0]), (q0, ia G 200 (fun _ => 0))]) C h zp_X4_25 0 rfl rfl rfl (Nat.le_of_ble_eq_true rfl) dX4_init_30 rfl (fun H locs h => ?_)
  refine lv_aload_n hx hb dX4_init_33 rfl (lv_at hl 0 rfl) ?_
  refine lv_iconst (v := (0 : Int32)) hx hb dX4_init_34 (by decide) ?_
  refine r_put (ws' := [(h0, ob 4 [.ref q0, .int (0 : Int32), .int (0 : Int32), .int (0 : Int32), .int (0 : Int32), .int (0 : Int32), .int 0, .int 0, .int 0, .int 0, .int 0]), (q0, ia G 200 (fun _ => 0))]) C h zp_X4_28 0 rfl rfl rfl (Nat.le_of_ble_eq_true rfl) dX4_init_35 rfl (fun H locs h => ?_)
  refine lv_aload_n hx hb dX4_init_38 rfl (lv_at hl 0 rfl) ?_
  refine lv_iconst (v := (0 : Int32)) hx hb dX4_init_39 (by decide) ?_
  refine r_put (ws' := [(h0, ob 4 [.ref q0, .int (0 : Int32), .int (0 : Int32), .int (0 : Int32), .int (0 : Int32), .int (0 : Int32), .int (0 : Int32), .int 0, .int 0, .int 0, .int 0]), (q0, ia G 200 (fun _ => 0))]) C h zp_X4_31 0 rfl rfl rfl (Nat.le_of_ble_eq_true rfl) dX4_init_40 rfl (fun H locs h => ?_)
  refine lv_aload_n hx hb dX4_init_43 rfl (lv_at hl 0 rfl) ?_
  refine lv_bipush (v := (19 : Int32)) hx hb dX4_init_44 rfl ?_
  refine r_put (ws' := [(h0, ob 4 [.ref q0, .int (0 : Int32), .int (0 : Int32), .int (0 : Int32), .int (0 : Int32), .int (0 : Int32), .int (0 : Int32), .int (19 : Int32), .int 0, .int 0, .int 0]), (q0, ia G 200 (fun _ => 0))]) C h zp_X4_34 0 rfl rfl rfl (Nat.le_of_ble_eq_true rfl) dX4_init_46 rfl (fun H locs h => ?_)
  refine lv_aload_n hx hb dX4_init_49 rfl (lv_at hl 0 rfl) ?_
  refine lv_iconst (v := (0 : Int32)) hx hb dX4_init_50 (by decide) ?_
  refine r_put (ws' := [(h0, ob 4 [.ref q0, .int (0 : Int32), .int (0 : Int32), .int (0 : Int32), .int (0 : Int32), .int (0 : Int32), .int (0 : Int32), .int (19 : Int32), .int (0 : Int32), .int 0, .int 0]), (q0, ia G 200 (fun _ => 0))]) C h zp_X4_37 0 rfl rfl rfl (Nat.le_of_ble_eq_true rfl) dX4_init_51 rfl (fun H locs h => ?_)
  refine lv_aload_n hx hb dX4_init_54 rfl (lv_at hl 0 rfl) ?_
  refine lv_iconst (v := (0 : Int32)) hx hb dX4_init_55 (by decide) ?_
  refine r_put (ws' := [(h0, ob 4 [.ref q0, .int (0 : Int32), .int (0 : Int32), .int (0 : Int32), .int (0 : Int32), .int (0 : Int32), .int (0 : Int32), .int (19 : Int32), .int (0 : Int32), .int (0 : Int32), .int 0]), (q0, ia G 200 (fun _ => 0))]) C h zp_X4_40 0 rfl rfl rfl (Nat.le_of_ble_eq_true rfl) dX4_init_56 rfl (fun H locs h => ?_)
  refine lv_aload_n hx hb dX4_init_59 rfl (lv_at hl 0 rfl) ?_
  refine lv_iconst (v := (0 : Int32)) hx hb dX4_init_60 (by decide) ?_
  refine r_put (ws' := [(h0, ob 4 [.ref q0, .int (0 : Int32), .int (0 : Int32), .int (0 : Int32), .int (0 : Int32), .int (0 : Int32), .int (0 : Int32), .int (19 : Int32), .int (0 : Int32), .int (0 : Int32), .int (0 : Int32)]), (q0, ia G 200 (fun _ => 0))]) C h zp_X4_43 0 rfl rfl rfl (Nat.le_of_ble_eq_true rfl) dX4_init_61 rfl (fun H locs h => ?_)
  exact r_nret C h hr hlk (fun k => ([q0] : List Nat).getD k 0) rfl dX4_init_64
set_option maxHeartbeats 4000000 in
set_option maxRecDepth 100000 in
theorem c_X7_init {l : Launch} {G : Gt} {h0 : Nat} : mFn l G yX7_init cX7_init 1 1 1 30 [.ref h0] [(h0, ob 7 [.null, .int 0, .int 0, .int 0, .int 0, .int 0])] (fun a => [(h0, ob 7 [.ref (a 0), .int (0 : Int32), .int (0 : Int32), .int (0 : Int32), .int (0 : Int32), .int (0 : Int32)]), (a 0, ia G 30 (fun _ => 0))]) := by
  refine mFn.of (by decide +kernel) rfl (Nat.le_of_ble_eq_true rfl) ?_
  intro p e s m below meth c A C hr hlk hin hO h ls hl
  obtain ⟨hx, hb, hml, hown, hts⟩ := id C
  replace hl : lv_has ls 1 [(0, .ref h0)] := hl
  refine lv_aload_n hx hb dX7_init_0 rfl (lv_at hl 0 rfl) ?_
  refine r_obj C (gw_in 402 (by decide +kernel) (by decide +kernel)) (gw_in 124 (by decide +kernel) (by decide +kernel)) (gw_in 125 (by decide +kernel) (by decide +kernel)) hl.1 ⟨Nat.le_of_ble_eq_true rfl, Nat.le_of_ble_eq_true rfl⟩ (Nat.le_of_ble_eq_true rfl) dX7_init_1 ?_
  refine lv_aload_n hx hb dX7_init_4 rfl (lv_at hl 0 rfl) ?_
  refine lv_bipush (v := (30 : Int32)) hx hb dX7_init_5 rfl ?_
  refine r_newa (N' := 30) C h (gw_in 162 (by decide +kernel) (by decide +kernel)) (by decide) (by decide) (Nat.le_of_ble_eq_true rfl) (Nat.le_of_ble_eq_true rfl) (Nat.le_of_ble_eq_true rfl) dX7_init_7 (fun q0 H h => ?_)
  refine W.widen (k := 1) (n := 30) (Nat.le_of_ble_eq_true rfl) (Nat.le_of_ble_eq_true rfl) ?_
  replace h : Wd G A s [(h0, ob 7 [.null, .int 0, .int 0, .int 0, .int 0, .int 0]), (q0, ia G 30 (fun _ => 0))] H _ := h
  refine r_putF (ws' := [(h0, ob 7 [.ref q0, .int 0, .int 0, .int 0, .int 0, .int 0]), (q0, ia G 30 (fun _ => 0))]) C h hin zf_X7_11 0 rfl rfl rfl (Nat.le_of_ble_eq_true rfl) dX7_init_9 rfl (fun H locs h => ?_)
  refine lv_aload_n hx hb dX7_init_12 rfl (lv_at hl 0 rfl) ?_
  refine lv_iconst (v := (0 : Int32)) hx hb dX7_init_13 (by decide) ?_
  refine r_put (ws' := [(h0, ob 7 [.ref q0, .int (0 : Int32), .int 0, .int 0, .int 0, .int 0]), (q0, ia G 30 (fun _ => 0))]) C h zp_X7_15 0 rfl rfl rfl (Nat.le_of_ble_eq_true rfl) dX7_init_14 rfl (fun H locs h => ?_)
  refine lv_aload_n hx hb dX7_init_17 rfl (lv_at hl 0 rfl) ?_
  refine lv_iconst (v := (0 : Int32)) hx hb dX7_init_18 (by decide) ?_
  refine r_put (ws' := [(h0, ob 7 [.ref q0, .int (0 : Int32), .int (0 : Int32), .int 0, .int 0, .int 0]), (q0, ia G 30 (fun _ => 0))]) C h zp_X7_19 0 rfl rfl rfl (Nat.le_of_ble_eq_true rfl) dX7_init_19 rfl (fun H locs h => ?_)
  refine lv_aload_n hx hb dX7_init_22 rfl (lv_at hl 0 rfl) ?_
  refine lv_iconst (v := (0 : Int32)) hx hb dX7_init_23 (by decide) ?_
  refine r_put (ws' := [(h0, ob 7 [.ref q0, .int (0 : Int32), .int (0 : Int32), .int (0 : Int32), .int 0, .int 0]), (q0, ia G 30 (fun _ => 0))]) C h zp_X7_23 0 rfl rfl rfl (Nat.le_of_ble_eq_true rfl) dX7_init_24 rfl (fun H locs h => ?_)
  refine lv_aload_n hx hb dX7_init_27 rfl (lv_at hl 0 rfl) ?_
  refine lv_iconst (v := (0 : Int32)) hx hb dX7_init_28 (by decide) ?_
  refine r_put (ws' := [(h0, ob 7 [.ref q0, .int (0 : Int32), .int (0 : Int32), .int (0 : Int32), .int (0 : Int32), .int 0]), (q0, ia G 30 (fun _ => 0))]) C h zp_X7_26 0 rfl rfl rfl (Nat.le_of_ble_eq_true rfl) dX7_init_29 rfl (fun H locs h => ?_)
  refine lv_aload_n hx hb dX7_init_32 rfl (lv_at hl 0 rfl) ?_
  refine lv_iconst (v := (0 : Int32)) hx hb dX7_init_33 (by decide) ?_
  refine r_put (ws' := [(h0, ob 7 [.ref q0, .int (0 : Int32), .int (0 : Int32), .int (0 : Int32), .int (0 : Int32), .int (0 : Int32)]), (q0, ia G 30 (fun _ => 0))]) C h zp_X7_29 0 rfl rfl rfl (Nat.le_of_ble_eq_true rfl) dX7_init_34 rfl (fun H locs h => ?_)
  exact r_nret C h hr hlk (fun k => ([q0] : List Nat).getD k 0) rfl dX7_init_37
set_option maxHeartbeats 4000000 in
set_option maxRecDepth 100000 in
theorem c_X0_init {l : Launch} {G : Gt} {h0 : Nat} : mFn l G yX0_init cX0_init 1 1 7 184 [.ref h0] [(h0, ob 0 [.null, .null, .null, .null, .null, .null, .null])] (fun a => [(h0, ob 0 [.ref (a 0), .ref (a 1), .ref (a 2), .ref (a 3), .ref (a 4), .ref (a 5), .ref (a 6)]), (a 0, ia G 4 flc_X0_init), (a 1, ia G 4 (fun _ => 0)), (a 2, ia G 160 (fun _ => 0)), (a 3, ia G 4 (fun _ => 0)), (a 4, ia G 4 (fun _ => 0)), (a 5, ia G 4 (fun _ => 0)), (a 6, ia G 4 (fun _ => 0))]) := by
  refine mFn.of (by decide +kernel) rfl (Nat.le_of_ble_eq_true rfl) ?_
  intro p e s m below meth c A C hr hlk hin hO h ls hl
  obtain ⟨hx, hb, hml, hown, hts⟩ := id C
  replace hl : lv_has ls 1 [(0, .ref h0)] := hl
  refine lv_aload_n hx hb dX0_init_0 rfl (lv_at hl 0 rfl) ?_
  refine r_obj C (gw_in 373 (by decide +kernel) (by decide +kernel)) (gw_in 124 (by decide +kernel) (by decide +kernel)) (gw_in 125 (by decide +kernel) (by decide +kernel)) hl.1 ⟨Nat.le_of_ble_eq_true rfl, Nat.le_of_ble_eq_true rfl⟩ (Nat.le_of_ble_eq_true rfl) dX0_init_1 ?_
  refine lv_aload_n hx hb dX0_init_4 rfl (lv_at hl 0 rfl) ?_
  refine lv_iconst (v := (4 : Int32)) hx hb dX0_init_5 (by decide) ?_
  refine r_newa (N' := 4) C h (gw_in 162 (by decide +kernel) (by decide +kernel)) (by decide) (by decide) (Nat.le_of_ble_eq_true rfl) (Nat.le_of_ble_eq_true rfl) (Nat.le_of_ble_eq_true rfl) dX0_init_6 (fun q0 H h => ?_)
  refine W.widen (k := 1) (n := 4) (Nat.le_of_ble_eq_true rfl) (Nat.le_of_ble_eq_true rfl) ?_
  replace h : Wd G A s [(h0, ob 0 [.null, .null, .null, .null, .null, .null, .null]), (q0, ia G 4 (fun _ => 0))] H _ := h
  refine r_putF (ws' := [(h0, ob 0 [.ref q0, .null, .null, .null, .null, .null, .null]), (q0, ia G 4 (fun _ => 0))]) C h hin zf_X0_9 0 rfl rfl rfl (Nat.le_of_ble_eq_true rfl) dX0_init_8 rfl (fun H locs h => ?_)
  refine lv_aload_n hx hb dX0_init_11 rfl (lv_at hl 0 rfl) ?_
  refine lv_iconst (v := (4 : Int32)) hx hb dX0_init_12 (by decide) ?_
  refine r_newa (N' := 4) C h (gw_in 162 (by decide +kernel) (by decide +kernel)) (by decide) (by decide) (Nat.le_of_ble_eq_true rfl) (Nat.le_of_ble_eq_true rfl) (Nat.le_of_ble_eq_true rfl) dX0_init_13 (fun q1 H h => ?_)
  refine W.widen (k := 2) (n := 8) (Nat.le_of_ble_eq_true rfl) (Nat.le_of_ble_eq_true rfl) ?_
  replace h : Wd G A s [(h0, ob 0 [.ref q0, .null, .null, .null, .null, .null, .null]), (q0, ia G 4 (fun _ => 0)), (q1, ia G 4 (fun _ => 0))] H _ := h
  refine r_putF (ws' := [(h0, ob 0 [.ref q0, .ref q1, .null, .null, .null, .null, .null]), (q0, ia G 4 (fun _ => 0)), (q1, ia G 4 (fun _ => 0))]) C h hin zf_X0_15 0 rfl rfl rfl (Nat.le_of_ble_eq_true rfl) dX0_init_15 rfl (fun H locs h => ?_)
  refine lv_aload_n hx hb dX0_init_18 rfl (lv_at hl 0 rfl) ?_
  refine lv_sipush (v := (160 : Int32)) hx hb dX0_init_19 rfl ?_
  refine r_newa (N' := 160) C h (gw_in 162 (by decide +kernel) (by decide +kernel)) (by decide) (by decide) (Nat.le_of_ble_eq_true rfl) (Nat.le_of_ble_eq_true rfl) (Nat.le_of_ble_eq_true rfl) dX0_init_22 (fun q2 H h => ?_)
  refine W.widen (k := 3) (n := 168) (Nat.le_of_ble_eq_true rfl) (Nat.le_of_ble_eq_true rfl) ?_
  replace h : Wd G A s [(h0, ob 0 [.ref q0, .ref q1, .null, .null, .null, .null, .null]), (q0, ia G 4 (fun _ => 0)), (q1, ia G 4 (fun _ => 0)), (q2, ia G 160 (fun _ => 0))] H _ := h
  refine r_putF (ws' := [(h0, ob 0 [.ref q0, .ref q1, .ref q2, .null, .null, .null, .null]), (q0, ia G 4 (fun _ => 0)), (q1, ia G 4 (fun _ => 0)), (q2, ia G 160 (fun _ => 0))]) C h hin zf_X0_18 0 rfl rfl rfl (Nat.le_of_ble_eq_true rfl) dX0_init_24 rfl (fun H locs h => ?_)
  refine lv_aload_n hx hb dX0_init_27 rfl (lv_at hl 0 rfl) ?_
  refine lv_iconst (v := (4 : Int32)) hx hb dX0_init_28 (by decide) ?_
  refine r_newa (N' := 4) C h (gw_in 162 (by decide +kernel) (by decide +kernel)) (by decide) (by decide) (Nat.le_of_ble_eq_true rfl) (Nat.le_of_ble_eq_true rfl) (Nat.le_of_ble_eq_true rfl) dX0_init_29 (fun q3 H h => ?_)
  refine W.widen (k := 4) (n := 172) (Nat.le_of_ble_eq_true rfl) (Nat.le_of_ble_eq_true rfl) ?_
  replace h : Wd G A s [(h0, ob 0 [.ref q0, .ref q1, .ref q2, .null, .null, .null, .null]), (q0, ia G 4 (fun _ => 0)), (q1, ia G 4 (fun _ => 0)), (q2, ia G 160 (fun _ => 0)), (q3, ia G 4 (fun _ => 0))] H _ := h
  refine r_putF (ws' := [(h0, ob 0 [.ref q0, .ref q1, .ref q2, .ref q3, .null, .null, .null]), (q0, ia G 4 (fun _ => 0)), (q1, ia G 4 (fun _ => 0)), (q2, ia G 160 (fun _ => 0)), (q3, ia G 4 (fun _ => 0))]) C h hin zf_X0_21 0 rfl rfl rfl (Nat.le_of_ble_eq_true rfl) dX0_init_31 rfl (fun H locs h => ?_)
  refine lv_aload_n hx hb dX0_init_34 rfl (lv_at hl 0 rfl) ?_
  refine lv_iconst (v := (4 : Int32)) hx hb dX0_init_35 (by decide) ?_
  refine r_newa (N' := 4) C h (gw_in 162 (by decide +kernel) (by decide +kernel)) (by decide) (by decide) (Nat.le_of_ble_eq_true rfl) (Nat.le_of_ble_eq_true rfl) (Nat.le_of_ble_eq_true rfl) dX0_init_36 (fun q4 H h => ?_)
  refine W.widen (k := 5) (n := 176) (Nat.le_of_ble_eq_true rfl) (Nat.le_of_ble_eq_true rfl) ?_
  replace h : Wd G A s [(h0, ob 0 [.ref q0, .ref q1, .ref q2, .ref q3, .null, .null, .null]), (q0, ia G 4 (fun _ => 0)), (q1, ia G 4 (fun _ => 0)), (q2, ia G 160 (fun _ => 0)), (q3, ia G 4 (fun _ => 0)), (q4, ia G 4 (fun _ => 0))] H _ := h
  refine r_putF (ws' := [(h0, ob 0 [.ref q0, .ref q1, .ref q2, .ref q3, .ref q4, .null, .null]), (q0, ia G 4 (fun _ => 0)), (q1, ia G 4 (fun _ => 0)), (q2, ia G 160 (fun _ => 0)), (q3, ia G 4 (fun _ => 0)), (q4, ia G 4 (fun _ => 0))]) C h hin zf_X0_24 0 rfl rfl rfl (Nat.le_of_ble_eq_true rfl) dX0_init_38 rfl (fun H locs h => ?_)
  refine lv_aload_n hx hb dX0_init_41 rfl (lv_at hl 0 rfl) ?_
  refine lv_iconst (v := (4 : Int32)) hx hb dX0_init_42 (by decide) ?_
  refine r_newa (N' := 4) C h (gw_in 162 (by decide +kernel) (by decide +kernel)) (by decide) (by decide) (Nat.le_of_ble_eq_true rfl) (Nat.le_of_ble_eq_true rfl) (Nat.le_of_ble_eq_true rfl) dX0_init_43 (fun q5 H h => ?_)
  refine W.widen (k := 6) (n := 180) (Nat.le_of_ble_eq_true rfl) (Nat.le_of_ble_eq_true rfl) ?_
  replace h : Wd G A s [(h0, ob 0 [.ref q0, .ref q1, .ref q2, .ref q3, .ref q4, .null, .null]), (q0, ia G 4 (fun _ => 0)), (q1, ia G 4 (fun _ => 0)), (q2, ia G 160 (fun _ => 0)), (q3, ia G 4 (fun _ => 0)), (q4, ia G 4 (fun _ => 0)), (q5, ia G 4 (fun _ => 0))] H _ := h
  refine r_putF (ws' := [(h0, ob 0 [.ref q0, .ref q1, .ref q2, .ref q3, .ref q4, .ref q5, .null]), (q0, ia G 4 (fun _ => 0)), (q1, ia G 4 (fun _ => 0)), (q2, ia G 160 (fun _ => 0)), (q3, ia G 4 (fun _ => 0)), (q4, ia G 4 (fun _ => 0)), (q5, ia G 4 (fun _ => 0))]) C h hin zf_X0_27 0 rfl rfl rfl (Nat.le_of_ble_eq_true rfl) dX0_init_45 rfl (fun H locs h => ?_)
  refine lv_aload_n hx hb dX0_init_48 rfl (lv_at hl 0 rfl) ?_
  refine lv_iconst (v := (4 : Int32)) hx hb dX0_init_49 (by decide) ?_
  refine r_newa (N' := 4) C h (gw_in 162 (by decide +kernel) (by decide +kernel)) (by decide) (by decide) (Nat.le_of_ble_eq_true rfl) (Nat.le_of_ble_eq_true rfl) (Nat.le_of_ble_eq_true rfl) dX0_init_50 (fun q6 H h => ?_)
  refine W.widen (k := 7) (n := 184) (Nat.le_of_ble_eq_true rfl) (Nat.le_of_ble_eq_true rfl) ?_
  replace h : Wd G A s [(h0, ob 0 [.ref q0, .ref q1, .ref q2, .ref q3, .ref q4, .ref q5, .null]), (q0, ia G 4 (fun _ => 0)), (q1, ia G 4 (fun _ => 0)), (q2, ia G 160 (fun _ => 0)), (q3, ia G 4 (fun _ => 0)), (q4, ia G 4 (fun _ => 0)), (q5, ia G 4 (fun _ => 0)), (q6, ia G 4 (fun _ => 0))] H _ := h
  refine r_putF (ws' := [(h0, ob 0 [.ref q0, .ref q1, .ref q2, .ref q3, .ref q4, .ref q5, .ref q6]), (q0, ia G 4 (fun _ => 0)), (q1, ia G 4 (fun _ => 0)), (q2, ia G 160 (fun _ => 0)), (q3, ia G 4 (fun _ => 0)), (q4, ia G 4 (fun _ => 0)), (q5, ia G 4 (fun _ => 0)), (q6, ia G 4 (fun _ => 0))]) C h hin zf_X0_30 0 rfl rfl rfl (Nat.le_of_ble_eq_true rfl) dX0_init_52 rfl (fun H locs h => ?_)
  refine lv_aload_n hx hb dX0_init_55 rfl (lv_at hl 0 rfl) ?_
  refine r_get C h zg_X0_9 0 rfl rfl dX0_init_56 ?_
  refine lv_iconst (v := (-1 : Int32)) hx hb dX0_init_59 (by decide) ?_
  refine r_cvS (ws' := [(h0, ob 0 [.ref q0, .ref q1, .ref q2, .ref q3, .ref q4, .ref q5, .ref q6]), (q0, ia G 4 flc_X0_init), (q1, ia G 4 (fun _ => 0)), (q2, ia G 160 (fun _ => 0)), (q3, ia G 4 (fun _ => 0)), (q4, ia G 4 (fun _ => 0)), (q5, ia G 4 (fun _ => 0)), (q6, ia G 4 (fun _ => 0))]) C h (c_J7_fill_53178 flc_X0_init_ok.1) zs_X0_33 rfl [1] rfl rfl [1] [(q0, ia G 4 flc_X0_init)] rfl rfl rfl rfl hl.1 rfl (Nat.le_of_ble_eq_true rfl) ⟨Nat.le_of_ble_eq_true rfl, Nat.le_of_ble_eq_true rfl, Nat.le_of_ble_eq_true rfl, Nat.le_of_ble_eq_true rfl⟩ dX0_init_60 (fun H locs h => ?_)
  exact r_nret C h hr hlk (fun k => ([q0, q1, q2, q3, q4, q5, q6] : List Nat).getD k 0) rfl dX0_init_63
