set_option maxRecDepth 100000 in
set_option maxHeartbeats 4000000 in
theorem c_X9_apart {l : Launch} {G : Gt} {p0 : Int32} {p1 : Int32} {r : Int32} (hf : f_X9_apart p0 p1 = some r) : mFi l G yX9_apart cX9_apart 2 .int 0 [.int p0, .int p1] ([] : va_W) r ([] : va_W) := by
  refine mFi.of (by decide +kernel) (Nat.le_of_ble_eq_true rfl) ?_
  intro p e s m below meth c A C hr hlk h ls hl
  obtain ⟨hx, hb, hml, hown, hts⟩ := id C
  replace hl : lv_has ls 2 [(0, .int p0), (1, .int p1)] := hl
  unfold f_X9_apart at hf
  refine lv_iload_n hx hb dX9_apart_0 rfl (lv_at hl 0 rfl) ?_
  refine lv_iload_n hx hb dX9_apart_1 rfl (lv_at hl 1 rfl) ?_
  refine lv_icmp_ge (tgt := 11) hx hb dX9_apart_2 rfl (fun c1 => ?_) (fun c1 => ?_)
  · replace hf := ifp c1 hf
    refine lv_iload_n hx hb dX9_apart_11 rfl (lv_at hl 0 rfl) ?_
    refine lv_iload_n hx hb dX9_apart_12 rfl (lv_at hl 1 rfl) ?_
    refine lv_isub hx hb dX9_apart_13 ?_
    cases hf
    exact r_iret C h hr hlk rfl dX9_apart_14
  · replace hf := ifn c1 hf
    refine lv_iload_n hx hb dX9_apart_5 rfl (lv_at hl 1 rfl) ?_
    refine lv_iload_n hx hb dX9_apart_6 rfl (lv_at hl 0 rfl) ?_
    refine lv_isub hx hb dX9_apart_7 ?_
    refine lv_goto (tgt := 14) hx hb dX9_apart_8 rfl ?_
    cases hf
    exact r_iret C h hr hlk rfl dX9_apart_14
