set_option maxRecDepth 100000 in
set_option maxHeartbeats 4000000 in
theorem c_X9_narrowed {l : Launch} {G : Gt} {p0 : Int32} {p1 : Int32} {r : Int32} (hf : f_X9_narrowed p0 p1 = some r) : mFi l G yX9_narrowed cX9_narrowed 2 .int 0 [.int p0, .int p1] ([] : va_W) r ([] : va_W) := by
  refine mFi.of (by decide +kernel) (Nat.le_of_ble_eq_true rfl) ?_
  intro p e s m below meth c A C hr hlk h ls hl
  obtain ⟨hx, hb, hml, hown, hts⟩ := id C
  replace hl : lv_has ls 2 [(0, .int p0), (1, .int p1)] := hl
  unfold f_X9_narrowed at hf
  refine lv_iload_n hx hb dX9_narrowed_0 rfl (lv_at hl 1 rfl) ?_
  refine lv_if_ne (tgt := 9) hx hb dX9_narrowed_1 rfl (fun c1 => ?_) (fun c1 => ?_)
  · replace hf := ifn c1 hf
    refine lv_iload_n hx hb dX9_narrowed_9 rfl (lv_at hl 1 rfl) ?_
    refine lv_iconst (v := (1 : Int32)) hx hb dX9_narrowed_10 rfl ?_
    refine lv_icmp_ne (tgt := 19) hx hb dX9_narrowed_11 rfl (fun c2 => ?_) (fun c2 => ?_)
    · replace hf := ifn c2 hf
      refine lv_iload_n hx hb dX9_narrowed_19 rfl (lv_at hl 1 rfl) ?_
      refine lv_iconst (v := (4 : Int32)) hx hb dX9_narrowed_20 rfl ?_
      refine lv_icmp_ne (tgt := 36) hx hb dX9_narrowed_21 rfl (fun c3 => ?_) (fun c3 => ?_)
      · replace hf := ifn c3 hf
        refine lv_iload_n hx hb dX9_narrowed_36 rfl (lv_at hl 0 rfl) ?_
        cases hf
        exact r_iret C h hr hlk rfl dX9_narrowed_37
      · replace hf := ifp c3 hf
        refine lv_iload_n hx hb dX9_narrowed_24 rfl (lv_at hl 0 rfl) ?_
        refine lv_if_eq (tgt := 32) hx hb dX9_narrowed_25 rfl (fun c4 => ?_) (fun c4 => ?_)
        · replace hf := ifp c4 hf
          refine lv_iconst (v := (0 : Int32)) hx hb dX9_narrowed_32 rfl ?_
          refine lv_goto (tgt := 37) hx hb dX9_narrowed_33 rfl ?_
          cases hf
          exact r_iret C h hr hlk rfl dX9_narrowed_37
        · replace hf := ifn c4 hf
          refine lv_iconst (v := (1 : Int32)) hx hb dX9_narrowed_28 rfl ?_
          refine lv_goto (tgt := 37) hx hb dX9_narrowed_29 rfl ?_
          cases hf
          exact r_iret C h hr hlk rfl dX9_narrowed_37
    · replace hf := ifp c2 hf
      refine lv_iload_n hx hb dX9_narrowed_14 rfl (lv_at hl 0 rfl) ?_
      refine lv_i2s hx hb dX9_narrowed_15 rfl ?_
      refine lv_goto (tgt := 37) hx hb dX9_narrowed_16 rfl ?_
      cases hf
      exact r_iret C h hr hlk rfl dX9_narrowed_37
  · replace hf := ifp c1 hf
    refine lv_iload_n hx hb dX9_narrowed_4 rfl (lv_at hl 0 rfl) ?_
    refine lv_i2b hx hb dX9_narrowed_5 rfl ?_
    refine lv_goto (tgt := 37) hx hb dX9_narrowed_6 rfl ?_
    cases hf
    exact r_iret C h hr hlk rfl dX9_narrowed_37
