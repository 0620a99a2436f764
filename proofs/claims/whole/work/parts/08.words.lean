/-! ===== the text of words: its length, its signs (the JDK's own members) ===== -/
def MLr (own : String) (index : Nat) (y : MethodName) (bytes : ByteArray) (maxL : Nat) (ret : Option FieldType) (n : Nat) : Prop := Cond.methodLink own index y ∈ gw_tbl ∧ Cond.instanceMethod y ∈ gw_tbl ∧ Cond.selects y.cls y y ∈ gw_tbl ∧ Cond.initialized y.cls ∈ gw_tbl ∧ Cond.code y bytes maxL ret ∈ gw_tbl ∧ okY y n maxL
section OK6
variable {p : Program} {l : Launch} {e : Env} {R : Room} {s : State} {m : MethodId} {args : Array Value} {below : List Frame} {meth : Method} {c : Code} {H : Heap} {locs : List Loc} {cells slots hh : Nat} {Q : State → Prop}
variable {cc : ByteArray} {pc nL : Nat} {ls : Array Slot} {rest : List Value} {A : Nat → Prop} {G : Gt} {ws : va_W} {own : String}
def WAt (G : Gt) (aW : Nat) : Prop := aW = G.2.2.2.2.1
theorem r_ldcW (C : CallFix p m c cc nL s args gw_tbl RX4) (h : Wd G A s ws H locs) (hdg : decode cc pc = .ok (.ldc 73, 2))
    (kk : ∀ aW : Nat, WAt G aW → W p l e R s m args below meth c H locs cells slots Q (F0 m (pc + 2) ls (.ref aW :: rest))) : W p l e R s m args below meth c H locs cells slots Q (F0 m pc ls rest) := by
  obtain ⟨h5, h6, h7, -⟩ := h.2.2.2.2.2.2.2
  exact va_ldcS C.1 C.2.1 C.2.2.2.1 h5 hdg (kk _ rfl)
theorem MLr.cw {y : MethodName} {bytes : ByteArray} {maxL index n hc : Nat} {ret : Option FieldType} (C : CallFix p m c cc nL s args gw_tbl own) (lk : MLr own index y bytes maxL ret n) (hR : roomOk R cells slots hc) : CallW R s args own y.cls index y bytes maxL ret (.code y bytes maxL ret :: gw_tbl) (rmh hc) 0 0 n := by
  obtain ⟨h1, h2, h3, h4, h5, h6, h7, h8, h9⟩ := lk
  refine cwV n C.2.2.2.2 (gw_GoodIn ?_) rfl rfl rfl ⟨rfl, h6, h7, h8⟩ ⟨hR.1, ?_⟩
  · intro w hw
    simp only [wsV, List.cons_append, List.nil_append, List.mem_cons] at hw
    rcases hw with rfl | rfl | rfl | rfl | rfl | hw
    · exact h1
    · exact h2
    · exact h3
    · exact h4
    · exact h5
    · exact hw
  · have := hR.2.1
    show 8 + (maxL + 11) + 100 * hc ≤ R.locals
    omega
theorem r_ciR0 {y : MethodName} {bytes : ByteArray} {maxL index n hc b : Nat} {ret : FieldType} {As st : List Value} {r : Int32} {wc : va_W} (C : CallFix p m c cc nL s args gw_tbl own) (h : Wd G A s ws H locs) (hF : mFi l G y bytes maxL ret hc (.ref b :: As) wc r wc) (lk : MLr own index y bytes maxL (some ret) n) (hn : As.length = n) (hrecv : ∃ cellB : Cell, H[b]? = some cellB ∧ cellB.vm.isStatics = false ∧ s.vm.findClass y.cls = some cellB.cls) (isC : List Nat) (hC : isC.map (fun i => ws[i]?) = wc.map some) (hnd : va_nd isC = true) (hl : ls.size = nL) (hst : st = As.reverse ++ .ref b :: rest) (hcat : (rest.map fun v => v.category).sum ≤ 8) (hR : roomOk R cells slots hc) (hdg : decode cc pc = .ok (.invokevirtual index, 3))
    (kk : ∀ (H : Heap) (locs : List Loc), Wd G A s ws H locs → W p l e R s m args below meth c H locs cells slots Q (F0 m (pc + 3) ls (.int r :: rest))) : W p l e R s m args below meth c H locs cells slots Q (F0 m pc ls st) := by
  obtain ⟨hFc, hpre⟩ := wd_pre h hC hnd
  subst hst
  refine va_calli (va_runV (As := As) (rest := rest) C (hF H.size) (lk.cw C hR) ⟨Pre.blind, hrecv, fun U hU hW => ⟨rfl, hpre U hU hW⟩⟩ rfl hn hl rfl (lv_room hcat) hdg ⟨hR.2.2.1, hR.2.2.2⟩) h.2.2.2.1 (fun q _ h => hFc q h) hFc (fun r' u t H1 locs1 ht hvm hw' hB hz1 hk1 hS1 => ?_)
  subst hw'
  obtain ⟨hP1, -, -⟩ := hB
  rw [ht] at hP1
  exact kk H1 locs1 (wd_call0 h hC hk1 hP1 hS1)
theorem str_of (h : Wd G A s ws H locs) : va_OF "java/lang/String" "coder" "B" (.int 0) G.2.2.2.2.1 A s s.heap ∧ va_OF "java/lang/String" "value" "[B" (.ref G.2.2.2.2.2) G.2.2.2.2.1 A s s.heap ∧ va_T .byte G.2.2.2.2.2 100 (fun j => .int ((wd_byt.getD 0 []).getD j 0)) A s s.heap ∧ (∃ cell : Cell, H[G.2.2.2.2.1]? = some cell ∧ cell.vm.isStatics = false ∧ s.vm.findClass "java/lang/String" = some cell.cls) := by
  obtain ⟨h5, h6, h7, -⟩ := h.2.2.2.2.2.2.2
  obtain ⟨q1, q2, q3, q4⟩ := h6.1 0 (by decide)
  exact ⟨q2, q3, q4, vk_recv (i := 0) h6 (by decide) h.2.2.2.1⟩
theorem kr_len : MLr RX4 75 yJ0_length_8abf5 cJ0_length_8abf5 1 (some .int) 0 := by unfold MLr okY; exact ⟨gw_in 621 (by decide +kernel) (by decide +kernel), gw_in 622 (by decide +kernel) (by decide +kernel), gw_in 623 (by decide +kernel) (by decide +kernel), gw_in 112 (by decide +kernel) (by decide +kernel), gw_in 624 (by decide +kernel) (by decide +kernel), by decide +kernel, by decide +kernel, by decide +kernel, by decide⟩
theorem kr_chr : MLr RX4 81 yJ0_charAt_5068e cJ0_charAt_5068e 2 (some .char) 1 := by unfold MLr okY; exact ⟨gw_in 631 (by decide +kernel) (by decide +kernel), gw_in 632 (by decide +kernel) (by decide +kernel), gw_in 633 (by decide +kernel) (by decide +kernel), gw_in 112 (by decide +kernel) (by decide +kernel), gw_in 634 (by decide +kernel) (by decide +kernel), by decide +kernel, by decide +kernel, by decide +kernel, by decide⟩
theorem kr_cod : MLr RJ0 335 yJ0_coder_7d493 cJ0_coder_7d493 1 (some .byte) 0 := by unfold MLr okY; exact ⟨gw_in 625 (by decide +kernel) (by decide +kernel), gw_in 626 (by decide +kernel) (by decide +kernel), gw_in 627 (by decide +kernel) (by decide +kernel), gw_in 112 (by decide +kernel) (by decide +kernel), gw_in 628 (by decide +kernel) (by decide +kernel), by decide +kernel, by decide +kernel, by decide +kernel, by decide⟩
theorem kr_lat : MLr RJ0 492 yJ0_isLatin1_aae02 cJ0_isLatin1_aae02 1 (some .boolean) 0 := by unfold MLr okY; exact ⟨gw_in 635 (by decide +kernel) (by decide +kernel), gw_in 636 (by decide +kernel) (by decide +kernel), gw_in 637 (by decide +kernel) (by decide +kernel), gw_in 112 (by decide +kernel) (by decide +kernel), gw_in 638 (by decide +kernel) (by decide +kernel), by decide +kernel, by decide +kernel, by decide +kernel, by decide⟩
theorem ks_lch : MLs RJ0 495 yJ1_charAt_3b067 cJ1_charAt_3b067 2 (some .char) 2 := by unfold MLs okY; exact ⟨gw_in 639 (by decide +kernel) (by decide +kernel), gw_in 640 (by decide +kernel) (by decide +kernel), gw_in 113 (by decide +kernel) (by decide +kernel), gw_in 641 (by decide +kernel) (by decide +kernel), by decide +kernel, by decide +kernel, by decide +kernel, by decide⟩
theorem ks_chk : MLs RJ1 9 yJ0_checkIndex_df160 cJ0_checkIndex_df160 2 none 2 := by unfold MLs okY; exact ⟨gw_in 642 (by decide +kernel) (by decide +kernel), gw_in 643 (by decide +kernel) (by decide +kernel), gw_in 112 (by decide +kernel) (by decide +kernel), gw_in 644 (by decide +kernel) (by decide +kernel), by decide +kernel, by decide +kernel, by decide +kernel, by decide⟩
theorem ks_pci : MLs RJ0 1059 yJ3_checkIndex_8e157 cJ3_checkIndex_8e157 3 (some .int) 3 := by unfold MLs okY; exact ⟨gw_in 647 (by decide +kernel) (by decide +kernel), gw_in 648 (by decide +kernel) (by decide +kernel), gw_in 114 (by decide +kernel) (by decide +kernel), gw_in 649 (by decide +kernel) (by decide +kernel), by decide +kernel, by decide +kernel, by decide +kernel, by decide⟩
theorem kf_val : Cond.fieldLink RJ0 9 "java/lang/String" "value" "[B" ∈ gw_tbl := gw_in 1812 (by decide +kernel) (by decide +kernel)
theorem kf_cod : Cond.fieldLink RJ0 15 "java/lang/String" "coder" "B" ∈ gw_tbl := gw_in 1813 (by decide +kernel) (by decide +kernel)
theorem kf_cmp : Cond.fieldLink RJ0 38 "java/lang/String" "COMPACT_STRINGS" "Z" ∈ gw_tbl := gw_in 629 (by decide +kernel) (by decide +kernel)
theorem kf_sio : Cond.fieldLink RJ0 1053 "jdk/internal/util/Preconditions" "SIOOBE_FORMATTER" "Ljava/util/function/BiFunction;" ∈ gw_tbl := gw_in 645 (by decide +kernel) (by decide +kernel)
theorem k_pci {l : Launch} {i : Int32} {vf : Value} (hvf : vf = .null ∨ ∃ a : Nat, vf = .ref a) (hi : vp_in i 100) : mFi l G yJ3_checkIndex_8e157 cJ3_checkIndex_8e157 3 .int 0 [.int i, .int 100, vf] [] i [] := by
  obtain ⟨j, hj, rfl⟩ := vp_in_of hi (by decide)
  have n1 : ¬ nI j < 0 := nI_pos (by omega)
  have n2 : nI j < (100 : Int32) := nI_lt (b := 100) hj (by decide)
  have hl2 : (lg_sl [Value.int (nI j), .int 100, vf]).length ≤ 3 := by rcases hvf with rfl | ⟨a, rfl⟩ <;> exact Nat.le_refl 3
  refine mFi.of (by decide +kernel) hl2 ?_
  intro p e s m below meth c A C hr hlk h ls hl
  obtain ⟨hx, hb, hml, hown, hts⟩ := id C
  replace hl : lv_has ls 3 [(0, .int (nI j)), (1, .int 100), (2, vf)] := hl
  refine lv_iload_n hx hb dJ3_checkIndex_8e157_0 rfl (lv_at hl 0 rfl) ?_
  refine lv_if_lt (tgt := 9) hx hb dJ3_checkIndex_8e157_1 rfl (fun c1 => absurd c1 n1) (fun c1 => ?_)
  refine lv_iload_n hx hb dJ3_checkIndex_8e157_4 rfl (lv_at hl 0 rfl) ?_
  refine lv_iload_n hx hb dJ3_checkIndex_8e157_5 rfl (lv_at hl 1 rfl) ?_
  refine lv_icmp_lt (tgt := 16) hx hb dJ3_checkIndex_8e157_6 rfl (fun c1 => ?_) (fun c1 => absurd n2 c1)
  refine lv_iload_n hx hb dJ3_checkIndex_8e157_16 rfl (lv_at hl 0 rfl) ?_
  exact r_iret C h hr hlk rfl dJ3_checkIndex_8e157_17
theorem k_chk {l : Launch} {i : Int32} (hi : vp_in i 100) : mFv l G yJ0_checkIndex_df160 cJ0_checkIndex_df160 2 1 [.int i, .int 100] [] [] := by
  refine mFv.of (by decide +kernel) (Nat.le_of_ble_eq_true rfl) ?_
  intro p e s m below meth c A C hr hlk h ls hl
  obtain ⟨hx, hb, hml, hown, hts⟩ := id C
  obtain ⟨qc, qv, qt, qr⟩ := str_of h
  obtain ⟨h5, h6, h7, vf, h9, hv⟩ := h.2.2.2.2.2.2.2
  replace hl : lv_has ls 2 [(0, .int i), (1, .int 100)] := hl
  refine lv_iload_n hx hb dJ0_checkIndex_df160_0 rfl (lv_at hl 0 rfl) ?_
  refine lv_iload_n hx hb dJ0_checkIndex_df160_1 rfl (lv_at hl 1 rfl) ?_
  refine va_gets hx hb hv h.2.2.2.1 hown (hts _ kf_sio) (fun _ h9 => h9) dJ0_checkIndex_df160_2 ?_
  refine r_ciS0 (r := i) C h (k_pci h9 hi) ks_pci rfl [] rfl rfl hl.1 rfl (Nat.le_of_ble_eq_true rfl) (rok (by decide)) dJ0_checkIndex_df160_5 (fun H locs h => ?_)
  refine lv_pop hx hb dJ0_checkIndex_df160_8 rfl ?_
  exact r_vret C h hr hlk dJ0_checkIndex_df160_9
theorem k_lch {l : Launch} {i : Int32} (hi : vp_in i 100) : mFi l G yJ1_charAt_3b067 cJ1_charAt_3b067 2 .char 2 [.ref G.2.2.2.2.2, .int i] [] (wd_ch i.toNatClampNeg) [] := by
  refine mFi.of (by decide +kernel) (Nat.le_of_ble_eq_true rfl) ?_
  intro p e s m below meth c A C hr hlk h ls hl
  obtain ⟨hx, hb, hml, hown, hts⟩ := id C
  obtain ⟨qc, qv, qt, qr⟩ := str_of h
  obtain ⟨h5, h6, h7, vf, h9, hv⟩ := h.2.2.2.2.2.2.2
  replace hl : lv_has ls 2 [(0, .ref G.2.2.2.2.2), (1, .int i)] := hl
  refine lv_iload_n hx hb dJ1_charAt_3b067_0 rfl (lv_at hl 1 rfl) ?_
  refine lv_aload_n hx hb dJ1_charAt_3b067_1 rfl (lv_at hl 0 rfl) ?_
  refine va_tlen (v := (100 : Int32)) hx hb qt h.2.2.2.1 rfl dJ1_charAt_3b067_2 ?_
  refine r_cvS0 C h (k_chk hi) ks_chk rfl [] rfl rfl hl.1 rfl (Nat.le_of_ble_eq_true rfl) (rok (by decide)) dJ1_charAt_3b067_3 (fun H locs h => ?_)
  refine lv_aload_n hx hb dJ1_charAt_3b067_6 rfl (lv_at hl 0 rfl) ?_
  refine lv_iload_n hx hb dJ1_charAt_3b067_7 rfl (lv_at hl 1 rfl) ?_
  refine va_tb hx hb qt h.2.2.2.1 hi rfl dJ1_charAt_3b067_8 ?_
  refine lv_sipush (v := (255 : Int32)) hx hb dJ1_charAt_3b067_9 rfl ?_
  refine lv_iand hx hb dJ1_charAt_3b067_12 ?_
  refine lv_i2c hx hb dJ1_charAt_3b067_13 rfl ?_
  exact r_iret C h hr hlk (pk_nc _) dJ1_charAt_3b067_14
theorem k_lat {l : Launch} : mFi l G yJ0_isLatin1_aae02 cJ0_isLatin1_aae02 1 .boolean 0 [.ref G.2.2.2.2.1] [] 1 [] := by
  refine mFi.of (by decide +kernel) (Nat.le_of_ble_eq_true rfl) ?_
  intro p e s m below meth c A C hr hlk h ls hl
  obtain ⟨hx, hb, hml, hown, hts⟩ := id C
  obtain ⟨qc, qv, qt, qr⟩ := str_of h
  obtain ⟨h5, h6, h7, vf, h9, hv⟩ := h.2.2.2.2.2.2.2
  replace hl : lv_has ls 1 [(0, .ref G.2.2.2.2.1)] := hl
  refine va_gets hx hb h7 h.2.2.2.1 hown (hts _ kf_cmp) (fun _ h9 => h9) dJ0_isLatin1_aae02_0 ?_
  refine lv_if_eq (tgt := 17) hx hb dJ0_isLatin1_aae02_3 rfl (fun c1 => absurd c1 (by decide)) (fun c1 => ?_)
  refine lv_aload_n hx hb dJ0_isLatin1_aae02_6 rfl (lv_at hl 0 rfl) ?_
  refine vk_getf hx hb qc h.2.2.2.1 hown (hts _ kf_cod) (fun _ h9 => h9) dJ0_isLatin1_aae02_7 ?_
  refine lv_if_ne (tgt := 17) hx hb dJ0_isLatin1_aae02_10 rfl (fun c1 => absurd rfl c1) (fun c1 => ?_)
  refine lv_iconst (v := (1 : Int32)) hx hb dJ0_isLatin1_aae02_13 rfl ?_
  refine lv_goto (tgt := 18) hx hb dJ0_isLatin1_aae02_14 rfl ?_
  exact r_iret C h hr hlk rfl dJ0_isLatin1_aae02_18
theorem k_cod {l : Launch} : mFi l G yJ0_coder_7d493 cJ0_coder_7d493 1 .byte 0 [.ref G.2.2.2.2.1] [] 0 [] := by
  refine mFi.of (by decide +kernel) (Nat.le_of_ble_eq_true rfl) ?_
  intro p e s m below meth c A C hr hlk h ls hl
  obtain ⟨hx, hb, hml, hown, hts⟩ := id C
  obtain ⟨qc, qv, qt, qr⟩ := str_of h
  obtain ⟨h5, h6, h7, vf, h9, hv⟩ := h.2.2.2.2.2.2.2
  replace hl : lv_has ls 1 [(0, .ref G.2.2.2.2.1)] := hl
  refine va_gets hx hb h7 h.2.2.2.1 hown (hts _ kf_cmp) (fun _ h9 => h9) dJ0_coder_7d493_0 ?_
  refine lv_if_eq (tgt := 13) hx hb dJ0_coder_7d493_3 rfl (fun c1 => absurd c1 (by decide)) (fun c1 => ?_)
  refine lv_aload_n hx hb dJ0_coder_7d493_6 rfl (lv_at hl 0 rfl) ?_
  refine vk_getf hx hb qc h.2.2.2.1 hown (hts _ kf_cod) (fun _ h9 => h9) dJ0_coder_7d493_7 ?_
  refine lv_goto (tgt := 14) hx hb dJ0_coder_7d493_10 rfl ?_
  exact r_iret C h hr hlk rfl dJ0_coder_7d493_14
theorem k_len {l : Launch} : mFi l G yJ0_length_8abf5 cJ0_length_8abf5 1 .int 1 [.ref G.2.2.2.2.1] [] 100 [] := by
  refine mFi.of (by decide +kernel) (Nat.le_of_ble_eq_true rfl) ?_
  intro p e s m below meth c A C hr hlk h ls hl
  obtain ⟨hx, hb, hml, hown, hts⟩ := id C
  obtain ⟨qc, qv, qt, qr⟩ := str_of h
  obtain ⟨h5, h6, h7, vf, h9, hv⟩ := h.2.2.2.2.2.2.2
  replace hl : lv_has ls 1 [(0, .ref G.2.2.2.2.1)] := hl
  refine lv_aload_n hx hb dJ0_length_8abf5_0 rfl (lv_at hl 0 rfl) ?_
  refine vk_getf hx hb qv h.2.2.2.1 hown (hts _ kf_val) (fun _ h9 => h9) dJ0_length_8abf5_1 ?_
  refine va_tlen (v := (100 : Int32)) hx hb qt h.2.2.2.1 rfl dJ0_length_8abf5_4 ?_
  refine lv_aload_n hx hb dJ0_length_8abf5_5 rfl (lv_at hl 0 rfl) ?_
  refine r_ciR0 (r := 0) C h k_cod kr_cod rfl qr [] rfl rfl hl.1 rfl (Nat.le_of_ble_eq_true rfl) (rok (by decide)) dJ0_length_8abf5_6 (fun H locs h => ?_)
  refine lv_ishr hx hb dJ0_length_8abf5_9 ?_
  refine r_cst 100 (by decide) ?_
  exact r_iret C h hr hlk rfl dJ0_length_8abf5_10
theorem k_chr {l : Launch} {i : Int32} (hi : vp_in i 100) : mFi l G yJ0_charAt_5068e cJ0_charAt_5068e 2 .char 3 [.ref G.2.2.2.2.1, .int i] [] (wd_ch i.toNatClampNeg) [] := by
  refine mFi.of (by decide +kernel) (Nat.le_of_ble_eq_true rfl) ?_
  intro p e s m below meth c A C hr hlk h ls hl
  obtain ⟨hx, hb, hml, hown, hts⟩ := id C
  obtain ⟨qc, qv, qt, qr⟩ := str_of h
  obtain ⟨h5, h6, h7, vf, h9, hv⟩ := h.2.2.2.2.2.2.2
  replace hl : lv_has ls 2 [(0, .ref G.2.2.2.2.1), (1, .int i)] := hl
  refine lv_aload_n hx hb dJ0_charAt_5068e_0 rfl (lv_at hl 0 rfl) ?_
  refine r_ciR0 (r := 1) C h k_lat kr_lat rfl qr [] rfl rfl hl.1 rfl (Nat.le_of_ble_eq_true rfl) (rok (by decide)) dJ0_charAt_5068e_1 (fun H locs h => ?_)
  refine lv_if_eq (tgt := 16) hx hb dJ0_charAt_5068e_4 rfl (fun c1 => absurd c1 (by decide)) (fun c1 => ?_)
  refine lv_aload_n hx hb dJ0_charAt_5068e_7 rfl (lv_at hl 0 rfl) ?_
  refine vk_getf hx hb qv h.2.2.2.1 hown (hts _ kf_val) (fun _ h9 => h9) dJ0_charAt_5068e_8 ?_
  refine lv_iload_n hx hb dJ0_charAt_5068e_11 rfl (lv_at hl 1 rfl) ?_
  refine r_ciS0 C h (k_lch hi) ks_lch rfl [] rfl rfl hl.1 rfl (Nat.le_of_ble_eq_true rfl) (rok (by decide)) dJ0_charAt_5068e_12 (fun H locs h => ?_)
  exact r_iret C h hr hlk (pk_nc _) dJ0_charAt_5068e_15
theorem r_wlen {aW : Nat} (C : CallFix p m c cc nL s args gw_tbl RX4) (h : Wd G A s ws H locs) (hW : WAt G aW) (hl : ls.size = nL) (hcat : (rest.map fun v => v.category).sum ≤ 8) (hdg : decode cc pc = .ok (.invokevirtual 75, 3))
    (kk : ∀ (H : Heap) (locs : List Loc), Wd G A s ws H locs → W p l e (rmh 9) s m args below meth c H locs 0 0 Q (F0 m (pc + 3) ls (.int (100 : Int32) :: rest))) : W p l e (rmh 9) s m args below meth c H locs 0 0 Q (F0 m pc ls (.ref aW :: rest)) := by
  unfold WAt at hW
  subst hW
  obtain ⟨-, -, -, qr⟩ := str_of h
  exact r_ciR0 (r := 100) C h k_len kr_len rfl qr [] rfl rfl hl rfl hcat (rok (by decide)) hdg kk
theorem r_wch {aW : Nat} {i : Int32} (C : CallFix p m c cc nL s args gw_tbl RX4) (h : Wd G A s ws H locs) (hW : WAt G aW) (hin : vp_in i 100) (hl : ls.size = nL) (hcat : (rest.map fun v => v.category).sum ≤ 8) (hdg : decode cc pc = .ok (.invokevirtual 81, 3))
    (kk : ∀ (H : Heap) (locs : List Loc), Wd G A s ws H locs → W p l e (rmh 9) s m args below meth c H locs 0 0 Q (F0 m (pc + 3) ls (.int (wd_ch i.toNatClampNeg) :: rest))) : W p l e (rmh 9) s m args below meth c H locs 0 0 Q (F0 m pc ls (.int i :: .ref aW :: rest)) := by
  unfold WAt at hW
  subst hW
  obtain ⟨-, -, -, qr⟩ := str_of h
  exact r_ciR0 C h (k_chr hin) kr_chr rfl qr [] rfl rfl hl rfl hcat (rok (by decide)) hdg kk
end OK6
