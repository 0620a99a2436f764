/-! THE CLAIM OUT OF ONE WALK OF THE LAW'S BODY. Your part is whole_start (and what it stands on); all else here is the same for every law, but numbers. -/
def R_law : String := "LightHalvesLaw"
def lw_P (b : Addr) (xs : List Int32) (args : Array Value) (s : State) : Prop := args = #[.ref b] ∧ s.IntsAt b xs ∧ xs.length ≤ 2560 ∧ (Jvm.Cond.and given_1 narrow_1).before args s = true
def lw_Q (_ : Array Value) (s : State) (o : Outcome) (t : State) : Prop := o = .returned (some (.int 1)) ∧ Framed s o t [] 600000 7302250
def lw_Z (below : List Frame) (a : Array Value) (s : State) : State → Prop := fun t => ∃ o, t.status = .running ∧ Ended t below o ∧ lw_Q a s o t
/-- the law's own end, with 1 on the stack, nothing written that was there before, its room as the claim has it -/
theorem lw_ret {p : Program} {l : Launch} {e : Env} {s : State} {m : MethodId} {below : List Frame} {meth : Method} {c : Code} {b : Nat} (hx : p.tables.exec = Jvm.exec) (hb : c.code = code) (hr : meth.sig.returnType = ret) (hlocks : meth.locks = false) {pc : Nat} {H : Heap} {ls : Array Slot} (hdg : decode code pc = .ok (.ireturn, 1)) : W p l e room_1 s m #[Value.ref b] below meth c H [] 600000 7302250 (lw_Z below #[Value.ref b] s) (F0 m pc ls [.int 1]) := by
  intro T hT X
  obtain ⟨fs, hret, hrun, hended, hW, hframe⟩ := X.leave (v := some (.int 1)) (hlocks := hlocks) (fun h => by rw [hr] at h; cases h)
  have hmeth' : T.vm.method? m = some meth := X.method'
  refine ⟨T.setFrames fs, ?_, .returned (some (.int 1)), hrun, hended, rfl, ⟨_, rfl⟩, hW, hframe⟩
  jvm_step X.here [X.here.top, hx, hb, hdg, hmeth', hr, ret, narrow_b1]
  (try refine ⟨rfl, ?_⟩); (try refine ⟨rfl, ?_⟩)
  first | (intro acts; rw [hret _ acts rfl rfl rfl]) | rw [hret _ _ rfl rfl rfl]
  exact Steps.refl _
/-- what holds at the law's entry: the machine, the code, the tables' words (any of lw_tbl by 'hts w (by decide +kernel)'), the script of L ints xs at the cell b, what the Statement gives of the start (any of its parts by flat_of_before) -/
def lw_At (p : Program) (s : State) (m : MethodId) (meth : Method) (c : Code) (b L : Nat) (xs : Nat → Int32) : Prop :=
  p.tables.exec = Jvm.exec ∧ c.code = code ∧ meth.sig.returnType = ret ∧ c.maxLocals = 4 ∧ s.vm.findClass R_law = some m.cls ∧ (∀ w ∈ lw_tbl, w.before #[Value.ref b] s = true) ∧ va_X b L xs s s.heap ∧ b < s.heap.size ∧ meth.locks = false ∧ (Jvm.Cond.and given_1 narrow_1).before #[Value.ref b] s = true
theorem cw_X9 : Cond.code yX9_init cX9_init 2 none ∈ gw_tbl := by
  refine List.mem_filter.mpr ⟨?_, rfl⟩
  have h5 : Cond.code yX9_init cX9_init 2 none ∈ tables_1_5 := List.mem_of_getElem? (i := 133) rfl
  exact List.mem_append_right _ (List.mem_append_right _ (List.mem_append_right _ (List.mem_append_right _ (List.mem_append_right _ (List.mem_append_left _ h5)))))
theorem zn_L_7 : NWk RL 7 8 [.null, .null, .null, .null, .null, .null, .null, .null, .null, .null, .int 0, .int 0, .int 0] := ⟨_, _, _, rfl, iw_X8, ⟨tyX8, tyX8_ok, dv_of rfl⟩, gw_in 118 (by decide +kernel) (by decide +kernel), gw_in 119 (by decide +kernel) (by decide +kernel), gw_in 100 (by decide +kernel) (by decide +kernel), rfl⟩
theorem zn_L_10 : NWk RL 10 9 [.null, .null, .null, .int 0, .null, .null, .int 0, .null, .int 0, .int 0, .int 0, .int 0, .int 0, .int 0, .null, .null, .null, .null, .null, .int 0, .int 0, .int 0, .int 0, .null, .null, .int 0, .null, .int 0, .null, .null, .null, .null, .null, .null, .int 0, .int 0, .int 0] := ⟨_, _, _, rfl, iw_X9, ⟨tyX9, tyX9_ok, dv_of rfl⟩, gw_in 1188 (by decide +kernel) (by decide +kernel), gw_in 1189 (by decide +kernel) (by decide +kernel), gw_in 110 (by decide +kernel) (by decide +kernel), rfl⟩
theorem zi_L_9 : MLi RL 9 yX8_init cX8_init 1 := by unfold MLi okY; exact ⟨gw_in 120 (by decide +kernel) (by decide +kernel), gw_in 121 (by decide +kernel) (by decide +kernel), gw_in 100 (by decide +kernel) (by decide +kernel), gw_in 122 (by decide +kernel) (by decide +kernel), rfl, by decide +kernel, by decide +kernel, by decide +kernel, by decide⟩
theorem zi_L_12 : MLi RL 12 yX9_init cX9_init 2 := by unfold MLi okY; exact ⟨gw_in 1190 (by decide +kernel) (by decide +kernel), gw_in 1191 (by decide +kernel) (by decide +kernel), gw_in 110 (by decide +kernel) (by decide +kernel), cw_X9, rfl, by decide +kernel, by decide +kernel, by decide +kernel, by decide⟩
set_option maxHeartbeats 8000000 in
set_option maxRecDepth 100000 in
theorem law_loop {p : Program} {l : Launch} {e : Env} {s : State} {m : MethodId} {below : List Frame} {meth : Method} {c : Code} {G : Gt} {hX : Nat} {aX : Nat → Nat} {hM : Nat} {aM : Nat → Nat} {b L : Nat} {xs : Nat → Int32} {cells slots : Nat} (C : CallFix p m c code 4 s #[Value.ref b] gw_tbl RL) (hr : meth.sig.returnType = ret) (hlocks : meth.locks = false) (hSc : ScA (fun q => s.heap.size ≤ q) s b L xs) (hLL : L ≤ 2560) (hcs : cells ≤ room_1.cells ∧ slots ≤ room_1.slots) : ∀ (n i : Nat), L + 1 ≤ i + 5 * n → i ≤ L → ∀ (x : Nat → Int32) (f : Nat → Nat → Int32) (y : Nat → Int32) (g : Nat → Nat → Int32) (H : Heap) (locs : List Loc) (ls : Array Slot), Wd G (fun q => s.heap.size ≤ q) s (wLaw G hX aX hM aM x f y g) H locs → REL x f y g → lv_has ls 4 (lvL i b hX hM) → W p l e room_1 s m #[Value.ref b] below meth c H locs cells slots (lw_Z below #[Value.ref b] s) (F0 m 18 ls []) := by
  obtain ⟨hx, hb, hml, hown, hts⟩ := id C
  intro n
  induction n with
  | zero => intro i h1 h2; omega
  | succ n ih =>
    intro i h1 h2 x f y g H locs ls h hR hl
    refine lv_iload_n hx hb dL_law_18 rfl (lv_at hl 0 rfl) ?_
    refine lv_aload_n hx hb dL_law_19 rfl (lv_at hl 1 rfl) ?_
    refine va_slen hx hb hSc.1 hSc.2.2 hSc.2.1 h.2.2.2.1 dL_law_20 ?_
    refine lv_iconst (v := nI 5) hx hb dL_law_21 rfl ?_
    refine lv_isub hx hb dL_law_22 ?_
    have hd : (Int32.ofNat L - nI 5).toInt = (L : Int) - 5 := by
      have := pk_sub_toInt (a := L) (b := 5) (by omega) (by decide)
      exact this
    refine lv_icmp_gt (tgt := 1741) hx hb dL_law_23 rfl (fun cgt => ?_) (fun cgt => ?_)
    · refine lv_iconst (v := 1) hx hb dL_law_1741 rfl ?_
      refine va_forget (fun q hq => h.2.2.2.1.2.2 q hq) ?_
      refine W.widen (k := 600000) (n := 7302250) hcs.1 hcs.2 ?_
      exact lw_ret hx hb hr hlocks dL_law_1742
    · have hi : i + 5 ≤ L := by
        rw [Int32.lt_iff_toInt_lt, hd, nI_toInt (by omega)] at cgt
        omega
      refine lv_aload_n hx hb dL_law_26 rfl (lv_at hl 1 rfl) ?_
      refine lv_iload_n hx hb dL_law_27 rfl (lv_at hl 0 rfl) ?_
      refine va_sld hx hb hSc.1 hSc.2.2 hSc.2.1 h.2.2.2.1 (vp_in_nI (show i < L by omega) (by omega)) dL_law_28 ?_
      refine lv_bipush (v := nI 63) hx hb dL_law_29 rfl ?_
      refine lv_iand hx hb dL_law_31 ?_
      obtain ⟨k, hk, ek⟩ : ∃ k : Nat, k < 64 ∧ xs (nI i).toNatClampNeg &&& nI 63 = nI k := by
        obtain ⟨z, hz⟩ : ∃ z, xs (nI i).toNatClampNeg = z := ⟨_, rfl⟩
        rw [hz, nI_all z]
        exact ⟨z.toBitVec.toNat % 2 ^ 6, by omega, pk_andN z.toBitVec.isLt 6 (by decide +kernel)⟩
      refine r_cst (nI k) ek ?_
      have kk : LKK p l e s m below meth c cells slots (lw_Z below #[Value.ref b] s) (fun q => s.heap.size ≤ q) G b i hX aX hM aM := by
        intro x f y g H locs ls h hR hl
        refine lv_iinc (v := nI (i + 5)) (lv' := lvL (i + 5) b hX hM) hx hb dL_law_1735 hl (k := 0) rfl (nI_add i 5) (by decide) rfl (fun ls hl => ?_)
        refine lv_goto (tgt := 18) hx hb dL_law_1738 rfl ?_
        exact ih (i + 5) (by omega) (by omega) x f y g H locs ls h hR hl
      by_cases hk5 : k ≤ 50
      · match k, hk5 with
        | 0, _ => exact lv_tableIn (off := 220) (tgt := 252) hx hb dL_law_32 (by decide) (by decide) (by decide +kernel) rfl (lk_ship C hSc hi hLL hcs h hR hl kk)
        | 1, _ => exact lv_tableIn (off := 273) (tgt := 305) hx hb dL_law_32 (by decide) (by decide) (by decide +kernel) rfl (lk_shipOf C hSc hi hLL hcs h hR hl kk)
        | 2, _ => exact lv_tableIn (off := 306) (tgt := 338) hx hb dL_law_32 (by decide) (by decide) (by decide +kernel) rfl (lk_change C hSc hi hLL hcs h hR hl kk)
        | 3, _ => exact lv_tableIn (off := 349) (tgt := 381) hx hb dL_law_32 (by decide) (by decide) (by decide +kernel) rfl (lk_remake C hSc hi hLL hcs h hR hl kk)
        | 4, _ => exact lv_tableIn (off := 382) (tgt := 414) hx hb dL_law_32 (by decide) (by decide) (by decide +kernel) rfl (lk_light C hSc hi hLL hcs h hR hl kk)
        | 5, _ => exact lv_tableIn (off := 415) (tgt := 447) hx hb dL_law_32 (by decide) (by decide) (by decide +kernel) rfl (lk_lane C hSc hi hLL hcs h hR hl kk)
        | 6, _ => exact lv_tableIn (off := 458) (tgt := 490) hx hb dL_law_32 (by decide) (by decide) (by decide +kernel) rfl (lk_laneOf C hSc hi hLL hcs h hR hl kk)
        | 7, _ => exact lv_tableIn (off := 491) (tgt := 523) hx hb dL_law_32 (by decide) (by decide) (by decide +kernel) rfl (lk_ends C hSc hi hLL hcs h hR hl kk)
        | 8, _ => exact lv_tableIn (off := 514) (tgt := 546) hx hb dL_law_32 (by decide) (by decide) (by decide +kernel) rfl (lk_anew C hSc hi hLL hcs h hR hl kk)
        | 9, _ => exact lv_tableIn (off := 527) (tgt := 559) hx hb dL_law_32 (by decide) (by decide) (by decide +kernel) rfl (lk_state C hSc hi hLL hcs h hR hl kk)
        | 10, _ => exact lv_tableIn (off := 550) (tgt := 582) hx hb dL_law_32 (by decide) (by decide) (by decide +kernel) rfl (lk_feed C hSc hi hLL hcs h hR hl kk)
        | 11, _ => exact lv_tableIn (off := 613) (tgt := 645) hx hb dL_law_32 (by decide) (by decide) (by decide +kernel) rfl (lk_rules C hSc hi hLL hcs h hR hl kk)
        | 12, _ => exact lv_tableIn (off := 626) (tgt := 658) hx hb dL_law_32 (by decide) (by decide) (by decide +kernel) rfl (lk_watch C hSc hi hLL hcs h hR hl kk)
        | 13, _ => exact lv_tableIn (off := 639) (tgt := 671) hx hb dL_law_32 (by decide) (by decide) (by decide +kernel) rfl (lk_on C hSc hi hLL hcs h hR hl kk)
        | 14, _ => exact lv_tableIn (off := 662) (tgt := 694) hx hb dL_law_32 (by decide) (by decide) (by decide +kernel) rfl (lk_when C hSc hi hLL hcs h hR hl kk)
        | 15, _ => exact lv_tableIn (off := 685) (tgt := 717) hx hb dL_law_32 (by decide) (by decide) (by decide +kernel) rfl (lk_trimFor C hSc hi hLL hcs h hR hl kk)
        | 16, _ => exact lv_tableIn (off := 708) (tgt := 740) hx hb dL_law_32 (by decide) (by decide) (by decide +kernel) rfl (lk_laneFor C hSc hi hLL hcs h hR hl kk)
        | 17, _ => exact lv_tableIn (off := 731) (tgt := 763) hx hb dL_law_32 (by decide) (by decide) (by decide +kernel) rfl (lk_rock C hSc hi hLL hcs h hR hl kk)
        | 18, _ => exact lv_tableIn (off := 754) (tgt := 786) hx hb dL_law_32 (by decide) (by decide) (by decide +kernel) rfl (lk_least C hSc hi hLL hcs h hR hl kk)
        | 19, _ => exact lv_tableIn (off := 777) (tgt := 809) hx hb dL_law_32 (by decide) (by decide) (by decide +kernel) rfl (lk_safe C hSc hi hLL hcs h hR hl kk)
        | 20, _ => exact lv_tableIn (off := 800) (tgt := 832) hx hb dL_law_32 (by decide) (by decide) (by decide +kernel) rfl (lk_convoys C hSc hi hLL hcs h hR hl kk)
        | 21, _ => exact lv_tableIn (off := 823) (tgt := 855) hx hb dL_law_32 (by decide) (by decide) (by decide +kernel) rfl (lk_best C hSc hi hLL hcs h hR hl kk)
        | 22, _ => exact lv_tableIn (off := 846) (tgt := 878) hx hb dL_law_32 (by decide) (by decide) (by decide +kernel) rfl (lk_ith C hSc hi hLL hcs h hR hl kk)
        | 23, _ => exact lv_tableIn (off := 879) (tgt := 911) hx hb dL_law_32 (by decide) (by decide) (by decide +kernel) rfl (lk_ways C hSc hi hLL hcs h hR hl kk)
        | 24, _ => exact lv_tableIn (off := 902) (tgt := 934) hx hb dL_law_32 (by decide) (by decide) (by decide +kernel) rfl (lk_log C hSc hi hLL hcs h hR hl kk)
        | 25, _ => exact lv_tableIn (off := 935) (tgt := 967) hx hb dL_law_32 (by decide) (by decide) (by decide +kernel) rfl (lk_bars C hSc hi hLL hcs h hR hl kk)
        | 26, _ => exact lv_tableIn (off := 968) (tgt := 1000) hx hb dL_law_32 (by decide) (by decide) (by decide +kernel) rfl (lk_game C hSc hi hLL hcs h hR hl kk)
        | 27, _ => exact lv_tableIn (off := 991) (tgt := 1023) hx hb dL_law_32 (by decide) (by decide) (by decide +kernel) rfl (lk_play C hSc hi hLL hcs h hR hl kk)
        | 28, _ => exact lv_tableIn (off := 1014) (tgt := 1046) hx hb dL_law_32 (by decide) (by decide) (by decide +kernel) rfl (lk_report C hSc hi hLL hcs h hR hl kk)
        | 29, _ => exact lv_tableIn (off := 1067) (tgt := 1099) hx hb dL_law_32 (by decide) (by decide) (by decide +kernel) rfl (lk_forget C hSc hi hLL hcs h hR hl kk)
        | 30, _ => exact lv_tableIn (off := 1080) (tgt := 1112) hx hb dL_law_32 (by decide) (by decide) (by decide +kernel) rfl (lk_lone C hSc hi hLL hcs h hR hl kk)
        | 31, _ => exact lv_tableIn (off := 1103) (tgt := 1135) hx hb dL_law_32 (by decide) (by decide) (by decide +kernel) rfl (lk_liar C hSc hi hLL hcs h hR hl kk)
        | 32, _ => exact lv_tableIn (off := 1116) (tgt := 1148) hx hb dL_law_32 (by decide) (by decide) (by decide +kernel) rfl (lk_seed C hSc hi hLL hcs h hR hl kk)
        | 33, _ => exact lv_tableIn (off := 1139) (tgt := 1171) hx hb dL_law_32 (by decide) (by decide) (by decide +kernel) rfl (lk_lot C hSc hi hLL hcs h hR hl kk)
        | 34, _ => exact lv_tableIn (off := 1152) (tgt := 1184) hx hb dL_law_32 (by decide) (by decide) (by decide +kernel) rfl (lk_times C hSc hi hLL hcs h hR hl kk)
        | 35, _ => exact lv_tableIn (off := 1185) (tgt := 1217) hx hb dL_law_32 (by decide) (by decide) (by decide +kernel) rfl (lk_prove C hSc hi hLL hcs h hR hl kk)
        | 36, _ => exact lv_tableIn (off := 1208) (tgt := 1240) hx hb dL_law_32 (by decide) (by decide) (by decide +kernel) rfl (lk_row C hSc hi hLL hcs h hR hl kk)
        | 37, _ => exact lv_tableIn (off := 1241) (tgt := 1273) hx hb dL_law_32 (by decide) (by decide) (by decide +kernel) rfl (lk_alterRow C hSc hi hLL hcs h hR hl kk)
        | 38, _ => exact lv_tableIn (off := 1284) (tgt := 1316) hx hb dL_law_32 (by decide) (by decide) (by decide +kernel) rfl (lk_judge C hSc hi hLL hcs h hR hl kk)
        | 39, _ => exact lv_tableIn (off := 1297) (tgt := 1329) hx hb dL_law_32 (by decide) (by decide) (by decide +kernel) rfl (lk_sheet C hSc hi hLL hcs h hR hl kk)
        | 40, _ => exact lv_tableIn (off := 1340) (tgt := 1372) hx hb dL_law_32 (by decide) (by decide) (by decide +kernel) rfl (lk_write C hSc hi hLL hcs h hR hl kk)
        | 41, _ => exact lv_tableIn (off := 1383) (tgt := 1415) hx hb dL_law_32 (by decide) (by decide) (by decide +kernel) rfl (lk_item C hSc hi hLL hcs h hR hl kk)
        | 42, _ => exact lv_tableIn (off := 1426) (tgt := 1458) hx hb dL_law_32 (by decide) (by decide) (by decide +kernel) rfl (lk_goAll C hSc hi hLL hcs h hR hl kk)
        | 43, _ => exact lv_tableIn (off := 1469) (tgt := 1501) hx hb dL_law_32 (by decide) (by decide) (by decide +kernel) rfl (lk_wouldBe C hSc hi hLL hcs h hR hl kk)
        | 44, _ => exact lv_tableIn (off := 1512) (tgt := 1544) hx hb dL_law_32 (by decide) (by decide) (by decide +kernel) rfl (lk_shelf C hSc hi hLL hcs h hR hl kk)
        | 45, _ => exact lv_tableIn (off := 1555) (tgt := 1587) hx hb dL_law_32 (by decide) (by decide) (by decide +kernel) rfl (lk_taken C hSc hi hLL hcs h hR hl kk)
        | 46, _ => exact lv_tableIn (off := 1588) (tgt := 1620) hx hb dL_law_32 (by decide) (by decide) (by decide +kernel) rfl (lk_act C hSc hi hLL hcs h hR hl kk)
        | 47, _ => exact lv_tableIn (off := 1631) (tgt := 1663) hx hb dL_law_32 (by decide) (by decide) (by decide +kernel) rfl (lk_trace C hSc hi hLL hcs h hR hl kk)
        | 48, _ => exact lv_tableIn (off := 1654) (tgt := 1686) hx hb dL_law_32 (by decide) (by decide) (by decide +kernel) rfl (lk_many C hSc hi hLL hcs h hR hl kk)
        | 49, _ => exact lv_tableIn (off := 1677) (tgt := 1709) hx hb dL_law_32 (by decide) (by decide) (by decide +kernel) rfl (lk_keep C hSc hi hLL hcs h hR hl kk)
        | 50, _ => exact lv_tableIn (off := 1690) (tgt := 1722) hx hb dL_law_32 (by decide) (by decide) (by decide +kernel) rfl (lk_again C hSc hi hLL hcs h hR hl kk)
        | k + 51, hk5 => omega
      · refine lv_tableOut (tgt := 1735) hx hb dL_law_32 (Or.inr ?_) rfl (kk x f y g H locs ls h hR hl)
        rw [nI_toInt (by omega)]
        omega
set_option maxHeartbeats 8000000 in
set_option maxRecDepth 100000 in
/-- from the entry, for every script of at most 2560 ints, the law comes to its end with true -/
theorem whole_start {p : Program} {e : Env} {s : State} {m : MethodId} {below : List Frame} {meth : Method} {c : Code} (l : Launch) (hflags : l.flags = flags0) {b L : Nat} {xs : Nat → Int32} (hL : L ≤ 2560) (C0 : lw_At p s m meth c b L xs) : W p l e room_1 s m #[Value.ref b] below meth c s.heap [] 0 0 (lw_Z below #[Value.ref b] s) (entryFrame m ([Value.ref b] : List Value).toArray 4) := by
  obtain ⟨hx, hb, hr, hml, hown, hts, hX9, hbl, hlocks, hgv⟩ := id C0
  have hfl : ∀ w ∈ fl0, w.before #[Value.ref b] s = true := flat_of_before _ hgv
  obtain ⟨w, hEv⟩ := st_ev hts hfl
  obtain ⟨D, cI, cC, cS, hK⟩ := st_K hts
  have C : CallFix p m c code 4 s #[Value.ref b] gw_tbl RL := ⟨hx, hb, hml, hown, fun w hw => hts w (List.mem_filter.mp hw).1⟩
  have hO : va_AO RX6 s := va_AO.of (hts (.arrayOver (.object "LightHalves$Standing")) (List.mem_of_getElem? (i := 289) (by decide +kernel)))
  have h : Wd (D, cI, cC, cS, w.1, w.2) (fun q => s.heap.size ≤ q) s [] s.heap [] := ⟨hK w, fun k q h => by simp at h, ⟨fun i j p q h => by simp at h, fun k q h => by simp at h⟩, va_S.rf, fun _ h => h, hEv⟩
  obtain ⟨G, hG⟩ : ∃ G : Gt, (D, cI, cC, cS, w.1, w.2) = G := ⟨_, rfl⟩
  rw [hG] at h
  have hl := lv_entry ([.ref b]) (n := 4) (Nat.le_of_ble_eq_true rfl)
  rw [lg_entry_eq]
  generalize (lg_sl ([.ref b]) ++ List.replicate (4 - (lg_sl ([.ref b])).length) Slot.unset).toArray = ls at hl ⊢
  replace hl : lv_has ls 4 [(0, .ref b)] := hl
  refine r_new (N' := 13) C h zn_L_7 rfl (Nat.le_of_ble_eq_true rfl) (Nat.le_of_ble_eq_true rfl) dL_law_0 (fun hX H h => ?_)
  refine W.widen (k := 1) (n := 13) (Nat.le_of_ble_eq_true rfl) (Nat.le_of_ble_eq_true rfl) ?_
  replace h : Wd G _ s [(hX, ob 8 [.null, .null, .null, .null, .null, .null, .null, .null, .null, .null, .int 0, .int 0, .int 0])] H _ := h
  refine lv_dup hx hb dL_law_3 rfl ?_
  refine r_initI (wr := []) C h hO c_X8_init zi_L_9 [0] [] rfl (by decide +kernel) rfl (by decide +kernel) (by decide +kernel) hl.1 (Nat.le_of_ble_eq_true rfl) ⟨Nat.le_of_ble_eq_true rfl, Nat.le_of_ble_eq_true rfl⟩ ⟨Nat.le_of_ble_eq_true rfl, Nat.le_of_ble_eq_true rfl⟩ dL_law_4 (fun aX H locs h => ?_)
  refine W.widen (k := 83) (n := 2856) (Nat.le_of_ble_eq_true rfl) (Nat.le_of_ble_eq_true rfl) ?_
  replace h : Wd G _ s [(hX, ob 8 [.ref (aX 0), .ref (aX 22), .ref (aX 44), .ref (aX 46), .ref (aX 60), .ref (aX 62), .ref (aX 70), .ref (aX 78), .ref (aX 80), .ref (aX 81), .int (0 : Int32), .int (0 : Int32), .int (0 : Int32)]), ((aX 0), ob 3 [.ref (aX 1), .ref (aX 2), .ref (aX 3), .ref (aX 4), .ref (aX 5), .ref (aX 6), .ref (aX 7), .ref (aX 9), .ref (aX 17), .int (0 : Int32), .int (12 : Int32), .int (1 : Int32)]), ((aX 1), ia G 6 (fun _ => 0)), ((aX 2), ia G 6 (fun _ => 0)), ((aX 3), ia G 6 (fun _ => 0)), ((aX 4), ia G 16 flc_X3_init), ((aX 5), ia G 6 (fun _ => 0)), ((aX 6), ia G 6 (fun _ => 0)), ((aX 7), ob 6 [.ref (aX 8), .int (0 : Int32), .int (0 : Int32), .int (0 : Int32)]), ((aX 8), ia G 6 (fun _ => 0)), ((aX 9), ob 5 [.ref (aX 10), .ref (aX 11), .ref (aX 12), .ref (aX 13), .ref (aX 14), .ref (aX 15), .ref (aX 16), .int (0 : Int32), .int (0 : Int32)]), ((aX 10), ia G 8 (fun _ => 0)), ((aX 11), ia G 8 (fun _ => 0)), ((aX 12), ia G 9 (fun _ => 0)), ((aX 13), ia G 200 (fun _ => 0)), ((aX 14), ia G 200 (fun _ => 0)), ((aX 15), ia G 200 (fun _ => 0)), ((aX 16), ia G 5 (fun _ => 0)), ((aX 17), ob 2 [.ref (aX 18), .ref (aX 19), .ref (aX 20), .ref (aX 21), .int (0 : Int32)]), ((aX 18), ia G 6 (fun _ => 0)), ((aX 19), ia G 6 (fun _ => 0)), ((aX 20), ia G 6 (fun _ => 0)), ((aX 21), ia G 6 (fun _ => 0)), ((aX 22), ob 3 [.ref (aX 23), .ref (aX 24), .ref (aX 25), .ref (aX 26), .ref (aX 27), .ref (aX 28), .ref (aX 29), .ref (aX 31), .ref (aX 39), .int (0 : Int32), .int (12 : Int32), .int (1 : Int32)]), ((aX 23), ia G 6 (fun _ => 0)), ((aX 24), ia G 6 (fun _ => 0)), ((aX 25), ia G 6 (fun _ => 0)), ((aX 26), ia G 16 flc_X3_init), ((aX 27), ia G 6 (fun _ => 0)), ((aX 28), ia G 6 (fun _ => 0)), ((aX 29), ob 6 [.ref (aX 30), .int (0 : Int32), .int (0 : Int32), .int (0 : Int32)]), ((aX 30), ia G 6 (fun _ => 0)), ((aX 31), ob 5 [.ref (aX 32), .ref (aX 33), .ref (aX 34), .ref (aX 35), .ref (aX 36), .ref (aX 37), .ref (aX 38), .int (0 : Int32), .int (0 : Int32)]), ((aX 32), ia G 8 (fun _ => 0)), ((aX 33), ia G 8 (fun _ => 0)), ((aX 34), ia G 9 (fun _ => 0)), ((aX 35), ia G 200 (fun _ => 0)), ((aX 36), ia G 200 (fun _ => 0)), ((aX 37), ia G 200 (fun _ => 0)), ((aX 38), ia G 5 (fun _ => 0)), ((aX 39), ob 2 [.ref (aX 40), .ref (aX 41), .ref (aX 42), .ref (aX 43), .int (0 : Int32)]), ((aX 40), ia G 6 (fun _ => 0)), ((aX 41), ia G 6 (fun _ => 0)), ((aX 42), ia G 6 (fun _ => 0)), ((aX 43), ia G 6 (fun _ => 0)), ((aX 44), ob 6 [.ref (aX 45), .int (0 : Int32), .int (0 : Int32), .int (0 : Int32)]), ((aX 45), ia G 6 (fun _ => 0)), ((aX 46), ob 1 [.ref (aX 47), .ref (aX 48), .ref (aX 49), .int (0 : Int32), .int (0 : Int32), .int (0 : Int32), .int (0 : Int32), .int (-3 : Int32), .int (0 : Int32)]), ((aX 47), ra G 5 (rl5 (aX 50) (aX 52) (aX 54) (aX 56) (aX 58))), ((aX 48), ia G 4 (fun _ => 0)), ((aX 49), ia G 4 (fun _ => 0)), ((aX 50), ob 6 [.ref (aX 51), .int (0 : Int32), .int (0 : Int32), .int (0 : Int32)]), ((aX 51), ia G 6 (fun _ => 0)), ((aX 52), ob 6 [.ref (aX 53), .int (0 : Int32), .int (0 : Int32), .int (0 : Int32)]), ((aX 53), ia G 6 (fun _ => 0)), ((aX 54), ob 6 [.ref (aX 55), .int (0 : Int32), .int (0 : Int32), .int (0 : Int32)]), ((aX 55), ia G 6 (fun _ => 0)), ((aX 56), ob 6 [.ref (aX 57), .int (0 : Int32), .int (0 : Int32), .int (0 : Int32)]), ((aX 57), ia G 6 (fun _ => 0)), ((aX 58), ob 6 [.ref (aX 59), .int (0 : Int32), .int (0 : Int32), .int (0 : Int32)]), ((aX 59), ia G 6 (fun _ => 0)), ((aX 60), ob 4 [.ref (aX 61), .int (0 : Int32), .int (0 : Int32), .int (0 : Int32), .int (0 : Int32), .int (0 : Int32), .int (0 : Int32), .int (19 : Int32), .int (0 : Int32), .int (0 : Int32), .int (0 : Int32)]), ((aX 61), ia G 200 (fun _ => 0)), ((aX 62), ob 5 [.ref (aX 63), .ref (aX 64), .ref (aX 65), .ref (aX 66), .ref (aX 67), .ref (aX 68), .ref (aX 69), .int (0 : Int32), .int (0 : Int32)]), ((aX 63), ia G 8 (fun _ => 0)), ((aX 64), ia G 8 (fun _ => 0)), ((aX 65), ia G 9 (fun _ => 0)), ((aX 66), ia G 200 (fun _ => 0)), ((aX 67), ia G 200 (fun _ => 0)), ((aX 68), ia G 200 (fun _ => 0)), ((aX 69), ia G 5 (fun _ => 0)), ((aX 70), ob 0 [.ref (aX 71), .ref (aX 72), .ref (aX 73), .ref (aX 74), .ref (aX 75), .ref (aX 76), .ref (aX 77)]), ((aX 71), ia G 4 flc_X0_init), ((aX 72), ia G 4 (fun _ => 0)), ((aX 73), ia G 160 (fun _ => 0)), ((aX 74), ia G 4 (fun _ => 0)), ((aX 75), ia G 4 (fun _ => 0)), ((aX 76), ia G 4 (fun _ => 0)), ((aX 77), ia G 4 (fun _ => 0)), ((aX 78), ob 7 [.ref (aX 79), .int (0 : Int32), .int (0 : Int32), .int (0 : Int32), .int (0 : Int32), .int (0 : Int32)]), ((aX 79), ia G 30 (fun _ => 0)), ((aX 80), ia G 200 (fun _ => 0)), ((aX 81), ia G 12 (fun _ => 0))] H _ := h
  refine lv_astore_n (lv' := [(1, .ref hX), (0, .ref b)]) hx hb dL_law_7 rfl hl (by decide) rfl (fun ls hl => ?_)
  refine r_new (N' := 37) C h zn_L_10 rfl (Nat.le_of_ble_eq_true rfl) (Nat.le_of_ble_eq_true rfl) dL_law_8 (fun hM H h => ?_)
  refine W.widen (k := 84) (n := 2893) (Nat.le_of_ble_eq_true rfl) (Nat.le_of_ble_eq_true rfl) ?_
  refine lv_dup hx hb dL_law_11 rfl ?_
  refine r_initI (wr := [(hX, ob 8 [.ref (aX 0), .ref (aX 22), .ref (aX 44), .ref (aX 46), .ref (aX 60), .ref (aX 62), .ref (aX 70), .ref (aX 78), .ref (aX 80), .ref (aX 81), .int (0 : Int32), .int (0 : Int32), .int (0 : Int32)]), ((aX 0), ob 3 [.ref (aX 1), .ref (aX 2), .ref (aX 3), .ref (aX 4), .ref (aX 5), .ref (aX 6), .ref (aX 7), .ref (aX 9), .ref (aX 17), .int (0 : Int32), .int (12 : Int32), .int (1 : Int32)]), ((aX 1), ia G 6 (fun _ => 0)), ((aX 2), ia G 6 (fun _ => 0)), ((aX 3), ia G 6 (fun _ => 0)), ((aX 4), ia G 16 flc_X3_init), ((aX 5), ia G 6 (fun _ => 0)), ((aX 6), ia G 6 (fun _ => 0)), ((aX 7), ob 6 [.ref (aX 8), .int (0 : Int32), .int (0 : Int32), .int (0 : Int32)]), ((aX 8), ia G 6 (fun _ => 0)), ((aX 9), ob 5 [.ref (aX 10), .ref (aX 11), .ref (aX 12), .ref (aX 13), .ref (aX 14), .ref (aX 15), .ref (aX 16), .int (0 : Int32), .int (0 : Int32)]), ((aX 10), ia G 8 (fun _ => 0)), ((aX 11), ia G 8 (fun _ => 0)), ((aX 12), ia G 9 (fun _ => 0)), ((aX 13), ia G 200 (fun _ => 0)), ((aX 14), ia G 200 (fun _ => 0)), ((aX 15), ia G 200 (fun _ => 0)), ((aX 16), ia G 5 (fun _ => 0)), ((aX 17), ob 2 [.ref (aX 18), .ref (aX 19), .ref (aX 20), .ref (aX 21), .int (0 : Int32)]), ((aX 18), ia G 6 (fun _ => 0)), ((aX 19), ia G 6 (fun _ => 0)), ((aX 20), ia G 6 (fun _ => 0)), ((aX 21), ia G 6 (fun _ => 0)), ((aX 22), ob 3 [.ref (aX 23), .ref (aX 24), .ref (aX 25), .ref (aX 26), .ref (aX 27), .ref (aX 28), .ref (aX 29), .ref (aX 31), .ref (aX 39), .int (0 : Int32), .int (12 : Int32), .int (1 : Int32)]), ((aX 23), ia G 6 (fun _ => 0)), ((aX 24), ia G 6 (fun _ => 0)), ((aX 25), ia G 6 (fun _ => 0)), ((aX 26), ia G 16 flc_X3_init), ((aX 27), ia G 6 (fun _ => 0)), ((aX 28), ia G 6 (fun _ => 0)), ((aX 29), ob 6 [.ref (aX 30), .int (0 : Int32), .int (0 : Int32), .int (0 : Int32)]), ((aX 30), ia G 6 (fun _ => 0)), ((aX 31), ob 5 [.ref (aX 32), .ref (aX 33), .ref (aX 34), .ref (aX 35), .ref (aX 36), .ref (aX 37), .ref (aX 38), .int (0 : Int32), .int (0 : Int32)]), ((aX 32), ia G 8 (fun _ => 0)), ((aX 33), ia G 8 (fun _ => 0)), ((aX 34), ia G 9 (fun _ => 0)), ((aX 35), ia G 200 (fun _ => 0)), ((aX 36), ia G 200 (fun _ => 0)), ((aX 37), ia G 200 (fun _ => 0)), ((aX 38), ia G 5 (fun _ => 0)), ((aX 39), ob 2 [.ref (aX 40), .ref (aX 41), .ref (aX 42), .ref (aX 43), .int (0 : Int32)]), ((aX 40), ia G 6 (fun _ => 0)), ((aX 41), ia G 6 (fun _ => 0)), ((aX 42), ia G 6 (fun _ => 0)), ((aX 43), ia G 6 (fun _ => 0)), ((aX 44), ob 6 [.ref (aX 45), .int (0 : Int32), .int (0 : Int32), .int (0 : Int32)]), ((aX 45), ia G 6 (fun _ => 0)), ((aX 46), ob 1 [.ref (aX 47), .ref (aX 48), .ref (aX 49), .int (0 : Int32), .int (0 : Int32), .int (0 : Int32), .int (0 : Int32), .int (-3 : Int32), .int (0 : Int32)]), ((aX 47), ra G 5 (rl5 (aX 50) (aX 52) (aX 54) (aX 56) (aX 58))), ((aX 48), ia G 4 (fun _ => 0)), ((aX 49), ia G 4 (fun _ => 0)), ((aX 50), ob 6 [.ref (aX 51), .int (0 : Int32), .int (0 : Int32), .int (0 : Int32)]), ((aX 51), ia G 6 (fun _ => 0)), ((aX 52), ob 6 [.ref (aX 53), .int (0 : Int32), .int (0 : Int32), .int (0 : Int32)]), ((aX 53), ia G 6 (fun _ => 0)), ((aX 54), ob 6 [.ref (aX 55), .int (0 : Int32), .int (0 : Int32), .int (0 : Int32)]), ((aX 55), ia G 6 (fun _ => 0)), ((aX 56), ob 6 [.ref (aX 57), .int (0 : Int32), .int (0 : Int32), .int (0 : Int32)]), ((aX 57), ia G 6 (fun _ => 0)), ((aX 58), ob 6 [.ref (aX 59), .int (0 : Int32), .int (0 : Int32), .int (0 : Int32)]), ((aX 59), ia G 6 (fun _ => 0)), ((aX 60), ob 4 [.ref (aX 61), .int (0 : Int32), .int (0 : Int32), .int (0 : Int32), .int (0 : Int32), .int (0 : Int32), .int (0 : Int32), .int (19 : Int32), .int (0 : Int32), .int (0 : Int32), .int (0 : Int32)]), ((aX 61), ia G 200 (fun _ => 0)), ((aX 62), ob 5 [.ref (aX 63), .ref (aX 64), .ref (aX 65), .ref (aX 66), .ref (aX 67), .ref (aX 68), .ref (aX 69), .int (0 : Int32), .int (0 : Int32)]), ((aX 63), ia G 8 (fun _ => 0)), ((aX 64), ia G 8 (fun _ => 0)), ((aX 65), ia G 9 (fun _ => 0)), ((aX 66), ia G 200 (fun _ => 0)), ((aX 67), ia G 200 (fun _ => 0)), ((aX 68), ia G 200 (fun _ => 0)), ((aX 69), ia G 5 (fun _ => 0)), ((aX 70), ob 0 [.ref (aX 71), .ref (aX 72), .ref (aX 73), .ref (aX 74), .ref (aX 75), .ref (aX 76), .ref (aX 77)]), ((aX 71), ia G 4 flc_X0_init), ((aX 72), ia G 4 (fun _ => 0)), ((aX 73), ia G 160 (fun _ => 0)), ((aX 74), ia G 4 (fun _ => 0)), ((aX 75), ia G 4 (fun _ => 0)), ((aX 76), ia G 4 (fun _ => 0)), ((aX 77), ia G 4 (fun _ => 0)), ((aX 78), ob 7 [.ref (aX 79), .int (0 : Int32), .int (0 : Int32), .int (0 : Int32), .int (0 : Int32), .int (0 : Int32)]), ((aX 79), ia G 30 (fun _ => 0)), ((aX 80), ia G 200 (fun _ => 0)), ((aX 81), ia G 12 (fun _ => 0))]) C h hO c_X9_init zi_L_12 [83] [0, 1, 2, 3, 4, 5, 6, 7, 8, 9, 10, 11, 12, 13, 14, 15, 16, 17, 18, 19, 20, 21, 22, 23, 24, 25, 26, 27, 28, 29, 30, 31, 32, 33, 34, 35, 36, 37, 38, 39, 40, 41, 42, 43, 44, 45, 46, 47, 48, 49, 50, 51, 52, 53, 54, 55, 56, 57, 58, 59, 60, 61, 62, 63, 64, 65, 66, 67, 68, 69, 70, 71, 72, 73, 74, 75, 76, 77, 78, 79, 80, 81, 82] rfl (by decide +kernel) rfl (by decide +kernel) (by decide +kernel) hl.1 (Nat.le_of_ble_eq_true rfl) ⟨Nat.le_of_ble_eq_true rfl, Nat.le_of_ble_eq_true rfl⟩ ⟨Nat.le_of_ble_eq_true rfl, Nat.le_of_ble_eq_true rfl⟩ dL_law_12 (fun aM H locs h => ?_)
  refine W.widen (k := 104) (n := 4935) (Nat.le_of_ble_eq_true rfl) (Nat.le_of_ble_eq_true rfl) ?_
  replace h : Wd G _ s (wLaw G hX aX hM aM x0 f0 y0 g0) H _ := h
  refine lv_astore_n (lv' := [(2, .ref hM), (1, .ref hX), (0, .ref b)]) hx hb dL_law_15 rfl hl (by decide) rfl (fun ls hl => ?_)
  refine lv_iconst (v := nI 0) hx hb dL_law_16 rfl ?_
  refine lv_istore_n (lv' := [(3, .int (nI 0)), (2, .ref hM), (1, .ref hX), (0, .ref b)]) hx hb dL_law_17 rfl hl (by decide) rfl (fun ls hl => ?_)
  exact law_loop C hr hlocks ⟨hX9, Nat.not_le.mpr hbl, hbl⟩ hL ⟨Nat.le_of_ble_eq_true rfl, Nat.le_of_ble_eq_true rfl⟩ (L + 1) 0 (by omega) (Nat.zero_le L) x0 f0 y0 g0 _ _ _ h REL0 (lv_sub hl [0, 3, 2, 1] rfl)
