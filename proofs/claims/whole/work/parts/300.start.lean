/-! ===== the law: what holds at its entry ===== -/
theorem nwi_0 : Cond.methodLinkNest RX3 97 yX8_nearsAlone RX8 ∈ lw_tbl := List.mem_of_getElem? (i := 496) (by decide +kernel)
theorem nwi_1 : Cond.methodLinkNest RX3 110 yX8_reachesAlone RX8 ∈ lw_tbl := List.mem_of_getElem? (i := 507) (by decide +kernel)
theorem nwi_2 : Cond.methodLinkNest RX3 123 yX8_isOrUnder RX8 ∈ lw_tbl := List.mem_of_getElem? (i := 531) (by decide +kernel)
theorem nwi_3 : Cond.methodLinkNest RX2 61 yX8_reachesAlone RX8 ∈ lw_tbl := List.mem_of_getElem? (i := 948) (by decide +kernel)
theorem nwi_4 : Cond.methodLinkNest RX2 64 yX8_nearsAlone RX8 ∈ lw_tbl := List.mem_of_getElem? (i := 949) (by decide +kernel)
theorem nwi_5 : Cond.methodLinkNest RX8 21 yX6_init RX8 ∈ lw_tbl := List.mem_of_getElem? (i := 281) (by decide +kernel)
theorem nwi_6 : Cond.methodLinkNest RX8 35 yX4_init RX8 ∈ lw_tbl := List.mem_of_getElem? (i := 328) (by decide +kernel)
theorem nwi_7 : Cond.methodLinkNest RX8 42 yX5_init RX8 ∈ lw_tbl := List.mem_of_getElem? (i := 367) (by decide +kernel)
theorem nwi_8 : Cond.methodLinkNest RX8 56 yX7_init RX8 ∈ lw_tbl := List.mem_of_getElem? (i := 399) (by decide +kernel)
theorem nwi_9 : Cond.methodLinkNest RX1 43 yX6_init RX8 ∈ lw_tbl := List.mem_of_getElem? (i := 290) (by decide +kernel)
theorem nwi_10 : Cond.methodLinkNest RX3 32 yX6_init RX8 ∈ lw_tbl := List.mem_of_getElem? (i := 134) (by decide +kernel)
theorem nwi_11 : Cond.methodLinkNest RX3 39 yX5_init RX8 ∈ lw_tbl := List.mem_of_getElem? (i := 165) (by decide +kernel)
theorem nwi_12 : Cond.methodLinkNest RX3 46 yX2_init RX8 ∈ lw_tbl := List.mem_of_getElem? (i := 204) (by decide +kernel)
def fl0 : List Cond := flatC (Jvm.Cond.and given_1 narrow_1)
section ST1
variable {s : State} {b : Nat}
theorem st_nw (hts : ∀ w ∈ lw_tbl, w.before #[Value.ref b] s = true) : Nw s := by
  intro q hq
  have key : ∀ q ∈ nw_l, Cond.methodLinkNest q.1 q.2.1 q.2.2.1 q.2.2.2 ∈ lw_tbl := List.forall_mem_cons.mpr ⟨nwi_0, List.forall_mem_cons.mpr ⟨nwi_1, List.forall_mem_cons.mpr ⟨nwi_2, List.forall_mem_cons.mpr ⟨nwi_3, List.forall_mem_cons.mpr ⟨nwi_4, List.forall_mem_cons.mpr ⟨nwi_5, List.forall_mem_cons.mpr ⟨nwi_6, List.forall_mem_cons.mpr ⟨nwi_7, List.forall_mem_cons.mpr ⟨nwi_8, List.forall_mem_cons.mpr ⟨nwi_9, List.forall_mem_cons.mpr ⟨nwi_10, List.forall_mem_cons.mpr ⟨nwi_11, List.forall_mem_cons.mpr ⟨nwi_12, fun _ h => absurd h List.not_mem_nil⟩⟩⟩⟩⟩⟩⟩⟩⟩⟩⟩⟩⟩
  exact va_Nw.of rfl (hts _ (key q hq))
theorem sz_len {args : Array Value} {tm : Term} {N t : Nat} {cell : Cell} (hlen : (Term.length tm).eval args s none [] s = some (.int (Int32.ofNat N))) (ht : tm.eval args s none [] s = some (.ref t)) (hc : s.heap[t]? = some cell) (hN : N < 2 ^ 31) : cell.slots.size = N := by
  have hlen2 := hlen
  obtain ⟨a, cell2, ht2, hat, hv⟩ := Term.length_spec hlen
  cases ht.symm.trans ht2
  have h1 := (State.arrayAt?_spec hat).1
  cases hc.symm.trans h1
  have hsz : cell.slots.size < 2 ^ 31 := by
    simp only [Term.eval, ht, hat, Option.bind_eq_bind, Option.bind_some] at hlen2
    by_cases hlt : cell.slots.size < 2147483648
    · exact hlt
    · simp [hlt] at hlen2
  have e : Int32.ofNat N = Int32.ofNat cell.slots.size := Value.int.inj hv
  exact ((nI_eq hN hsz).mp e).symm
theorem st_SA (hts : ∀ w ∈ lw_tbl, w.before #[Value.ref b] s = true) (hfl : ∀ w ∈ fl0, w.before #[Value.ref b] s = true) : ∃ aS : Nat, va_Z "LightHalves" "SELF_AND_ABOVE" "[I" (.ref aS) (fun q => s.heap.size ≤ q) s s.heap ∧ va_X aS 6 tb_SA s s.heap ∧ ¬ (fun q => s.heap.size ≤ q) aS ∧ aS < s.heap.size := by
  have hA : ∀ a : Nat, a < s.heap.size → ¬ (fun q => s.heap.size ≤ q) a := fun a h => Nat.not_le.mpr h
  have f : ∀ (i : Nat) (w : Cond), fl0[i]? = some w → w.before #[Value.ref b] s = true := fun i w h => hfl w (List.mem_of_getElem? h)
  have harr : (Cond.arrayOf (.static "LightHalves" "SELF_AND_ABOVE" "[I") .int).before #[Value.ref b] s = true := f 5 _ (by decide +kernel)
  have hlen : (Term.length (.static "LightHalves" "SELF_AND_ABOVE" "[I")).eval #[Value.ref b] s none [] s = some (.int (Int32.ofNat 6)) := va_eqt (f 6 _ (by decide +kernel))
  have hel : ∀ j : Nat, j < 6 → (Term.elem (.static "LightHalves" "SELF_AND_ABOVE" "[I") (.int (Int32.ofNat j))).eval #[Value.ref b] s none [] s = some (.int (tb_SA j)) := by
    have tab : ∀ j : Nat, j < 6 → fl0[7 + j]? = some (Cond.eq (.elem (.static "LightHalves" "SELF_AND_ABOVE" "[I") (.int (Int32.ofNat j))) (.int (tb_SA j))) := by decide +kernel
    exact fun j hj => va_eqt (f _ _ (tab j hj))
  obtain ⟨t, ht, hT⟩ := va_Tof (f := fun j => .int (tb_SA j)) (by decide) harr hlen hel hA
  obtain ⟨cell, c1, c2, c3, c4, c5, c6, c7⟩ := hT
  have hlt : t < s.heap.size := Nat.not_le.mp c7
  exact ⟨t, va_Zof (hts _ (List.mem_of_getElem? (i := 535) (by decide +kernel))) (hts (.initialized "LightHalves") (List.mem_of_getElem? (i := 100) (by decide +kernel))) ht hA, ⟨cell, c1, c2, c3, sz_len hlen ht c1 (by decide), c6⟩, c7, hlt⟩
theorem st_W (hts : ∀ w ∈ lw_tbl, w.before #[Value.ref b] s = true) (hfl : ∀ w ∈ fl0, w.before #[Value.ref b] s = true) : ∃ w : Nat × Nat, vk_R RX4 73 wd_text w.1 s ∧ vk_S 1 wd_len wd_byt (fun _ => w.1) (fun _ => w.2) (fun q => s.heap.size ≤ q) s s.heap := by
  have hA : ∀ a : Nat, a < s.heap.size → ¬ (fun q => s.heap.size ≤ q) a := fun a h => Nat.not_le.mpr h
  have f : ∀ (i : Nat) (w : Cond), fl0[i]? = some w → w.before #[Value.ref b] s = true := fun i w h => hfl w (List.mem_of_getElem? h)
  have tab : ∀ j : Nat, j < 100 → fl0[22 + j]? = some (Cond.eq (.elem (.field (.string "LightHalves$RuleReader" 73) "java/lang/String" "value" "[B") (.int (Int32.ofNat j))) (.int ((wd_byt.getD 0 []).getD j 0))) := by decide +kernel
  obtain ⟨adK, adV, h1, h2⟩ := vk_Sof (N := 1) (tm := fun _ => Term.string "LightHalves$RuleReader" 73) (len := wd_len) (byt := wd_byt) (args := #[Value.ref b]) (s := s) (A := fun q => s.heap.size ≤ q) (fun i hi => by
      rw [show i = 0 by omega]; decide) (fun i hi => f 18 _ (by decide +kernel)) (fun i hi => f 19 _ (by decide +kernel)) (fun i hi => f 20 _ (by decide +kernel)) (fun i hi => by
      rw [show i = 0 by omega]; exact f 21 _ (by decide +kernel)) (fun i hi j hj => by
      have e : i = 0 := by omega
      subst e
      exact f _ _ (tab j hj)) (fun i j hi hj hne => absurd (show i = j by omega) hne) hA
  refine ⟨(adK 0, adV 0), vk_R.of (hts (.stringRef "LightHalves$RuleReader" 73 wd_text) (List.mem_of_getElem? (i := 620) (by decide +kernel))) (h2 0 (by decide)), fun i hi => ?_, fun i j hi hj _ => by omega⟩
  have e : i = 0 := by omega
  subst e
  exact h1.1 0 (by decide)
theorem st_ev (hts : ∀ w ∈ lw_tbl, w.before #[Value.ref b] s = true) (hfl : ∀ w ∈ fl0, w.before #[Value.ref b] s = true) : ∃ w : Nat × Nat, Ev w (fun q => s.heap.size ≤ q) s s.heap := by
  have hA : ∀ a : Nat, a < s.heap.size → ¬ (fun q => s.heap.size ≤ q) a := fun a h => Nat.not_le.mpr h
  have f : ∀ (i : Nat) (w : Cond), fl0[i]? = some w → w.before #[Value.ref b] s = true := fun i w h => hfl w (List.mem_of_getElem? h)
  obtain ⟨w, h1, h2⟩ := st_W hts hfl
  refine ⟨w, st_nw hts, st_SA hts hfl, h1, h2, va_Zof (hts _ (List.mem_of_getElem? (i := 630) (by decide +kernel))) (hts (.initialized "java/lang/String") (List.mem_of_getElem? (i := 112) (by decide +kernel))) (va_eqi (f 13 _ (by decide +kernel))) hA, ?_⟩
  rcases va_Zqof (args := #[Value.ref b]) (s := s) (C := "jdk/internal/util/Preconditions") (n := "SIOOBE_FORMATTER") (d := "Ljava/util/function/BiFunction;") (A := fun q => s.heap.size ≤ q) (hts _ (List.mem_of_getElem? (i := 646) (by decide +kernel))) (hts _ (List.mem_of_getElem? (i := 114) (by decide +kernel))) (f 14 _ (by decide +kernel)) hA with h | ⟨t, h⟩
  · exact ⟨.null, Or.inl rfl, h⟩
  · exact ⟨.ref t, Or.inr ⟨t, rfl⟩, h⟩
theorem st_K (hts : ∀ w ∈ lw_tbl, w.before #[Value.ref b] s = true) : ∃ (D : va_G) (cI cC cS : ClassId), ∀ w : Nat × Nat, va_K D vwCl (gty (D, cI, cC, cS, w.1, w.2)) s := by
  have hg : ∀ w ∈ gw_tbl, w.before #[Value.ref b] s = true := fun w hw => hts w (List.mem_filter.mp hw).1
  obtain ⟨cX0, iX0, kX0⟩ := u_known (C := RX0) (T := TX0) (N := 7) (n := 7) hg iw_X0 (hg (.instantiable RX0 7) (gw_in 369 (by decide +kernel) (by decide +kernel)))
  obtain ⟨cX1, iX1, kX1⟩ := u_known (C := RX1) (T := TX1) (N := 9) (n := 9) hg iw_X1 (hg (.instantiable RX1 9) (gw_in 283 (by decide +kernel) (by decide +kernel)))
  obtain ⟨cX2, iX2, kX2⟩ := u_known (C := RX2) (T := TX2) (N := 5) (n := 5) hg iw_X2 (hg (.instantiable RX2 5) (gw_in 203 (by decide +kernel) (by decide +kernel)))
  obtain ⟨cX3, iX3, kX3⟩ := u_known (C := RX3) (T := TX3) (N := 12) (n := 12) hg iw_X3 (hg (.instantiable RX3 12) (gw_in 127 (by decide +kernel) (by decide +kernel)))
  obtain ⟨cX4, iX4, kX4⟩ := u_known (C := RX4) (T := TX4) (N := 11) (n := 11) hg iw_X4 (hg (.instantiable RX4 11) (gw_in 327 (by decide +kernel) (by decide +kernel)))
  obtain ⟨cX5, iX5, kX5⟩ := u_known (C := RX5) (T := TX5) (N := 9) (n := 9) hg iw_X5 (hg (.instantiable RX5 9) (gw_in 164 (by decide +kernel) (by decide +kernel)))
  obtain ⟨cX6, iX6, kX6⟩ := u_known (C := RX6) (T := TX6) (N := 4) (n := 4) hg iw_X6 (hg (.instantiable RX6 4) (gw_in 133 (by decide +kernel) (by decide +kernel)))
  obtain ⟨cX7, iX7, kX7⟩ := u_known (C := RX7) (T := TX7) (N := 6) (n := 6) hg iw_X7 (hg (.instantiable RX7 6) (gw_in 398 (by decide +kernel) (by decide +kernel)))
  obtain ⟨cX8, iX8, kX8⟩ := u_known (C := RX8) (T := TX8) (N := 13) (n := 13) hg iw_X8 (hg (.instantiable RX8 13) (gw_in 119 (by decide +kernel) (by decide +kernel)))
  obtain ⟨cX9, iX9, kX9⟩ := u_known (C := RX9) (T := TX9) (N := 37) (n := 37) hg iw_X9 (hg (.instantiable RX9 37) (gw_in 1189 (by decide +kernel) (by decide +kernel)))
  obtain ⟨cI, kI, compI, i1, i2, i3⟩ := Cond.arrayClass_spec (hg (.arrayClass .int) (gw_in 162 (by decide +kernel) (by decide +kernel)))
  obtain ⟨cC, kC, compC, j1, j2, j3⟩ := Cond.arrayClass_spec (hg (.arrayClass .char) (gw_in 1306 (by decide +kernel) (by decide +kernel)))
  obtain ⟨compS, cS, kS, s1, -, s2, s3, s4⟩ := Cond.arrayOver_spec (hts (.arrayOver (.object "LightHalves$Standing")) (List.mem_of_getElem? (i := 289) (by decide +kernel)))
  refine ⟨(fun k => ([cX0, cX1, cX2, cX3, cX4, cX5, cX6, cX7, cX8, cX9] : List ClassId).getD k 0, fun k => ([iX0, iX1, iX2, iX3, iX4, iX5, iX6, iX7, iX8, iX9] : List (Nat → Nat)).getD k (fun _ => 0)), cI, cC, cS, fun w => ⟨fun k q hq => ?_, fun k q hq => ?_⟩⟩
  · match k, hq with
    | 0, hq => cases hq; exact kX0
    | 1, hq => cases hq; exact kX1
    | 2, hq => cases hq; exact kX2
    | 3, hq => cases hq; exact kX3
    | 4, hq => cases hq; exact kX4
    | 5, hq => cases hq; exact kX5
    | 6, hq => cases hq; exact kX6
    | 7, hq => cases hq; exact kX7
    | 8, hq => cases hq; exact kX8
    | 9, hq => cases hq; exact kX9
    | k + 10, hq => simp [vwCl] at hq
  · match k, hq with
    | 0, hq => cases hq; exact ⟨fun n z => ⟨fun k h => (by cases h), kI, i2, compI, i3⟩, i1⟩
    | 1, hq => cases hq; exact ⟨fun n z => ⟨fun k h => (by cases h), kC, j2, compC, j3⟩, j1⟩
    | 2, hq => cases hq; exact ⟨fun n z => ⟨fun k h => (by cases h), kS, s2, compS, s3⟩, kS, compS, s2, s3, s1, s4⟩
    | k + 3, hq => simp at hq
end ST1
