/-! ===== OWN KIT: calls that change many cells ===== -/
theorem out_of {ws ws' : va_W} {isC isK : List Nat} {N : Nat} (hN : ws.length = N) (hl : ws'.length = N) {cK : va_W} (hK1 : isK.map (fun i => ws'[i]?) = cK.map some) (hK2 : isK.map (fun i => ws[i]?) = cK.map some) (hcov : (List.range N).all (fun k => isC.contains k || isK.contains k) = true) : ∀ k, k ∉ isC → ws'[k]? = ws[k]? := by
  intro k hk
  by_cases h : k < N
  · have h1 := List.all_eq_true.mp hcov k (List.mem_range.mpr h)
    have h2 : k ∈ isK := by
      rcases Bool.or_eq_true_iff.mp h1 with h1 | h1
      · exact absurd (by simpa using h1) hk
      · simpa using h1
    obtain ⟨j, hj⟩ := List.getElem?_of_mem h2
    have h3 : (isK.map (fun i => ws'[i]?))[j]? = (isK.map (fun i => ws[i]?))[j]? := by rw [hK1, hK2]
    rw [List.getElem?_map, List.getElem?_map, hj] at h3
    exact Option.some.inj h3
  · rw [List.getElem?_eq_none (by omega), List.getElem?_eq_none (by omega)]
section OK7
variable {p : Program} {l : Launch} {e : Env} {R : Room} {s : State} {m : MethodId} {args : Array Value} {below : List Frame} {meth : Method} {c : Code} {H : Heap} {locs : List Loc} {cells slots : Nat} {Q : State → Prop}
variable {cc : ByteArray} {pc nL : Nat} {ls : Array Slot} {rest : List Value} {A : Nat → Prop} {G : Gt} {ws : va_W} {own : String}
theorem wd_call2 {wc wc' ws' : va_W} {H1 : Heap} {locs1 : List Loc} {isC : List Nat} (h : Wd G A s ws H locs) (hC : isC.map (fun i => ws[i]?) = wc.map some) (hC' : isC.map (fun i => ws'[i]?) = wc'.map some) (hM : ∀ k, k ∉ isC → ws'[k]? = ws[k]?) (hm' : ws'.map (fun q => q.1) = ws.map (fun q => q.1))
    (hk : ∀ q : Nat, q < H.size → ¬ va_A wc H.size q → H1[q]? = H[q]?) (hP1 : va_P G.1 vwCl wc' H1) (hS1 : va_S A s.heap H1 locs1) : Wd G A s ws' H1 locs1 := by
  obtain ⟨hK, hP, hD, hS, hA, hE⟩ := h
  refine ⟨hK, fun k q hq => ?_, va_D.addr hm' hD, hS1, hA, hE⟩
  by_cases hkC : k ∈ isC
  · obtain ⟨j, hj⟩ := List.getElem?_of_mem hkC
    have h1 : (isC.map (fun i => ws'[i]?))[j]? = some (some q) := by rw [List.getElem?_map, hj]; exact congrArg some hq
    rw [hC', List.getElem?_map] at h1
    cases hw : wc'[j]? with
    | none => rw [hw] at h1; cases h1
    | some q' =>
      rw [hw] at h1
      cases h1
      exact hP1 j q hw
  · have h2 : ws[k]? = some q := by rw [← hM k hkC]; exact hq
    have hl := (hP k q h2).lt
    refine (hP k q h2).kept (hk q.1 hl ?_)
    rintro (⟨k2, e2, h3⟩ | h3)
    · obtain ⟨i, h4, h5⟩ := at_of hC k2 (q.1, e2) h3
      have := hD.1 i k (q.1, e2) q h5 h2 rfl
      subst this
      exact hkC (List.mem_of_getElem? h4)
    · omega
theorem r_cvV2 {y : MethodName} {bytes : ByteArray} {maxL index n ci hc b : Nat} {fs As st : List Value} {wc wc' ws' : va_W} (C : CallFix p m c cc nL s args gw_tbl own) (h : Wd G A s ws H locs) (hF : mFv l G y bytes maxL hc (.ref b :: As) wc wc') (lk : MLv own index y bytes maxL none n ci) (hn : As.length = n) (q0 : Nat) (he : ws[q0]? = some (b, ob ci fs)) (isC : List Nat) (hC : isC.map (fun i => ws[i]?) = wc.map some) (hnd : va_nd isC = true) (isK : List Nat) (cK : va_W) (N : Nat) (hC' : isC.map (fun i => ws'[i]?) = wc'.map some) (hNN : ws.length = N) (hll : ws'.length = N) (hKK : isK.map (fun i => ws'[i]?) = cK.map some) (hKK2 : isK.map (fun i => ws[i]?) = cK.map some) (hcov : (List.range N).all (fun k => isC.contains k || isK.contains k) = true) (hm' : ws'.map (fun q => q.1) = ws.map (fun q => q.1)) (hl : ls.size = nL) (hst : st = As.reverse ++ .ref b :: rest) (hcat : (rest.map fun v => v.category).sum ≤ 8) (hR : roomOk R cells slots hc) (hdg : decode cc pc = .ok (.invokevirtual index, 3))
    (kk : ∀ (H : Heap) (locs : List Loc), Wd G A s ws' H locs → W p l e R s m args below meth c H locs cells slots Q (F0 m (pc + 3) ls rest)) : W p l e R s m args below meth c H locs cells slots Q (F0 m pc ls st) := by
  obtain ⟨hFc, hpre⟩ := wd_pre h hC hnd
  subst hst
  have hrecv : ∃ cellB : Cell, H[b]? = some cellB ∧ cellB.vm.isStatics = false ∧ s.vm.findClass y.cls = some cellB.cls := by
    obtain ⟨⟨T, N, hcl⟩, -⟩ := lk
    exact va_recv h.1 h.2.1 hcl he
  refine va_callv (va_runV (As := As) (rest := rest) C (hF H.size) (lk.cw C hR) ⟨Pre.blind, hrecv, fun U hU hW => ⟨rfl, hpre U hU hW⟩⟩ rfl hn hl rfl (lv_room hcat) hdg ⟨hR.2.2.1, hR.2.2.2⟩) h.2.2.2.1 (fun q _ h => hFc q h) hFc (fun u t H1 locs1 ht hvm hw' hB hz1 hk1 hS1 => ?_)
  obtain ⟨hP1, -, -⟩ := hB
  rw [ht] at hP1
  exact kk H1 locs1 (wd_call2 h hC hC' (out_of hNN hll hKK hKK2 hcov) hm' hk1 hP1 hS1)
end OK7
