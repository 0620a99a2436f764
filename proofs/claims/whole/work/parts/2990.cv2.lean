/-! ===== OWN KIT: a call that leaves many cells otherwise ===== -/
section OK9
variable {p : Program} {l : Launch} {e : Env} {R : Room} {s : State} {m : MethodId} {args : Array Value} {below : List Frame} {meth : Method} {c : Code} {H : Heap} {locs : List Loc} {cells slots : Nat} {Q : State → Prop}
variable {cc : ByteArray} {pc nL : Nat} {ls : Array Slot} {rest : List Value} {A : Nat → Prop} {G : Gt} {ws : va_W} {own : String}
theorem r_ciV2 {y : MethodName} {bytes : ByteArray} {maxL index n ci hc b : Nat} {ret : FieldType} {fs As st : List Value} {r : Int32} {wc wc' ws' : va_W} (C : CallFix p m c cc nL s args gw_tbl own) (h : Wd G A s ws H locs) (hF : mFi l G y bytes maxL ret hc (.ref b :: As) wc r wc') (lk : MLv own index y bytes maxL (some ret) n ci) (hn : As.length = n) (q0 : Nat) (he : ws[q0]? = some (b, ob ci fs)) (isC : List Nat) (hC : isC.map (fun i => ws[i]?) = wc.map some) (hnd : va_nd isC = true) (isK : List Nat) (cK : va_W) (N : Nat) (hC' : isC.map (fun i => ws'[i]?) = wc'.map some) (hNN : ws.length = N) (hll : ws'.length = N) (hKK : isK.map (fun i => ws'[i]?) = cK.map some) (hKK2 : isK.map (fun i => ws[i]?) = cK.map some) (hcov : (List.range N).all (fun k => isC.contains k || isK.contains k) = true) (hm' : ws'.map (fun q => q.1) = ws.map (fun q => q.1)) (hl : ls.size = nL) (hst : st = As.reverse ++ .ref b :: rest) (hcat : (rest.map fun v => v.category).sum ≤ 8) (hR : roomOk R cells slots hc) (hdg : decode cc pc = .ok (.invokevirtual index, 3))
    (kk : ∀ (H : Heap) (locs : List Loc), Wd G A s ws' H locs → W p l e R s m args below meth c H locs cells slots Q (F0 m (pc + 3) ls (.int r :: rest))) : W p l e R s m args below meth c H locs cells slots Q (F0 m pc ls st) := by
  obtain ⟨hFc, hpre⟩ := wd_pre h hC hnd
  subst hst
  have hrecv : ∃ cellB : Cell, H[b]? = some cellB ∧ cellB.vm.isStatics = false ∧ s.vm.findClass y.cls = some cellB.cls := by
    obtain ⟨⟨T, N, hcl⟩, -⟩ := lk
    exact va_recv h.1 h.2.1 hcl he
  refine va_calli (va_runV (As := As) (rest := rest) C (hF H.size) (lk.cw C hR) ⟨Pre.blind, hrecv, fun U hU hW => ⟨rfl, hpre U hU hW⟩⟩ rfl hn hl rfl (lv_room hcat) hdg ⟨hR.2.2.1, hR.2.2.2⟩) h.2.2.2.1 (fun q _ h => hFc q h) hFc (fun r' u t H1 locs1 ht hvm hw' hB hz1 hk1 hS1 => ?_)
  subst hw'
  obtain ⟨hP1, -, -⟩ := hB
  rw [ht] at hP1
  exact kk H1 locs1 (wd_call2 h hC hC' (out_of hNN hll hKK hKK2 hcov) hm' hk1 hP1 hS1)
end OK9
