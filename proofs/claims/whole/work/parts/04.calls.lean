/-! ===== OWN KIT: calls ===== -/
/-- cells put at their places -/
def upl : va_W → List Nat → va_W → va_W
  | ws, [], _ => ws
  | ws, _ :: _, [] => ws
  | ws, i :: is, w :: wc => upl (ws.set i w) is wc
theorem upl_get : ∀ (is : List Nat) (ws wc : va_W) (k : Nat), k ∉ is → (upl ws is wc)[k]? = ws[k]? := by
  intro is
  induction is with
  | nil => intro ws wc k _; cases wc <;> rfl
  | cons i is ih =>
    intro ws wc k hk
    cases wc with
    | nil => rfl
    | cons w wc =>
      rw [show upl ws (i :: is) (w :: wc) = upl (ws.set i w) is wc from rfl, ih _ _ _ (fun z => hk (List.mem_cons_of_mem _ z)), List.getElem?_set_ne (fun e => hk (by rw [e]; exact List.mem_cons_self))]
def subl (is l : List Nat) : Bool := is.all (fun k => l.contains k)
theorem subl_mem {is l : List Nat} (h : subl is l = true) {k : Nat} (hk : k ∈ is) : k ∈ l := by
  have h1 := List.all_eq_true.mp h k hk
  simpa using h1
theorem va_D.addr {A : Nat → Prop} {ws ws' : va_W} (hm : ws'.map (fun q => q.1) = ws.map (fun q => q.1)) (h : va_D A ws) : va_D A ws' := by
  have key : ∀ (k : Nat) (q : Nat × va_E), ws'[k]? = some q → ∃ p : Nat × va_E, ws[k]? = some p ∧ p.1 = q.1 := by
    intro k q hq
    have h1 : (ws'.map (fun q => q.1))[k]? = some q.1 := by rw [List.getElem?_map, hq]; rfl
    rw [hm, List.getElem?_map] at h1
    cases hp : ws[k]? with
    | none => rw [hp] at h1; cases h1
    | some p => rw [hp] at h1; exact ⟨p, rfl, Option.some.inj h1⟩
  refine ⟨fun i j p q hp hq hpq => ?_, fun k q hq => ?_⟩
  · obtain ⟨p', a1, a2⟩ := key i p hp
    obtain ⟨q', b1, b2⟩ := key j q hq
    exact h.1 i j p' q' a1 b1 (by rw [a2, b2]; exact hpq)
  · obtain ⟨p', a1, a2⟩ := key k q hq
    rw [← a2]
    exact h.2 k p' a1
theorem at_of {ws wc : va_W} {is : List Nat} (hs : is.map (fun i => ws[i]?) = wc.map some) (k : Nat) (q : Nat × va_E) (hq : wc[k]? = some q) : ∃ i, is[k]? = some i ∧ ws[i]? = some q := by
  have h1 : (is.map (fun i => ws[i]?))[k]? = some (some q) := by rw [hs, List.getElem?_map, hq]; rfl
  rw [List.getElem?_map] at h1
  cases hi : is[k]? with
  | none => rw [hi] at h1; cases h1
  | some i => rw [hi] at h1; exact ⟨i, rfl, Option.some.inj h1⟩
section OK2
variable {p : Program} {l : Launch} {e : Env} {R : Room} {s : State} {m : MethodId} {args : Array Value} {below : List Frame} {meth : Method} {c : Code} {H : Heap} {locs : List Loc} {cells slots : Nat} {Q : State → Prop}
variable {cc : ByteArray} {pc nL : Nat} {ls : Array Slot} {rest : List Value} {A : Nat → Prop} {G : Gt} {ws : va_W} {own : String}
theorem wd_call {wc wc' ws' : va_W} {H1 : Heap} {locs1 : List Loc} {isC isM : List Nat} {cM : va_W} (h : Wd G A s ws H locs) (hC : isC.map (fun i => ws[i]?) = wc.map some) (hC' : isC.map (fun i => ws'[i]?) = wc'.map some) (hM : upl ws isM cM = ws') (hsub : subl isM isC = true) (hm' : ws'.map (fun q => q.1) = ws.map (fun q => q.1))
    (hk : ∀ q : Nat, q < H.size → ¬ va_A wc H.size q → H1[q]? = H[q]?) (hP1 : va_P G.1 vwCl wc' H1) (hS1 : va_S A s.heap H1 locs1) : Wd G A s ws' H1 locs1 := by
  obtain ⟨hK, hP, hD, hS, hA, hE⟩ := h
  refine ⟨hK, fun k q hq => ?_, va_D.addr hm' hD, hS1, hA, hE⟩
  by_cases hkC : k ∈ isC
  · obtain ⟨j, hj⟩ := List.getElem?_of_mem hkC
    have h1 : (isC.map (fun i => ws'[i]?))[j]? = some (some q) := by rw [List.getElem?_map, hj]; exact congrArg some hq
    rw [hC', List.getElem?_map] at h1
    cases hw : wc'[j]? with
    | none => rw [hw] at h1; cases h1
    | some q' =>
      rw [hw] at h1
      cases h1
      exact hP1 j q hw
  · have h2 : ws[k]? = some q := by rw [← hM, upl_get isM ws cM k (fun z => hkC (subl_mem hsub z))] at hq; exact hq
    have hl := (hP k q h2).lt
    refine (hP k q h2).kept (hk q.1 hl ?_)
    rintro (⟨k2, e2, h3⟩ | h3)
    · obtain ⟨i, h4, h5⟩ := at_of hC k2 (q.1, e2) h3
      have := hD.1 i k (q.1, e2) q h5 h2 rfl
      subst this
      exact hkC (List.mem_of_getElem? h4)
    · omega
theorem wd_call0 {wc : va_W} {H1 : Heap} {locs1 : List Loc} {isC : List Nat} (h : Wd G A s ws H locs) (hC : isC.map (fun i => ws[i]?) = wc.map some)
    (hk : ∀ q : Nat, q < H.size → ¬ va_A wc H.size q → H1[q]? = H[q]?) (hP1 : va_P G.1 vwCl wc H1) (hS1 : va_S A s.heap H1 locs1) : Wd G A s ws H1 locs1 := by
  obtain ⟨hK, hP, hD, hS, hA, hE⟩ := h
  refine ⟨hK, fun k q hq => ?_, hD, hS1, hA, hE⟩
  by_cases hkC : k ∈ isC
  · obtain ⟨j, hj⟩ := List.getElem?_of_mem hkC
    have h1 : (isC.map (fun i => ws[i]?))[j]? = some (some q) := by rw [List.getElem?_map, hj]; exact congrArg some hq
    rw [hC, List.getElem?_map] at h1
    cases hw : wc[j]? with
    | none => rw [hw] at h1; cases h1
    | some q' =>
      rw [hw] at h1
      cases h1
      exact hP1 j q hw
  · have hl := (hP k q hq).lt
    refine (hP k q hq).kept (hk q.1 hl ?_)
    rintro (⟨k2, e2, h3⟩ | h3)
    · obtain ⟨i, h4, h5⟩ := at_of hC k2 (q.1, e2) h3
      have := hD.1 i k (q.1, e2) q h5 hq rfl
      subst this
      exact hkC (List.mem_of_getElem? h4)
    · omega
theorem wd_pre {wc : va_W} {isC : List Nat} (h : Wd G A s ws H locs) (hC : isC.map (fun i => ws[i]?) = wc.map some) (hnd : va_nd isC = true) : (∀ q, va_A wc H.size q → A q) ∧ ∀ U : State, U.heap = H → s.WarmedH U.vm → Pre G wc H.size U := by
  obtain ⟨hK, hP, hD, hS, hA, hE⟩ := h
  have hF := va_free hD hS hA isC hC
  refine ⟨hF, fun U hU hW => ⟨by rw [hU], ?_, va_K.moved hW.alike hK, (hD.sub isC hnd hC).weaken (fun _ _ _ _ => trivial), ?_⟩⟩
  · rw [hU]
    intro k q hq
    obtain ⟨i, -, h5⟩ := at_of hC k q hq
    exact hP i q h5
  · rw [hU]
    exact Ev.narrow hF (Ev.warm hW (Ev.kept hS.1 hS.2.1 hE))
def okY (y : MethodName) (n maxL : Nat) : Prop := y.cls ≠ "java/lang/invoke/MethodHandle" ∧ y.cls ≠ "java/lang/invoke/VarHandle" ∧ (parseMethodDescriptor y.desc).map (fun d => d.parameters.length) = some n ∧ maxL ≤ 80
def MLv (own : String) (index : Nat) (y : MethodName) (bytes : ByteArray) (maxL : Nat) (ret : Option FieldType) (n ci : Nat) : Prop := (∃ (T : u_T) (N : Nat), vwCl[ci]? = some (y.cls, T, N)) ∧ Cond.methodLink own index y ∈ gw_tbl ∧ Cond.instanceMethod y ∈ gw_tbl ∧ Cond.selects y.cls y y ∈ gw_tbl ∧ Cond.initialized y.cls ∈ gw_tbl ∧ Cond.code y bytes maxL ret ∈ gw_tbl ∧ okY y n maxL
def MLs (own : String) (index : Nat) (y : MethodName) (bytes : ByteArray) (maxL : Nat) (ret : Option FieldType) (n : Nat) : Prop := Cond.methodLink own index y ∈ gw_tbl ∧ Cond.static y ∈ gw_tbl ∧ Cond.initialized y.cls ∈ gw_tbl ∧ Cond.code y bytes maxL ret ∈ gw_tbl ∧ okY y n maxL
def MLn (own : String) (index : Nat) (y : MethodName) (bytes : ByteArray) (maxL : Nat) (ret : Option FieldType) (n : Nat) : Prop := (own, index, y, RX8) ∈ nw_l ∧ Cond.static y ∈ gw_tbl ∧ Cond.initialized y.cls ∈ gw_tbl ∧ Cond.code y bytes maxL ret ∈ gw_tbl ∧ okY y n maxL
abbrev roomOk (R : Room) (cells slots hc : Nat) : Prop := hc + 1 ≤ R.frames ∧ 100 * hc + 100 ≤ R.locals ∧ cells ≤ R.cells ∧ slots ≤ R.slots
theorem rok {hh hc : Nat} (h : hc + 1 ≤ hh) : roomOk (rmh hh) 0 0 hc := ⟨h, by show 100 * hc + 100 ≤ 100 * hh; omega, Nat.le_refl 0, Nat.le_refl 0⟩
theorem gw_cons {y : MethodName} {bytes : ByteArray} {maxL : Nat} {ret : Option FieldType} (h : Cond.code y bytes maxL ret ∈ gw_tbl) : GoodIn gw_tbl (.code y bytes maxL ret :: gw_tbl) := gw_GoodIn (fun w hw => (List.mem_cons.mp hw).elim (fun e => by rw [e]; exact h) id)
theorem MLv.cw {y : MethodName} {bytes : ByteArray} {maxL index n ci hc : Nat} {ret : Option FieldType} (C : CallFix p m c cc nL s args gw_tbl own) (lk : MLv own index y bytes maxL ret n ci) (hR : roomOk R cells slots hc) : CallW R s args own y.cls index y bytes maxL ret (.code y bytes maxL ret :: gw_tbl) (rmh hc) 0 0 n := by
  obtain ⟨-, h1, h2, h3, h4, h5, h6, h7, h8, h9⟩ := lk
  refine cwV n C.2.2.2.2 (gw_GoodIn ?_) rfl rfl rfl ⟨rfl, h6, h7, h8⟩ ⟨hR.1, ?_⟩
  · intro w hw
    simp only [wsV, List.cons_append, List.nil_append, List.mem_cons] at hw
    rcases hw with rfl | rfl | rfl | rfl | rfl | hw
    · exact h1
    · exact h2
    · exact h3
    · exact h4
    · exact h5
    · exact hw
  · have := hR.2.1
    show 8 + (maxL + 11) + 100 * hc ≤ R.locals
    omega
theorem MLs.cw {y : MethodName} {bytes : ByteArray} {maxL index n hc : Nat} {ret : Option FieldType} (C : CallFix p m c cc nL s args gw_tbl own) (lk : MLs own index y bytes maxL ret n) (hR : roomOk R cells slots hc) : CallB R s args own index y bytes maxL ret (.code y bytes maxL ret :: gw_tbl) (rmh hc) 0 0 n ∧ (Cond.static y).before args s = true := by
  obtain ⟨h1, h2, h4, h5, h6, h7, h8, h9⟩ := lk
  refine va_cwS n C.2.2.2.2 (gw_GoodIn ?_) rfl rfl rfl ⟨h6, h7, h8⟩ ⟨hR.1, ?_⟩
  · intro w hw
    simp only [va_wsS, List.cons_append, List.nil_append, List.mem_cons] at hw
    rcases hw with rfl | rfl | rfl | rfl | hw
    · exact h1
    · exact h2
    · exact h4
    · exact h5
    · exact hw
  · have := hR.2.1
    show 8 + (maxL + 11) + 100 * hc ≤ R.locals
    omega
theorem MLn.cw {y : MethodName} {bytes : ByteArray} {maxL index n hc : Nat} {ret : Option FieldType} (C : CallFix p m c cc nL s args gw_tbl own) (hNw : Nw s) (lk : MLn own index y bytes maxL ret n) (hR : roomOk R cells slots hc) : va_CN R s args own index y RX8 bytes maxL ret (.code y bytes maxL ret :: gw_tbl) (rmh hc) 0 0 n ∧ (Cond.static y).before args s = true ∧ True := by
  obtain ⟨h1, h2, h4, h5, h6, h7, h8, h9⟩ := lk
  refine ⟨va_cnB n C.2.2.2.2 (gw_cons h5) rfl rfl rfl (hNw _ h1) (C.2.2.2.2 _ h4) ⟨h6, h7, h8⟩ ⟨hR.1, ?_⟩, C.2.2.2.2 _ h2, trivial⟩
  have := hR.2.1
  show 8 + (maxL + 11) + 100 * hc ≤ R.locals
  omega
/-- an instance method that answers an int -/
theorem r_ciV {y : MethodName} {bytes : ByteArray} {maxL index n ci hc b : Nat} {ret : FieldType} {fs As st : List Value} {r : Int32} {wc wc' ws' : va_W} (C : CallFix p m c cc nL s args gw_tbl own) (h : Wd G A s ws H locs) (hF : mFi l G y bytes maxL ret hc (.ref b :: As) wc r wc') (lk : MLv own index y bytes maxL (some ret) n ci) (hn : As.length = n) (q0 : Nat) (he : ws[q0]? = some (b, ob ci fs)) (isC : List Nat) (hC : isC.map (fun i => ws[i]?) = wc.map some) (hnd : va_nd isC = true) (isM : List Nat) (cM : va_W) (hC' : isC.map (fun i => ws'[i]?) = wc'.map some) (hM : upl ws isM cM = ws') (hsub : subl isM isC = true) (hm' : ws'.map (fun q => q.1) = ws.map (fun q => q.1)) (hl : ls.size = nL) (hst : st = As.reverse ++ .ref b :: rest) (hcat : (rest.map fun v => v.category).sum ≤ 8) (hR : roomOk R cells slots hc) (hdg : decode cc pc = .ok (.invokevirtual index, 3))
    (kk : ∀ (H : Heap) (locs : List Loc), Wd G A s ws' H locs → W p l e R s m args below meth c H locs cells slots Q (F0 m (pc + 3) ls (.int r :: rest))) : W p l e R s m args below meth c H locs cells slots Q (F0 m pc ls st) := by
  obtain ⟨hFc, hpre⟩ := wd_pre h hC hnd
  subst hst
  have hrecv : ∃ cellB : Cell, H[b]? = some cellB ∧ cellB.vm.isStatics = false ∧ s.vm.findClass y.cls = some cellB.cls := by
    obtain ⟨⟨T, N, hcl⟩, -⟩ := lk
    exact va_recv h.1 h.2.1 hcl he
  refine va_calli (va_runV (As := As) (rest := rest) C (hF H.size) (lk.cw C hR) ⟨Pre.blind, hrecv, fun U hU hW => ⟨rfl, hpre U hU hW⟩⟩ rfl hn hl rfl (lv_room hcat) hdg ⟨hR.2.2.1, hR.2.2.2⟩) h.2.2.2.1 (fun q _ h => hFc q h) hFc (fun r' u t H1 locs1 ht hvm hw' hB hz1 hk1 hS1 => ?_)
  subst hw'
  obtain ⟨hP1, -, -⟩ := hB
  rw [ht] at hP1
  exact kk H1 locs1 (wd_call h hC hC' hM hsub hm' hk1 hP1 hS1)
theorem r_cvV {y : MethodName} {bytes : ByteArray} {maxL index n ci hc b : Nat} {fs As st : List Value} {wc wc' ws' : va_W} (C : CallFix p m c cc nL s args gw_tbl own) (h : Wd G A s ws H locs) (hF : mFv l G y bytes maxL hc (.ref b :: As) wc wc') (lk : MLv own index y bytes maxL none n ci) (hn : As.length = n) (q0 : Nat) (he : ws[q0]? = some (b, ob ci fs)) (isC : List Nat) (hC : isC.map (fun i => ws[i]?) = wc.map some) (hnd : va_nd isC = true) (isM : List Nat) (cM : va_W) (hC' : isC.map (fun i => ws'[i]?) = wc'.map some) (hM : upl ws isM cM = ws') (hsub : subl isM isC = true) (hm' : ws'.map (fun q => q.1) = ws.map (fun q => q.1)) (hl : ls.size = nL) (hst : st = As.reverse ++ .ref b :: rest) (hcat : (rest.map fun v => v.category).sum ≤ 8) (hR : roomOk R cells slots hc) (hdg : decode cc pc = .ok (.invokevirtual index, 3))
    (kk : ∀ (H : Heap) (locs : List Loc), Wd G A s ws' H locs → W p l e R s m args below meth c H locs cells slots Q (F0 m (pc + 3) ls rest)) : W p l e R s m args below meth c H locs cells slots Q (F0 m pc ls st) := by
  obtain ⟨hFc, hpre⟩ := wd_pre h hC hnd
  subst hst
  have hrecv : ∃ cellB : Cell, H[b]? = some cellB ∧ cellB.vm.isStatics = false ∧ s.vm.findClass y.cls = some cellB.cls := by
    obtain ⟨⟨T, N, hcl⟩, -⟩ := lk
    exact va_recv h.1 h.2.1 hcl he
  refine va_callv (va_runV (As := As) (rest := rest) C (hF H.size) (lk.cw C hR) ⟨Pre.blind, hrecv, fun U hU hW => ⟨rfl, hpre U hU hW⟩⟩ rfl hn hl rfl (lv_room hcat) hdg ⟨hR.2.2.1, hR.2.2.2⟩) h.2.2.2.1 (fun q _ h => hFc q h) hFc (fun u t H1 locs1 ht hvm hw' hB hz1 hk1 hS1 => ?_)
  obtain ⟨hP1, -, -⟩ := hB
  rw [ht] at hP1
  exact kk H1 locs1 (wd_call h hC hC' hM hsub hm' hk1 hP1 hS1)
/-- a static method -/
theorem r_ciS {y : MethodName} {bytes : ByteArray} {maxL index n hc : Nat} {ret : FieldType} {As st : List Value} {r : Int32} {wc wc' ws' : va_W} (C : CallFix p m c cc nL s args gw_tbl own) (h : Wd G A s ws H locs) (hF : mFi l G y bytes maxL ret hc As wc r wc') (lk : MLs own index y bytes maxL (some ret) n) (hn : As.length = n) (isC : List Nat) (hC : isC.map (fun i => ws[i]?) = wc.map some) (hnd : va_nd isC = true) (isM : List Nat) (cM : va_W) (hC' : isC.map (fun i => ws'[i]?) = wc'.map some) (hM : upl ws isM cM = ws') (hsub : subl isM isC = true) (hm' : ws'.map (fun q => q.1) = ws.map (fun q => q.1)) (hl : ls.size = nL) (hst : st = As.reverse ++ rest) (hcat : (rest.map fun v => v.category).sum ≤ 8) (hR : roomOk R cells slots hc) (hdg : decode cc pc = .ok (.invokestatic index, 3))
    (kk : ∀ (H : Heap) (locs : List Loc), Wd G A s ws' H locs → W p l e R s m args below meth c H locs cells slots Q (F0 m (pc + 3) ls (.int r :: rest))) : W p l e R s m args below meth c H locs cells slots Q (F0 m pc ls st) := by
  obtain ⟨hFc, hpre⟩ := wd_pre h hC hnd
  subst hst
  refine va_calli (va_runS (As := As) (rest := rest) C (hF H.size) (lk.cw C hR) ⟨Pre.blind, fun U hU hW => ⟨rfl, hpre U hU hW⟩⟩ rfl hn hl rfl (lv_room hcat) hdg ⟨hR.2.2.1, hR.2.2.2⟩) h.2.2.2.1 (fun q _ h => hFc q h) hFc (fun r' u t H1 locs1 ht hvm hw' hB hz1 hk1 hS1 => ?_)
  subst hw'
  obtain ⟨hP1, -, -⟩ := hB
  rw [ht] at hP1
  exact kk H1 locs1 (wd_call h hC hC' hM hsub hm' hk1 hP1 hS1)
theorem r_cvS {y : MethodName} {bytes : ByteArray} {maxL index n hc : Nat} {As st : List Value} {wc wc' ws' : va_W} (C : CallFix p m c cc nL s args gw_tbl own) (h : Wd G A s ws H locs) (hF : mFv l G y bytes maxL hc As wc wc') (lk : MLs own index y bytes maxL none n) (hn : As.length = n) (isC : List Nat) (hC : isC.map (fun i => ws[i]?) = wc.map some) (hnd : va_nd isC = true) (isM : List Nat) (cM : va_W) (hC' : isC.map (fun i => ws'[i]?) = wc'.map some) (hM : upl ws isM cM = ws') (hsub : subl isM isC = true) (hm' : ws'.map (fun q => q.1) = ws.map (fun q => q.1)) (hl : ls.size = nL) (hst : st = As.reverse ++ rest) (hcat : (rest.map fun v => v.category).sum ≤ 8) (hR : roomOk R cells slots hc) (hdg : decode cc pc = .ok (.invokestatic index, 3))
    (kk : ∀ (H : Heap) (locs : List Loc), Wd G A s ws' H locs → W p l e R s m args below meth c H locs cells slots Q (F0 m (pc + 3) ls rest)) : W p l e R s m args below meth c H locs cells slots Q (F0 m pc ls st) := by
  obtain ⟨hFc, hpre⟩ := wd_pre h hC hnd
  subst hst
  refine va_callv (va_runS (As := As) (rest := rest) C (hF H.size) (lk.cw C hR) ⟨Pre.blind, fun U hU hW => ⟨rfl, hpre U hU hW⟩⟩ rfl hn hl rfl (lv_room hcat) hdg ⟨hR.2.2.1, hR.2.2.2⟩) h.2.2.2.1 (fun q _ h => hFc q h) hFc (fun u t H1 locs1 ht hvm hw' hB hz1 hk1 hS1 => ?_)
  obtain ⟨hP1, -, -⟩ := hB
  rw [ht] at hP1
  exact kk H1 locs1 (wd_call h hC hC' hM hsub hm' hk1 hP1 hS1)
/-- a private static method of the class around -/
theorem r_ciN {y : MethodName} {bytes : ByteArray} {maxL index n hc : Nat} {ret : FieldType} {As st : List Value} {r : Int32} {wc wc' ws' : va_W} (C : CallFix p m c cc nL s args gw_tbl own) (h : Wd G A s ws H locs) (hF : mFi l G y bytes maxL ret hc As wc r wc') (lk : MLn own index y bytes maxL (some ret) n) (hn : As.length = n) (isC : List Nat) (hC : isC.map (fun i => ws[i]?) = wc.map some) (hnd : va_nd isC = true) (isM : List Nat) (cM : va_W) (hC' : isC.map (fun i => ws'[i]?) = wc'.map some) (hM : upl ws isM cM = ws') (hsub : subl isM isC = true) (hm' : ws'.map (fun q => q.1) = ws.map (fun q => q.1)) (hl : ls.size = nL) (hst : st = As.reverse ++ rest) (hcat : (rest.map fun v => v.category).sum ≤ 8) (hR : roomOk R cells slots hc) (hdg : decode cc pc = .ok (.invokestatic index, 3))
    (kk : ∀ (H : Heap) (locs : List Loc), Wd G A s ws' H locs → W p l e R s m args below meth c H locs cells slots Q (F0 m (pc + 3) ls (.int r :: rest))) : W p l e R s m args below meth c H locs cells slots Q (F0 m pc ls st) := by
  obtain ⟨hFc, hpre⟩ := wd_pre h hC hnd
  subst hst
  refine va_calli (va_runSN (As := As) (rest := rest) C (hF H.size) (lk.cw C h.2.2.2.2.2.1 hR) ⟨Pre.blind, fun U hU hW => ⟨rfl, hpre U hU hW⟩⟩ rfl hn hl rfl (lv_room hcat) hdg ⟨hR.2.2.1, hR.2.2.2⟩) h.2.2.2.1 (fun q _ h => hFc q h) hFc (fun r' u t H1 locs1 ht hvm hw' hB hz1 hk1 hS1 => ?_)
  subst hw'
  obtain ⟨hP1, -, -⟩ := hB
  rw [ht] at hP1
  exact kk H1 locs1 (wd_call h hC hC' hM hsub hm' hk1 hP1 hS1)
theorem r_ciV0 {y : MethodName} {bytes : ByteArray} {maxL index n ci hc b : Nat} {ret : FieldType} {fs As st : List Value} {r : Int32} {wc : va_W} (C : CallFix p m c cc nL s args gw_tbl own) (h : Wd G A s ws H locs) (hF : mFi l G y bytes maxL ret hc (.ref b :: As) wc r wc) (lk : MLv own index y bytes maxL (some ret) n ci) (hn : As.length = n) (q0 : Nat) (he : ws[q0]? = some (b, ob ci fs)) (isC : List Nat) (hC : isC.map (fun i => ws[i]?) = wc.map some) (hnd : va_nd isC = true) (hl : ls.size = nL) (hst : st = As.reverse ++ .ref b :: rest) (hcat : (rest.map fun v => v.category).sum ≤ 8) (hR : roomOk R cells slots hc) (hdg : decode cc pc = .ok (.invokevirtual index, 3))
    (kk : ∀ (H : Heap) (locs : List Loc), Wd G A s ws H locs → W p l e R s m args below meth c H locs cells slots Q (F0 m (pc + 3) ls (.int r :: rest))) : W p l e R s m args below meth c H locs cells slots Q (F0 m pc ls st) := by
  obtain ⟨hFc, hpre⟩ := wd_pre h hC hnd
  subst hst
  have hrecv : ∃ cellB : Cell, H[b]? = some cellB ∧ cellB.vm.isStatics = false ∧ s.vm.findClass y.cls = some cellB.cls := by
    obtain ⟨⟨T, N, hcl⟩, -⟩ := lk
    exact va_recv h.1 h.2.1 hcl he
  refine va_calli (va_runV (As := As) (rest := rest) C (hF H.size) (lk.cw C hR) ⟨Pre.blind, hrecv, fun U hU hW => ⟨rfl, hpre U hU hW⟩⟩ rfl hn hl rfl (lv_room hcat) hdg ⟨hR.2.2.1, hR.2.2.2⟩) h.2.2.2.1 (fun q _ h => hFc q h) hFc (fun r' u t H1 locs1 ht hvm hw' hB hz1 hk1 hS1 => ?_)
  subst hw'
  obtain ⟨hP1, -, -⟩ := hB
  rw [ht] at hP1
  exact kk H1 locs1 (wd_call0 h hC hk1 hP1 hS1)
theorem r_cvV0 {y : MethodName} {bytes : ByteArray} {maxL index n ci hc b : Nat} {fs As st : List Value} {wc : va_W} (C : CallFix p m c cc nL s args gw_tbl own) (h : Wd G A s ws H locs) (hF : mFv l G y bytes maxL hc (.ref b :: As) wc wc) (lk : MLv own index y bytes maxL none n ci) (hn : As.length = n) (q0 : Nat) (he : ws[q0]? = some (b, ob ci fs)) (isC : List Nat) (hC : isC.map (fun i => ws[i]?) = wc.map some) (hnd : va_nd isC = true) (hl : ls.size = nL) (hst : st = As.reverse ++ .ref b :: rest) (hcat : (rest.map fun v => v.category).sum ≤ 8) (hR : roomOk R cells slots hc) (hdg : decode cc pc = .ok (.invokevirtual index, 3))
    (kk : ∀ (H : Heap) (locs : List Loc), Wd G A s ws H locs → W p l e R s m args below meth c H locs cells slots Q (F0 m (pc + 3) ls rest)) : W p l e R s m args below meth c H locs cells slots Q (F0 m pc ls st) := by
  obtain ⟨hFc, hpre⟩ := wd_pre h hC hnd
  subst hst
  have hrecv : ∃ cellB : Cell, H[b]? = some cellB ∧ cellB.vm.isStatics = false ∧ s.vm.findClass y.cls = some cellB.cls := by
    obtain ⟨⟨T, N, hcl⟩, -⟩ := lk
    exact va_recv h.1 h.2.1 hcl he
  refine va_callv (va_runV (As := As) (rest := rest) C (hF H.size) (lk.cw C hR) ⟨Pre.blind, hrecv, fun U hU hW => ⟨rfl, hpre U hU hW⟩⟩ rfl hn hl rfl (lv_room hcat) hdg ⟨hR.2.2.1, hR.2.2.2⟩) h.2.2.2.1 (fun q _ h => hFc q h) hFc (fun u t H1 locs1 ht hvm hw' hB hz1 hk1 hS1 => ?_)
  obtain ⟨hP1, -, -⟩ := hB
  rw [ht] at hP1
  exact kk H1 locs1 (wd_call0 h hC hk1 hP1 hS1)
theorem r_ciS0 {y : MethodName} {bytes : ByteArray} {maxL index n hc : Nat} {ret : FieldType} {As st : List Value} {r : Int32} {wc : va_W} (C : CallFix p m c cc nL s args gw_tbl own) (h : Wd G A s ws H locs) (hF : mFi l G y bytes maxL ret hc As wc r wc) (lk : MLs own index y bytes maxL (some ret) n) (hn : As.length = n) (isC : List Nat) (hC : isC.map (fun i => ws[i]?) = wc.map some) (hnd : va_nd isC = true) (hl : ls.size = nL) (hst : st = As.reverse ++ rest) (hcat : (rest.map fun v => v.category).sum ≤ 8) (hR : roomOk R cells slots hc) (hdg : decode cc pc = .ok (.invokestatic index, 3))
    (kk : ∀ (H : Heap) (locs : List Loc), Wd G A s ws H locs → W p l e R s m args below meth c H locs cells slots Q (F0 m (pc + 3) ls (.int r :: rest))) : W p l e R s m args below meth c H locs cells slots Q (F0 m pc ls st) := by
  obtain ⟨hFc, hpre⟩ := wd_pre h hC hnd
  subst hst
  refine va_calli (va_runS (As := As) (rest := rest) C (hF H.size) (lk.cw C hR) ⟨Pre.blind, fun U hU hW => ⟨rfl, hpre U hU hW⟩⟩ rfl hn hl rfl (lv_room hcat) hdg ⟨hR.2.2.1, hR.2.2.2⟩) h.2.2.2.1 (fun q _ h => hFc q h) hFc (fun r' u t H1 locs1 ht hvm hw' hB hz1 hk1 hS1 => ?_)
  subst hw'
  obtain ⟨hP1, -, -⟩ := hB
  rw [ht] at hP1
  exact kk H1 locs1 (wd_call0 h hC hk1 hP1 hS1)
theorem r_cvS0 {y : MethodName} {bytes : ByteArray} {maxL index n hc : Nat} {As st : List Value} {wc : va_W} (C : CallFix p m c cc nL s args gw_tbl own) (h : Wd G A s ws H locs) (hF : mFv l G y bytes maxL hc As wc wc) (lk : MLs own index y bytes maxL none n) (hn : As.length = n) (isC : List Nat) (hC : isC.map (fun i => ws[i]?) = wc.map some) (hnd : va_nd isC = true) (hl : ls.size = nL) (hst : st = As.reverse ++ rest) (hcat : (rest.map fun v => v.category).sum ≤ 8) (hR : roomOk R cells slots hc) (hdg : decode cc pc = .ok (.invokestatic index, 3))
    (kk : ∀ (H : Heap) (locs : List Loc), Wd G A s ws H locs → W p l e R s m args below meth c H locs cells slots Q (F0 m (pc + 3) ls rest)) : W p l e R s m args below meth c H locs cells slots Q (F0 m pc ls st) := by
  obtain ⟨hFc, hpre⟩ := wd_pre h hC hnd
  subst hst
  refine va_callv (va_runS (As := As) (rest := rest) C (hF H.size) (lk.cw C hR) ⟨Pre.blind, fun U hU hW => ⟨rfl, hpre U hU hW⟩⟩ rfl hn hl rfl (lv_room hcat) hdg ⟨hR.2.2.1, hR.2.2.2⟩) h.2.2.2.1 (fun q _ h => hFc q h) hFc (fun u t H1 locs1 ht hvm hw' hB hz1 hk1 hS1 => ?_)
  obtain ⟨hP1, -, -⟩ := hB
  rw [ht] at hP1
  exact kk H1 locs1 (wd_call0 h hC hk1 hP1 hS1)
theorem r_ciN0 {y : MethodName} {bytes : ByteArray} {maxL index n hc : Nat} {ret : FieldType} {As st : List Value} {r : Int32} {wc : va_W} (C : CallFix p m c cc nL s args gw_tbl own) (h : Wd G A s ws H locs) (hF : mFi l G y bytes maxL ret hc As wc r wc) (lk : MLn own index y bytes maxL (some ret) n) (hn : As.length = n) (isC : List Nat) (hC : isC.map (fun i => ws[i]?) = wc.map some) (hnd : va_nd isC = true) (hl : ls.size = nL) (hst : st = As.reverse ++ rest) (hcat : (rest.map fun v => v.category).sum ≤ 8) (hR : roomOk R cells slots hc) (hdg : decode cc pc = .ok (.invokestatic index, 3))
    (kk : ∀ (H : Heap) (locs : List Loc), Wd G A s ws H locs → W p l e R s m args below meth c H locs cells slots Q (F0 m (pc + 3) ls (.int r :: rest))) : W p l e R s m args below meth c H locs cells slots Q (F0 m pc ls st) := by
  obtain ⟨hFc, hpre⟩ := wd_pre h hC hnd
  subst hst
  refine va_calli (va_runSN (As := As) (rest := rest) C (hF H.size) (lk.cw C h.2.2.2.2.2.1 hR) ⟨Pre.blind, fun U hU hW => ⟨rfl, hpre U hU hW⟩⟩ rfl hn hl rfl (lv_room hcat) hdg ⟨hR.2.2.1, hR.2.2.2⟩) h.2.2.2.1 (fun q _ h => hFc q h) hFc (fun r' u t H1 locs1 ht hvm hw' hB hz1 hk1 hS1 => ?_)
  subst hw'
  obtain ⟨hP1, -, -⟩ := hB
  rw [ht] at hP1
  exact kk H1 locs1 (wd_call0 h hC hk1 hP1 hS1)
end OK2
