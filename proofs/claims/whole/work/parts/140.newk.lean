/-! ===== OWN KIT: constructors ===== -/
def rmn (n mc ms : Nat) : Room := { frames := n, cells := mc, slots := ms, locals := 100 * n }
def PreN (G : Gt) (wi : va_W) (sz : Nat) (U : State) : Prop := Pre G wi sz U ∧ va_AO RX6 U
/-- a constructor: from the cells wi it leaves wo at some new addresses, so many new cells of so many slots -/
def mFn (l : Launch) (G : Gt) (y : MethodName) (cc : ByteArray) (nL : Nat) (hh mc ms : Nat) (av : List Value) (wi : va_W) (wo : (Nat → Nat) → va_W) : Prop := ∀ sz : Nat, Met l y (.code y cc nL none :: gw_tbl) (rmn hh mc ms) (va_Pc av (PreN G wi sz)) (va_Qv (fun (_ : Nat → Nat) => True) (fun a => Post G (wo a) (va_A wi sz)) (va_A wi sz)) mc ms (va_A wi sz)
def Zn (G : Gt) (wo : (Nat → Nat) → va_W) (A : Nat → Prop) (below : List Frame) (args : Array Value) (s : State) (mc ms : Nat) : State → Prop := MQ below (va_Qv (fun (_ : Nat → Nat) => True) (fun a => Post G (wo a) A) A) args s mc ms A
theorem PreN.blind {G : Gt} {wi : va_W} {sz : Nat} {av : List Value} : FrameBlind (va_Pc av (PreN G wi sz)) := by
  intro a U g mk q
  obtain ⟨q0, ⟨q1, qP, qK, qD, qE⟩, qO⟩ := q
  exact ⟨q0, ⟨q1, qP, va_K.moved (u := U) (U := U.calling g mk a) (Vm.Alike.refl U.vm) qK, qD, Ev.same (s := U) (U := U.calling g mk a) rfl qE⟩, va_AO.moved (u := U) (U := U.calling g mk a) (Vm.Alike.refl U.vm) qO⟩
/-- a class whose objects are made -/
def NWk (own : String) (index ci : Nat) (fs : List Value) : Prop := ∃ (C : String) (T : u_T) (N : Nat), vwCl[ci]? = some (C, T, N) ∧ (∀ w ∈ u_ws C T N, w ∈ gw_tbl) ∧ (∃ ty0 : Nat → FieldType, (∀ j, j < N → parseFieldDescriptor (T j).2.2.1 = some (ty0 j)) ∧ ∀ j, j < N → defaultValue (ty0 j) = vp_V fs j) ∧ Cond.classLink own index C ∈ gw_tbl ∧ Cond.instantiable C N ∈ gw_tbl ∧ Cond.initialized C ∈ gw_tbl ∧ N = fs.length
theorem dv_of {N : Nat} {a b : Nat → Value} (h : (List.range N).map a = (List.range N).map b) : ∀ j, j < N → a j = b j := fun j hj => List.map_inj_left.mp h j (List.mem_range.mpr hj)
def FLf (own : String) (index ci k : Nat) (ty : FieldType) : Prop := ∃ (C : String) (T : u_T) (N : Nat), vwCl[ci]? = some (C, T, N) ∧ k < N ∧ (∀ w ∈ u_ws C T N, w ∈ gw_tbl) ∧ Cond.fieldLink own index (T k).1 (T k).2.1 (T k).2.2.1 ∈ gw_tbl ∧ (∃ ty0 : Nat → FieldType, ∀ j, j < N → parseFieldDescriptor (T j).2.2.1 = some (ty0 j)) ∧ (∀ a, a < N → ∀ b, b < N → a ≠ b → (T a).2.1 ≠ (T b).2.1) ∧ (T k).2.2.2 = true ∧ (T k).1 = own ∧ parseFieldDescriptor (T k).2.2.1 = some ty
def MLi (own : String) (index : Nat) (y : MethodName) (bytes : ByteArray) (maxL : Nat) : Prop := Cond.methodLink own index y ∈ gw_tbl ∧ Cond.instanceMethod y ∈ gw_tbl ∧ Cond.initialized y.cls ∈ gw_tbl ∧ Cond.code y bytes maxL none ∈ gw_tbl ∧ y.name = "<init>" ∧ okY y 0 maxL
def MLj (own : String) (index : Nat) (y : MethodName) (bytes : ByteArray) (maxL : Nat) : Prop := (own, index, y, RX8) ∈ nw_l ∧ Cond.instanceMethod y ∈ gw_tbl ∧ Cond.initialized y.cls ∈ gw_tbl ∧ Cond.code y bytes maxL none ∈ gw_tbl ∧ y.name = "<init>" ∧ okY y 0 maxL
section OK8
variable {p : Program} {l : Launch} {e : Env} {R : Room} {s : State} {m : MethodId} {args : Array Value} {below : List Frame} {meth : Method} {c : Code} {H : Heap} {locs : List Loc} {cells slots : Nat} {Q : State → Prop}
variable {cc : ByteArray} {pc nL : Nat} {ls : Array Slot} {rest : List Value} {A : Nat → Prop} {G : Gt} {ws : va_W} {own : String}
theorem mFn.of {y : MethodName} {hh mc ms : Nat} {av : List Value} {wi : va_W} {wo : (Nat → Nat) → va_W} (hy : plainName y.cls = true) (hyn : y.name = "<init>") (hn : (lg_sl av).length ≤ nL)
    (body : ∀ (p : Program) (e : Env) (s : State) (m : MethodId) (below : List Frame) (meth : Method) (c : Code) (A : Nat → Prop), CallFix p m c cc nL s av.toArray gw_tbl y.cls → meth.sig.returnType = none → meth.locks = false → meth.name = "<init>" → va_AO RX6 s → Wd G A s wi s.heap [] → ∀ ls : Array Slot, lv_has ls nL (lv_args 0 av) →
      W p l e (rmn hh mc ms) s m av.toArray below meth c s.heap [] 0 0 (Zn G wo A below av.toArray s mc ms) (F0 m 0 ls [])) : mFn l G y cc nL hh mc ms av wi wo := by
  intro sz
  refine Met.ofW (cc := cc) (maxL := nL) (ret := none) hy rfl ?_
  intro p e s m args below meth c s₁ B hml hv
  obtain ⟨rfl, ⟨hsz, hP, hK, hD0, hE⟩, hO⟩ := hv
  have hts := atoms_spec (ws := .code y cc nL none :: gw_tbl) B.pre
  have hown : s.vm.findClass y.cls = some m.cls := findClass_of_methodNamed B.named
  have hin : meth.name = "<init>" := ((name_of_methodNamed B.named B.method).1).trans hyn
  subst hsz
  have hD := hD0.self (sz := s.heap.size)
  have hA : ∀ q : Nat, s.heap.size ≤ q → va_A wi s.heap.size q := fun q h => Or.inr h
  rw [lg_entry_eq]
  exact body p e s m below meth c (va_A wi s.heap.size) ⟨B.exec, B.bytes, hml, hown, fun w hw => hts w (List.mem_cons_of_mem _ hw)⟩ B.returns B.notSynchronized hin hO ⟨hK, hP, hD, va_S.rf, hA, hE⟩ _ (lv_entry av hn)
theorem r_nret {wo : (Nat → Nat) → va_W} (C : CallFix p m c cc nL s args gw_tbl own) (h : Wd G A s ws H locs) (hr : meth.sig.returnType = none) (hlk : meth.locks = false) (a : Nat → Nat) (hw : ws = wo a) (hdg : decode cc pc = .ok (.return_, 1)) : W p l e R s m args below meth c H locs cells slots (Zn G wo A below args s cells slots) (F0 m pc ls []) := by
  subst hw
  exact W.vret C.1 C.2.1 hr (fun t ht hW => ⟨⟨a, rfl, trivial, by rw [ht]; exact h.2.1, va_K.moved hW.alike h.1, h.2.2.1⟩, h.2.2.2.1.F ht⟩) h.2.2.2.1.2.2 hdg hlk
theorem r_obj {index : Nat} {a : Nat} (C : CallFix p m c cc nL s args gw_tbl own) (hlk : Cond.methodLink own index objectInit ∈ gw_tbl) (hin : Cond.instanceMethod objectInit ∈ gw_tbl) (hco : Cond.code objectInit ⟨#[0xb1]⟩ 1 none ∈ gw_tbl) (hl : ls.size = nL) (hR : 1 ≤ R.frames ∧ 20 ≤ R.locals) (hcat : (rest.map fun v => v.category).sum ≤ 6) (hdg : decode cc pc = .ok (.invokespecial index, 3))
    (kk : W p l e R s m args below meth c H locs cells slots Q (F0 m (pc + 3) ls rest)) : W p l e R s m args below meth c H locs cells slots Q (F0 m pc ls (.ref a :: rest)) :=
  W.objInit C.1 C.2.1 C.2.2.2.1 (C.2.2.2.2 _ hlk) (C.2.2.2.2 _ hin) (C.2.2.2.2 _ hco) rfl (hl.trans C.2.2.1.symm) rfl hdg hR.1 (by
    have := hR.2
    have e : 2 * (F0 m pc ls (.ref a :: rest)).monitorRoom = 0 := rfl
    omega) kk
theorem r_newa {n : Int32} {N' : Nat} (C : CallFix p m c cc nL s args gw_tbl own) (h : Wd G A s ws H locs) (harr : Cond.arrayClass .int ∈ gw_tbl) (hn : ¬ n < 0) (hN : n.toNatClampNeg = N') (hbytes : N' * 4 ≤ 536870912) (hcells : cells + 1 ≤ R.cells) (hslots : slots + N' ≤ R.slots) (hdg : decode cc pc = .ok (.newarray .int, 2))
    (kk : ∀ (q : Nat) (H : Heap), Wd G A s (ws ++ [(q, ia G N' (fun _ => 0))]) H locs → W p l e R s m args below meth c H locs (cells + 1) (slots + N') Q (F0 m (pc + 2) ls (.ref q :: rest))) : W p l e R s m args below meth c H locs cells slots Q (F0 m pc ls (.int n :: rest)) := by
  refine va_newa (atype := .int) (ty := .int) (a0 := (N', .inl (fun _ => 0))) C.1 C.2.1 (C.2.2.2.2 _ harr) rfl h.1 h.2.1 h.2.2.1 h.2.2.2.1 h.2.2.2.2.1 (fun cA => rfl) hn hN hbytes hcells hslots hdg (fun q cA H1 hK hP hD hS => ?_)
  have e1 : s.vm.findClass ("[" ++ FieldType.int.toString) = some cA := (hK.2 3 (cA, .int) rfl).2
  have e2 : s.vm.findClass ("[" ++ FieldType.int.toString) = some G.2.1 := (h.1.2 0 (G.2.1, .int) rfl).2
  have e3 : cA = G.2.1 := Option.some.inj (e1.symm.trans e2)
  subst e3
  exact kk q H1 ⟨h.1, hP, hD, hS, h.2.2.2.2⟩
theorem r_newc {n : Int32} {N' : Nat} (C : CallFix p m c cc nL s args gw_tbl own) (h : Wd G A s ws H locs) (harr : Cond.arrayClass .char ∈ gw_tbl) (hn : ¬ n < 0) (hN : n.toNatClampNeg = N') (hbytes : N' * 2 ≤ 536870912) (hcells : cells + 1 ≤ R.cells) (hslots : slots + N' ≤ R.slots) (hdg : decode cc pc = .ok (.newarray .char, 2))
    (kk : ∀ (q : Nat) (H : Heap), Wd G A s (ws ++ [(q, ca G N' (fun _ => 0))]) H locs → W p l e R s m args below meth c H locs (cells + 1) (slots + N') Q (F0 m (pc + 2) ls (.ref q :: rest))) : W p l e R s m args below meth c H locs cells slots Q (F0 m pc ls (.int n :: rest)) := by
  refine va_newa (atype := .char) (ty := .char) (a0 := (N', .inl (fun _ => 0))) C.1 C.2.1 (C.2.2.2.2 _ harr) rfl h.1 h.2.1 h.2.2.1 h.2.2.2.1 h.2.2.2.2.1 (fun cA => rfl) hn hN hbytes hcells hslots hdg (fun q cA H1 hK hP hD hS => ?_)
  have e1 : s.vm.findClass ("[" ++ FieldType.char.toString) = some cA := (hK.2 3 (cA, .char) rfl).2
  have e2 : s.vm.findClass ("[" ++ FieldType.char.toString) = some G.2.2.1 := (h.1.2 1 (G.2.2.1, .char) rfl).2
  have e3 : cA = G.2.2.1 := Option.some.inj (e1.symm.trans e2)
  subst e3
  exact kk q H1 ⟨h.1, hP, hD, hS, h.2.2.2.2⟩
theorem r_newq {n : Int32} {N' index : Nat} (C : CallFix p m c cc nL s args gw_tbl own) (h : Wd G A s ws H locs) (hO : va_AO RX6 s) (hcl : Cond.classLink own index RX6 ∈ gw_tbl) (hn : ¬ n < 0) (hN : n.toNatClampNeg = N') (hbytes : N' * 4 ≤ 536870912) (hcells : cells + 1 ≤ R.cells) (hslots : slots + N' ≤ R.slots) (hdg : decode cc pc = .ok (.anewarray index, 3))
    (kk : ∀ (q : Nat) (H : Heap), Wd G A s (ws ++ [(q, ra G N' (fun _ => none))]) H locs → W p l e R s m args below meth c H locs (cells + 1) (slots + N') Q (F0 m (pc + 3) ls (.ref q :: rest))) : W p l e R s m args below meth c H locs cells slots Q (F0 m pc ls (.int n :: rest)) := by
  refine va_newq (C := RX6) C.1 C.2.1 C.2.2.2.1 (C.2.2.2.2 _ hcl) hO h.1 h.2.1 h.2.2.1 h.2.2.2.1 h.2.2.2.2.1 hn hN hbytes hcells hslots hdg (fun q cA H1 hK hP hD hS => ?_)
  obtain ⟨_, _, _, _, _, e1⟩ := (hK.2 3 (cA, .object RX6) rfl).2
  obtain ⟨_, _, _, _, _, e2⟩ := (h.1.2 2 (G.2.2.2.1, .object "LightHalves$Standing") rfl).2
  have e3 : cA = G.2.2.2.1 := Option.some.inj (e1.symm.trans e2)
  subst e3
  exact kk q H1 ⟨h.1, hP, hD, hS, h.2.2.2.2⟩
theorem r_new {index ci N' : Nat} {fs : List Value} (C : CallFix p m c cc nL s args gw_tbl own) (h : Wd G A s ws H locs) (lk : NWk own index ci fs) (hN : fs.length = N') (hcells : cells + 1 ≤ R.cells) (hslots : slots + N' ≤ R.slots) (hdg : decode cc pc = .ok (.new index, 3))
    (kk : ∀ (q : Nat) (H : Heap), Wd G A s (ws ++ [(q, ob ci fs)]) H locs → W p l e R s m args below meth c H locs (cells + 1) (slots + N') Q (F0 m (pc + 3) ls (.ref q :: rest))) : W p l e R s m args below meth c H locs cells slots Q (F0 m pc ls rest) := by
  obtain ⟨Cn, T, N, h1, h2, ⟨ty0, h3, h4⟩, h5, h6, h7, rfl⟩ := lk
  subst hN
  exact va_new C.1 C.2.1 C.2.2.2.2 h2 ty0 h3 C.2.2.2.1 (C.2.2.2.2 _ h5) (C.2.2.2.2 _ h6) (C.2.2.2.2 _ h7) h.1 h.2.1 h.2.2.1 h.2.2.2.1 h.2.2.2.2.1 h1 h4 hcells hslots hdg (fun q H1 hP hD hS => kk q H1 ⟨h.1, hP, hD, hS, h.2.2.2.2⟩)
theorem r_putF {index ci k : Nat} {a : Nat} {fs : List Value} {v : Value} {ty : FieldType} {ws' : va_W} (C : CallFix p m c cc nL s args gw_tbl own) (h : Wd G A s ws H locs) (hin : meth.name = "<init>") (fl : FLf own index ci k ty) (q0 : Nat) (he : ws[q0]? = some (a, ob ci fs)) (hn : narrow ty v = v) (hf : fits ty v = true) (hl : k < fs.length) (hdg : decode cc pc = .ok (.putfield index, 3)) (hw : ws.set q0 (a, ob ci (fs.set k v)) = ws')
    (kk : ∀ (H : Heap) (locs : List Loc), Wd G A s ws' H locs → W p l e R s m args below meth c H locs cells slots Q (F0 m (pc + 3) ls rest)) : W p l e R s m args below meth c H locs cells slots Q (F0 m pc ls (v :: .ref a :: rest)) := by
  obtain ⟨Cn, T, N, h1, h2, h3, h4, ⟨ty0, h5⟩, h6, h7, h8, h9⟩ := fl
  subst hw
  exact va_putF C.1 C.2.1 C.2.2.2.2 h3 ty0 h5 h6 C.2.2.2.1 h.1 h.2.1 h.2.2.1 h.2.2.2.1 q0 he h1 k h2 (C.2.2.2.2 _ h4) (fun _ h9 => h9) h7 hin h8 h9 hn hf hl hdg (fun H1 locs1 a1 a2 a3 => kk H1 locs1 ⟨h.1, a1, a2, a3, h.2.2.2.2⟩)
theorem r_castL {a n : Nat} {f f' : Nat → Int32} {i x : Int32} {ws' : va_W} (C : CallFix p m c cc nL s args gw_tbl own) (h : Wd G A s ws H locs) (q0 : Nat) (he : ws[q0]? = some (a, ca G n f)) (hin : vp_in i n) (hf : upd f i.toNatClampNeg (vp_nar .char x) = f') (hdg : decode cc pc = .ok (.castore, 1)) (hw : ws.set q0 (a, ca G n f') = ws')
    (kk : ∀ (H : Heap) (locs : List Loc), Wd G A s ws' H locs → W p l e R s m args below meth c H locs cells slots Q (F0 m (pc + 1) ls rest)) : W p l e R s m args below meth c H locs cells slots Q (F0 m pc ls (.int x :: .int i :: .ref a :: rest)) := by
  subst hw
  subst hf
  exact va_cast C.1 C.2.1 h.1 h.2.1 h.2.2.1 h.2.2.2.1 q0 1 he rfl hin hdg (fun H1 locs1 a1 a2 a3 => kk H1 locs1 ⟨h.1, a1, a2, a3, h.2.2.2.2⟩)
theorem r_aastL {a n v : Nat} {vs : List Value} {f f' : Nat → Option Nat} {i : Int32} {ws' : va_W} (C : CallFix p m c cc nL s args gw_tbl own) (h : Wd G A s ws H locs) (q0 qk : Nat) (he : ws[q0]? = some (a, ra G n f)) (hv : ws[qk]? = some (v, ob 6 vs)) (hin : vp_in i n) (hf : va_up f i.toNatClampNeg (some v) = f') (hdg : decode cc pc = .ok (.aastore, 1)) (hw : ws.set q0 (a, ra G n f') = ws')
    (kk : ∀ (H : Heap) (locs : List Loc), Wd G A s ws' H locs → W p l e R s m args below meth c H locs cells slots Q (F0 m (pc + 1) ls rest)) : W p l e R s m args below meth c H locs cells slots Q (F0 m pc ls (.ref v :: .int i :: .ref a :: rest)) := by
  subst hw
  subst hf
  exact va_astq C.1 C.2.1 h.1 h.2.1 h.2.2.1 h.2.2.2.1 q0 2 qk 6 (r := (RX6, TX6, 4)) he rfl hv rfl hin hdg (fun H1 locs1 a1 a2 a3 => kk H1 locs1 ⟨h.1, a1, a2, a3, h.2.2.2.2⟩)
theorem MLi.cw {y : MethodName} {bytes : ByteArray} {maxL index hc mc ms : Nat} (C : CallFix p m c cc nL s args gw_tbl own) (lk : MLi own index y bytes maxL) (hR : hc + 1 ≤ R.frames ∧ 100 * hc + 100 ≤ R.locals) : CallB R s args own index y bytes maxL none (.code y bytes maxL none :: gw_tbl) (rmn hc mc ms) mc ms 0 ∧ y.name = "<init>" ∧ (Cond.instanceMethod y).before args s = true := by
  obtain ⟨h1, h2, h4, h5, h0, h6, h7, h8, h9⟩ := lk
  refine cwI 0 C.2.2.2.2 (gw_cons h5) rfl rfl rfl (C.2.2.2.2 _ h4) (C.2.2.2.2 _ h1) (C.2.2.2.2 _ h2) h0 ⟨h6, h7, h8⟩ ⟨hR.1, ?_⟩
  have := hR.2
  show 8 + (maxL + 11) + 100 * hc ≤ R.locals
  omega
theorem MLj.cw {y : MethodName} {bytes : ByteArray} {maxL index hc mc ms : Nat} (C : CallFix p m c cc nL s args gw_tbl own) (hNw : Nw s) (lk : MLj own index y bytes maxL) (hR : hc + 1 ≤ R.frames ∧ 100 * hc + 100 ≤ R.locals) : va_CN R s args own index y RX8 bytes maxL none (.code y bytes maxL none :: gw_tbl) (rmn hc mc ms) mc ms 0 ∧ y.name = "<init>" ∧ (Cond.instanceMethod y).before args s = true := by
  obtain ⟨h1, h2, h4, h5, h0, h6, h7, h8, h9⟩ := lk
  refine ⟨va_cnB 0 C.2.2.2.2 (gw_cons h5) rfl rfl rfl (hNw _ h1) (C.2.2.2.2 _ h4) ⟨h6, h7, h8⟩ ⟨hR.1, ?_⟩, h0, C.2.2.2.2 _ h2⟩
  have := hR.2
  show 8 + (maxL + 11) + 100 * hc ≤ R.locals
  omega
theorem wd_preN {wc : va_W} {isC : List Nat} (h : Wd G A s ws H locs) (hO : va_AO RX6 s) (hC : isC.map (fun i => ws[i]?) = wc.map some) (hnd : va_nd isC = true) : (∀ q, va_A wc H.size q → A q) ∧ ∀ U : State, U.heap = H → s.WarmedH U.vm → PreN G wc H.size U := by
  obtain ⟨h1, h2⟩ := wd_pre h hC hnd
  exact ⟨h1, fun U hU hW => ⟨h2 U hU hW, va_AO.moved hW.alike hO⟩⟩
theorem wd_init {wc wr w1 : va_W} {H1 : Heap} {locs1 : List Loc} (isC isR : List Nat) (h : Wd G A s ws H locs) (hC : isC.map (fun i => ws[i]?) = wc.map some) (hnd : va_nd isC = true) (hRr : isR.map (fun i => ws[i]?) = wr.map some) (hn : va_nd isR = true) (hdis : ∀ i ∈ isR, i ∉ isC) (hk : ∀ q : Nat, q < H.size → ¬ va_A wc H.size q → H1[q]? = H[q]?) (hP1 : va_P G.1 vwCl w1 H1) (hD1 : va_D (va_A wc H.size) w1) (hS1 : va_S A s.heap H1 locs1) : Wd G A s (wr ++ w1) H1 locs1 := by
  have hF := (wd_pre h hC hnd).1
  obtain ⟨hK, hP, hD, hS, hA, hE⟩ := h
  obtain ⟨a1, a2⟩ := va_join (wr := wr) (w1 := w1) hP hD isC isR hC hRr hn hdis hk hF hP1 hD1
  exact ⟨hK, a1, a2, hS1, hA, hE⟩
theorem r_initI {y : MethodName} {bytes : ByteArray} {maxL index hc mc ms b : Nat} {wc wr : va_W} {wo : (Nat → Nat) → va_W} (C : CallFix p m c cc nL s args gw_tbl own) (h : Wd G A s ws H locs) (hO : va_AO RX6 s) (hF : mFn l G y bytes maxL hc mc ms [.ref b] wc wo) (lk : MLi own index y bytes maxL) (isC isR : List Nat) (hC : isC.map (fun i => ws[i]?) = wc.map some) (hnd : va_nd isC = true) (hRr : isR.map (fun i => ws[i]?) = wr.map some) (hn : va_nd isR = true) (hdis : ∀ i ∈ isR, i ∉ isC) (hl : ls.size = nL) (hcat : (rest.map fun v => v.category).sum ≤ 8) (hR : hc + 1 ≤ R.frames ∧ 100 * hc + 100 ≤ R.locals) (hf : cells + mc ≤ R.cells ∧ slots + ms ≤ R.slots) (hdg : decode cc pc = .ok (.invokespecial index, 3))
    (kk : ∀ (a : Nat → Nat) (H : Heap) (locs : List Loc), Wd G A s (wr ++ wo a) H locs → W p l e R s m args below meth c H locs (cells + mc) (slots + ms) Q (F0 m (pc + 3) ls rest)) : W p l e R s m args below meth c H locs cells slots Q (F0 m pc ls (.ref b :: rest)) := by
  obtain ⟨hFc, hpre⟩ := wd_preN h hO hC hnd
  refine va_callv (va_runI (As := []) (rest := rest) C (hF H.size) (lk.cw C hR) ⟨PreN.blind, fun U hU hW => ⟨rfl, hpre U hU hW⟩⟩ rfl rfl hl rfl (lv_room hcat) hdg hf) h.2.2.2.1 (fun q _ h => hFc q h) hFc (fun u t H1 locs1 ht hvm hw' hB hz1 hk1 hS1 => ?_)
  obtain ⟨hP1, -, hD1⟩ := hB
  rw [ht] at hP1
  exact kk u H1 locs1 (wd_init isC isR h hC hnd hRr hn hdis hk1 hP1 hD1 hS1)
theorem r_initN {y : MethodName} {bytes : ByteArray} {maxL index hc mc ms b : Nat} {wc wr : va_W} {wo : (Nat → Nat) → va_W} (C : CallFix p m c cc nL s args gw_tbl own) (h : Wd G A s ws H locs) (hO : va_AO RX6 s) (hF : mFn l G y bytes maxL hc mc ms [.ref b] wc wo) (lk : MLj own index y bytes maxL) (isC isR : List Nat) (hC : isC.map (fun i => ws[i]?) = wc.map some) (hnd : va_nd isC = true) (hRr : isR.map (fun i => ws[i]?) = wr.map some) (hn : va_nd isR = true) (hdis : ∀ i ∈ isR, i ∉ isC) (hl : ls.size = nL) (hcat : (rest.map fun v => v.category).sum ≤ 8) (hR : hc + 1 ≤ R.frames ∧ 100 * hc + 100 ≤ R.locals) (hf : cells + mc ≤ R.cells ∧ slots + ms ≤ R.slots) (hdg : decode cc pc = .ok (.invokespecial index, 3))
    (kk : ∀ (a : Nat → Nat) (H : Heap) (locs : List Loc), Wd G A s (wr ++ wo a) H locs → W p l e R s m args below meth c H locs (cells + mc) (slots + ms) Q (F0 m (pc + 3) ls rest)) : W p l e R s m args below meth c H locs cells slots Q (F0 m pc ls (.ref b :: rest)) := by
  obtain ⟨hFc, hpre⟩ := wd_preN h hO hC hnd
  refine va_callv (va_runIN (As := []) (rest := rest) C (hF H.size) (lk.cw C h.2.2.2.2.2.1 hR) ⟨PreN.blind, fun U hU hW => ⟨rfl, hpre U hU hW⟩⟩ rfl rfl hl rfl (lv_room hcat) hdg hf) h.2.2.2.1 (fun q _ h => hFc q h) hFc (fun u t H1 locs1 ht hvm hw' hB hz1 hk1 hS1 => ?_)
  obtain ⟨hP1, -, hD1⟩ := hB
  rw [ht] at hP1
  exact kk u H1 locs1 (wd_init isC isR h hC hnd hRr hn hdis hk1 hP1 hD1 hS1)
end OK8
