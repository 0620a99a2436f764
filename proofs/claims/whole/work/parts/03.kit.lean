/-! ===== OWN KIT: contracts in one form, rows over a bundled world ===== -/
/-- the tables' words that stay good while classes warm up: every contract's words -/
def gw_tbl : List Cond := lw_tbl.filter goodWord
theorem gw_in {w : Cond} (i : Nat) (h : lw_tbl[i]? = some w) (g : goodWord w = true) : w ∈ gw_tbl := List.mem_filter.mpr ⟨List.mem_of_getElem? h, g⟩
theorem gw_good {w : Cond} (h : w ∈ gw_tbl) : goodWord w = true := (List.mem_filter.mp h).2
theorem gw_GoodIn {ws : List Cond} (h : ∀ w ∈ ws, w ∈ gw_tbl) : GoodIn gw_tbl ws := fun w hw => ⟨h w hw, good_of_word (gw_good (h w hw))⟩
/-- room by the height of calls below -/
def rmh (n : Nat) : Room := { frames := n, cells := 0, slots := 0, locals := 100 * n }
/-- places of private members of nest mates -/
def nw_l : List (String × Nat × MethodName × String) := [(RX3, 97, yX8_nearsAlone, RX8), (RX3, 110, yX8_reachesAlone, RX8), (RX3, 123, yX8_isOrUnder, RX8), (RX2, 61, yX8_reachesAlone, RX8), (RX2, 64, yX8_nearsAlone, RX8), (RX8, 21, yX6_init, RX8), (RX8, 35, yX4_init, RX8), (RX8, 42, yX5_init, RX8), (RX8, 56, yX7_init, RX8), (RX1, 43, yX6_init, RX8), (RX3, 32, yX6_init, RX8), (RX3, 39, yX5_init, RX8), (RX3, 46, yX2_init, RX8)]
def Nw (U : State) : Prop := ∀ q ∈ nw_l, va_Nw (.methodLinkNest q.1 q.2.1 q.2.2.1 q.2.2.2) U
theorem Nw.warm {s U : State} (hW : s.WarmedH U.vm) (h : Nw s) : Nw U := fun q hq => va_Nw.warmM hW (h q hq)
theorem Nw.same {u U : State} (hv : u.vm = U.vm) (h : Nw u) : Nw U := fun q hq => va_Nw.same rfl hv (h q hq)
/-- what nobody writes: the links of nest mates, the static row of KINDS, the text of words -/
def Ev (w : Nat × Nat) (A : Nat → Prop) (U : State) (H : Heap) : Prop := Nw U ∧ (∃ aS : Nat, va_Z "LightHalves" "SELF_AND_ABOVE" "[I" (.ref aS) A U H ∧ va_X aS 6 tb_SA U H ∧ ¬ A aS ∧ aS < H.size) ∧ vk_R RX4 73 wd_text w.1 U ∧ vk_S 1 wd_len wd_byt (fun _ => w.1) (fun _ => w.2) A U H ∧ va_Z "java/lang/String" "COMPACT_STRINGS" "Z" (.int 1) A U H ∧ ∃ vf : Value, (vf = .null ∨ ∃ a : Nat, vf = .ref a) ∧ va_Z "jdk/internal/util/Preconditions" "SIOOBE_FORMATTER" "Ljava/util/function/BiFunction;" vf A U H
theorem Ev.warm {w : Nat × Nat} {A : Nat → Prop} {s U : State} {H : Heap} (hW : s.WarmedH U.vm) (h : Ev w A s H) : Ev w A U H := by
  obtain ⟨h1, ⟨aS, h2, h3, h4⟩, h5, h6, h7, vf, h9, hv⟩ := h
  exact ⟨h1.warm hW, ⟨aS, h2.moved hW.alike, h3.moved hW.alike, h4⟩, h5.warm hW, h6.moved hW.alike, h7.moved hW.alike, vf, h9, hv.moved hW.alike⟩
theorem Ev.same {w : Nat × Nat} {A : Nat → Prop} {s U : State} {H : Heap} (hvv : s.vm = U.vm) (h : Ev w A s H) : Ev w A U H := by
  have hal : s.vm.Alike U.vm := by rw [hvv]; exact Vm.Alike.refl U.vm
  obtain ⟨h1, ⟨aS, h2, h3, h4⟩, h5, h6, h7, vf, h9, hv⟩ := h
  exact ⟨h1.same hvv, ⟨aS, h2.moved hal, h3.moved hal, h4⟩, h5.same hvv.symm, h6.moved hal, h7.moved hal, vf, h9, hv.moved hal⟩
theorem Ev.kept {w : Nat × Nat} {A : Nat → Prop} {U : State} {H H1 : Heap} (hz : H.size ≤ H1.size) (hq : ∀ a : Nat, a < H.size → ¬ A a → H1[a]? = H[a]?) (h : Ev w A U H) : Ev w A U H1 := by
  obtain ⟨h1, ⟨aS, h2, h3, h4, h8⟩, h5, h6, h7, vf, h9, hv⟩ := h
  exact ⟨h1, ⟨aS, h2.kept hq, h3.kept (hq aS h8 h4), h4, Nat.lt_of_lt_of_le h8 hz⟩, h5, h6.kept hq, h7.kept hq, vf, h9, hv.kept hq⟩
theorem Ev.narrow {w : Nat × Nat} {A B : Nat → Prop} {U : State} {H : Heap} (hAB : ∀ q, B q → A q) (h : Ev w A U H) : Ev w B U H := by
  obtain ⟨h1, ⟨aS, h2, h3, h4, h8⟩, h5, h6, h7, vf, h9, hv⟩ := h
  exact ⟨h1, ⟨aS, h2.narrow hAB, h3, fun z => h4 (hAB aS z), h8⟩, h5, h6.narrow hAB, h7.narrow hAB, vf, h9, hv.narrow hAB⟩
/-- the tables' numbers: classes and slots; the classes of rows of ints, of chars, of Standings -/
abbrev Gt : Type := va_G × ClassId × ClassId × ClassId × Nat × Nat
abbrev gty (G : Gt) : List (ClassId × FieldType) := [(G.2.1, .int), (G.2.2.1, .char), (G.2.2.2.1, .object "LightHalves$Standing")]
abbrev ia (G : Gt) (n : Nat) (f : Nat → Int32) : va_E := .inl (G.2.1, n, .inl f)
abbrev ca (G : Gt) (n : Nat) (f : Nat → Int32) : va_E := .inl (G.2.2.1, n, .inl f)
abbrev ra (G : Gt) (n : Nat) (f : Nat → Option Nat) : va_E := .inl (G.2.2.2.1, n, .inr (.inr (.inr (.inr f))))
abbrev ob (ci : Nat) (fs : List Value) : va_E := .inr (ci, fs)
/-- the world in a body: H holds the cells ws; since the entry nothing outside A has changed -/
def Wd (G : Gt) (A : Nat → Prop) (s : State) (ws : va_W) (H : Heap) (locs : List Loc) : Prop := va_K G.1 vwCl (gty G) s ∧ va_P G.1 vwCl ws H ∧ va_D A ws ∧ va_S A s.heap H locs ∧ (∀ q : Nat, s.heap.size ≤ q → A q) ∧ Ev G.2.2.2.2 A s s.heap
def Pre (G : Gt) (wi : va_W) (sz : Nat) (U : State) : Prop := U.heap.size = sz ∧ va_P G.1 vwCl wi U.heap ∧ va_K G.1 vwCl (gty G) U ∧ va_D (fun _ => True) wi ∧ Ev G.2.2.2.2 (va_A wi sz) U U.heap
def Post (G : Gt) (wo : va_W) (A : Nat → Prop) (t : State) : Prop := va_P G.1 vwCl wo t.heap ∧ va_K G.1 vwCl (gty G) t ∧ va_D A wo
/-- a method that answers an int (boolean) and makes nothing: with these arguments, from the cells wi, it answers r and leaves wo -/
def mFi (l : Launch) (G : Gt) (y : MethodName) (cc : ByteArray) (nL : Nat) (ret : FieldType) (hh : Nat) (av : List Value) (wi : va_W) (r : Int32) (wo : va_W) : Prop := ∀ sz : Nat, Met l y (.code y cc nL (some ret) :: gw_tbl) (rmh hh) (va_Pc av (Pre G wi sz)) (va_Qi (fun (r' : Int32) (_ : Unit) => r' = r) (fun _ => Post G wo (va_A wi sz)) (va_A wi sz)) 0 0 (va_A wi sz)
def mFv (l : Launch) (G : Gt) (y : MethodName) (cc : ByteArray) (nL : Nat) (hh : Nat) (av : List Value) (wi : va_W) (wo : va_W) : Prop := ∀ sz : Nat, Met l y (.code y cc nL none :: gw_tbl) (rmh hh) (va_Pc av (Pre G wi sz)) (va_Qv (fun (_ : Unit) => True) (fun _ => Post G wo (va_A wi sz)) (va_A wi sz)) 0 0 (va_A wi sz)
/-- a body's end -/
def Zi (G : Gt) (r : Int32) (wo : va_W) (A : Nat → Prop) (below : List Frame) (args : Array Value) (s : State) : State → Prop := MQ below (va_Qi (fun (r' : Int32) (_ : Unit) => r' = r) (fun _ => Post G wo A) A) args s 0 0 A
def Zv (G : Gt) (wo : va_W) (A : Nat → Prop) (below : List Frame) (args : Array Value) (s : State) : State → Prop := MQ below (va_Qv (fun (_ : Unit) => True) (fun _ => Post G wo A) A) args s 0 0 A
theorem Pre.blind {G : Gt} {wi : va_W} {sz : Nat} {av : List Value} : FrameBlind (va_Pc av (Pre G wi sz)) := by
  intro a U g mk q
  obtain ⟨q0, q1, qP, qK, qD, qE⟩ := q
  exact ⟨q0, q1, qP, va_K.moved (u := U) (U := U.calling g mk a) (Vm.Alike.refl U.vm) qK, qD, Ev.same (s := U) (U := U.calling g mk a) rfl qE⟩
section OK1
variable {p : Program} {l : Launch} {e : Env} {R : Room} {s : State} {m : MethodId} {args : Array Value} {below : List Frame} {meth : Method} {c : Code} {H : Heap} {locs : List Loc} {cells slots : Nat} {Q : State → Prop}
variable {cc : ByteArray} {pc nL : Nat} {ls : Array Slot} {rest : List Value} {A : Nat → Prop} {G : Gt} {ws : va_W} {own : String}
/-- the beginning of a method's proof -/
theorem mFi.of {y : MethodName} {ret : FieldType} {hh : Nat} {av : List Value} {wi wo : va_W} {r : Int32} (hy : plainName y.cls = true) (hn : (lg_sl av).length ≤ nL)
    (body : ∀ (p : Program) (e : Env) (s : State) (m : MethodId) (below : List Frame) (meth : Method) (c : Code) (A : Nat → Prop), CallFix p m c cc nL s av.toArray gw_tbl y.cls → meth.sig.returnType = some ret → meth.locks = false → Wd G A s wi s.heap [] → ∀ ls : Array Slot, lv_has ls nL (lv_args 0 av) →
      W p l e (rmh hh) s m av.toArray below meth c s.heap [] 0 0 (Zi G r wo A below av.toArray s) (F0 m 0 ls [])) : mFi l G y cc nL ret hh av wi r wo := by
  intro sz
  refine Met.ofW (cc := cc) (maxL := nL) (ret := some ret) hy rfl ?_
  intro p e s m args below meth c s₁ B hml hv
  obtain ⟨rfl, hsz, hP, hK, hD0, hE⟩ := hv
  have hts := atoms_spec (ws := .code y cc nL (some ret) :: gw_tbl) B.pre
  have hown : s.vm.findClass y.cls = some m.cls := findClass_of_methodNamed B.named
  subst hsz
  have hD := hD0.self (sz := s.heap.size)
  have hA : ∀ q : Nat, s.heap.size ≤ q → va_A wi s.heap.size q := fun q h => Or.inr h
  rw [lg_entry_eq]
  exact body p e s m below meth c (va_A wi s.heap.size) ⟨B.exec, B.bytes, hml, hown, fun w hw => hts w (List.mem_cons_of_mem _ hw)⟩ B.returns B.notSynchronized ⟨hK, hP, hD, va_S.rf, hA, hE⟩ _ (lv_entry av hn)
theorem mFv.of {y : MethodName} {hh : Nat} {av : List Value} {wi wo : va_W} (hy : plainName y.cls = true) (hn : (lg_sl av).length ≤ nL)
    (body : ∀ (p : Program) (e : Env) (s : State) (m : MethodId) (below : List Frame) (meth : Method) (c : Code) (A : Nat → Prop), CallFix p m c cc nL s av.toArray gw_tbl y.cls → meth.sig.returnType = none → meth.locks = false → Wd G A s wi s.heap [] → ∀ ls : Array Slot, lv_has ls nL (lv_args 0 av) →
      W p l e (rmh hh) s m av.toArray below meth c s.heap [] 0 0 (Zv G wo A below av.toArray s) (F0 m 0 ls [])) : mFv l G y cc nL hh av wi wo := by
  intro sz
  refine Met.ofW (cc := cc) (maxL := nL) (ret := none) hy rfl ?_
  intro p e s m args below meth c s₁ B hml hv
  obtain ⟨rfl, hsz, hP, hK, hD0, hE⟩ := hv
  have hts := atoms_spec (ws := .code y cc nL none :: gw_tbl) B.pre
  have hown : s.vm.findClass y.cls = some m.cls := findClass_of_methodNamed B.named
  subst hsz
  have hD := hD0.self (sz := s.heap.size)
  have hA : ∀ q : Nat, s.heap.size ≤ q → va_A wi s.heap.size q := fun q h => Or.inr h
  rw [lg_entry_eq]
  exact body p e s m below meth c (va_A wi s.heap.size) ⟨B.exec, B.bytes, hml, hown, fun w hw => hts w (List.mem_cons_of_mem _ hw)⟩ B.returns B.notSynchronized ⟨hK, hP, hD, va_S.rf, hA, hE⟩ _ (lv_entry av hn)
/-- ends -/
theorem r_iret {ret : FieldType} {r : Int32} (C : CallFix p m c cc nL s args gw_tbl own) (h : Wd G A s ws H locs) (hr : meth.sig.returnType = some ret) (hlk : meth.locks = false) (hn : narrow ret (.int r) = .int r) (hdg : decode cc pc = .ok (.ireturn, 1)) : W p l e R s m args below meth c H locs 0 0 (Zi G r ws A below args s) (F0 m pc ls [.int r]) :=
  W.zret C.1 C.2.1 hr hn (fun t ht hW => ⟨⟨r, (), rfl, rfl, by rw [ht]; exact h.2.1, va_K.moved hW.alike h.1, h.2.2.1⟩, h.2.2.2.1.F ht⟩) h.2.2.2.1.2.2 hdg hlk
theorem r_vret (C : CallFix p m c cc nL s args gw_tbl own) (h : Wd G A s ws H locs) (hr : meth.sig.returnType = none) (hlk : meth.locks = false) (hdg : decode cc pc = .ok (.return_, 1)) : W p l e R s m args below meth c H locs 0 0 (Zv G ws A below args s) (F0 m pc ls []) :=
  W.vret C.1 C.2.1 hr (fun t ht hW => ⟨⟨(), rfl, trivial, by rw [ht]; exact h.2.1, va_K.moved hW.alike h.1, h.2.2.1⟩, h.2.2.2.1.F ht⟩) h.2.2.2.1.2.2 hdg hlk
/-- fields -/
def FLk (own : String) (index ci k : Nat) : Prop := ∃ (C : String) (T : u_T) (N : Nat), vwCl[ci]? = some (C, T, N) ∧ k < N ∧ (∀ w ∈ u_ws C T N, w ∈ gw_tbl) ∧ Cond.fieldLink own index (T k).1 (T k).2.1 (T k).2.2.1 ∈ gw_tbl
def FLw (own : String) (index ci k : Nat) (ty : FieldType) : Prop := ∃ (C : String) (T : u_T) (N : Nat), vwCl[ci]? = some (C, T, N) ∧ k < N ∧ (∀ w ∈ u_ws C T N, w ∈ gw_tbl) ∧ Cond.fieldLink own index (T k).1 (T k).2.1 (T k).2.2.1 ∈ gw_tbl ∧ (∃ ty0 : Nat → FieldType, ∀ j, j < N → parseFieldDescriptor (T j).2.2.1 = some (ty0 j)) ∧ (∀ a, a < N → ∀ b, b < N → a ≠ b → (T a).2.1 ≠ (T b).2.1) ∧ (T k).2.2.2 = false ∧ parseFieldDescriptor (T k).2.2.1 = some ty
theorem r_get {index ci k : Nat} {a : Nat} {fs : List Value} {v : Value} (C : CallFix p m c cc nL s args gw_tbl own) (h : Wd G A s ws H locs) (fl : FLk own index ci k) (q0 : Nat) (he : ws[q0]? = some (a, ob ci fs)) (hv : fs[k]? = some v) (hdg : decode cc pc = .ok (.getfield index, 3))
    (kk : W p l e R s m args below meth c H locs cells slots Q (F0 m (pc + 3) ls (v :: rest))) : W p l e R s m args below meth c H locs cells slots Q (F0 m pc ls (.ref a :: rest)) := by
  obtain ⟨Cn, T, N, h1, h2, h3, h4⟩ := fl
  exact va_get C.1 C.2.1 C.2.2.2.2 h3 C.2.2.2.1 h.1 h.2.1 q0 he h1 k h2 (C.2.2.2.2 _ h4) (fun _ h9 => h9) hv hdg kk
theorem r_put {index ci k : Nat} {a : Nat} {fs : List Value} {v : Value} {ty : FieldType} {ws' : va_W} (C : CallFix p m c cc nL s args gw_tbl own) (h : Wd G A s ws H locs) (fl : FLw own index ci k ty) (q0 : Nat) (he : ws[q0]? = some (a, ob ci fs)) (hn : narrow ty v = v) (hf : fits ty v = true) (hl : k < fs.length) (hdg : decode cc pc = .ok (.putfield index, 3)) (hw : ws.set q0 (a, ob ci (fs.set k v)) = ws')
    (kk : ∀ (H : Heap) (locs : List Loc), Wd G A s ws' H locs → W p l e R s m args below meth c H locs cells slots Q (F0 m (pc + 3) ls rest)) : W p l e R s m args below meth c H locs cells slots Q (F0 m pc ls (v :: .ref a :: rest)) := by
  obtain ⟨Cn, T, N, h1, h2, h3, h4, ⟨ty0, h5⟩, h6, h7, h8⟩ := fl
  subst hw
  exact va_put C.1 C.2.1 C.2.2.2.2 h3 ty0 h5 h6 C.2.2.2.1 h.1 h.2.1 h.2.2.1 h.2.2.2.1 q0 he h1 k h2 (C.2.2.2.2 _ h4) (fun _ h9 => h9) h7 h8 hn hf hl hdg (fun H1 locs1 a1 a2 a3 => kk H1 locs1 ⟨h.1, a1, a2, a3, h.2.2.2.2⟩)
/-- rows -/
theorem r_iald {a n : Nat} {f : Nat → Int32} {i : Int32} (C : CallFix p m c cc nL s args gw_tbl own) (h : Wd G A s ws H locs) (q0 : Nat) (he : ws[q0]? = some (a, ia G n f)) (hin : vp_in i n) (hdg : decode cc pc = .ok (.iaload, 1))
    (kk : W p l e R s m args below meth c H locs cells slots Q (F0 m (pc + 1) ls (.int (f i.toNatClampNeg) :: rest))) : W p l e R s m args below meth c H locs cells slots Q (F0 m pc ls (.int i :: .ref a :: rest)) :=
  va_iald C.1 C.2.1 h.1 h.2.1 q0 0 he rfl hin hdg kk
theorem r_cald {a n : Nat} {f : Nat → Int32} {i : Int32} (C : CallFix p m c cc nL s args gw_tbl own) (h : Wd G A s ws H locs) (q0 : Nat) (he : ws[q0]? = some (a, ca G n f)) (hin : vp_in i n) (hdg : decode cc pc = .ok (.caload, 1))
    (kk : W p l e R s m args below meth c H locs cells slots Q (F0 m (pc + 1) ls (.int (f i.toNatClampNeg) :: rest))) : W p l e R s m args below meth c H locs cells slots Q (F0 m pc ls (.int i :: .ref a :: rest)) :=
  va_cald C.1 C.2.1 h.1 h.2.1 q0 1 he rfl hin hdg kk
theorem r_aald {a n : Nat} {f : Nat → Option Nat} {i : Int32} {b : Nat} (C : CallFix p m c cc nL s args gw_tbl own) (h : Wd G A s ws H locs) (q0 : Nat) (he : ws[q0]? = some (a, ra G n f)) (hin : vp_in i n) (hb : f i.toNatClampNeg = some b) (hdg : decode cc pc = .ok (.aaload, 1))
    (kk : W p l e R s m args below meth c H locs cells slots Q (F0 m (pc + 1) ls (.ref b :: rest))) : W p l e R s m args below meth c H locs cells slots Q (F0 m pc ls (.int i :: .ref a :: rest)) :=
  va_aldq C.1 C.2.1 h.1 h.2.1 q0 2 he rfl hin hdg (by rw [hb]; exact kk)
theorem r_alen {a : Nat} {n : Nat} {f : Nat → Int32} (C : CallFix p m c cc nL s args gw_tbl own) (h : Wd G A s ws H locs) (q0 : Nat) (he : ws[q0]? = some (a, ia G n f)) (hdg : decode cc pc = .ok (.arraylength, 1))
    (kk : W p l e R s m args below meth c H locs cells slots Q (F0 m (pc + 1) ls (.int (Int32.ofNat n) :: rest))) : W p l e R s m args below meth c H locs cells slots Q (F0 m pc ls (.ref a :: rest)) :=
  va_alen C.1 C.2.1 h.1 h.2.1 q0 0 he rfl rfl hdg kk
theorem r_iast {a n : Nat} {f : Nat → Int32} {i x : Int32} {ws' : va_W} (C : CallFix p m c cc nL s args gw_tbl own) (h : Wd G A s ws H locs) (q0 : Nat) (he : ws[q0]? = some (a, ia G n f)) (hin : vp_in i n) (hdg : decode cc pc = .ok (.iastore, 1)) (hw : ws.set q0 (a, ia G n (upd f i.toNatClampNeg x)) = ws')
    (kk : ∀ (H : Heap) (locs : List Loc), Wd G A s ws' H locs → W p l e R s m args below meth c H locs cells slots Q (F0 m (pc + 1) ls rest)) : W p l e R s m args below meth c H locs cells slots Q (F0 m pc ls (.int x :: .int i :: .ref a :: rest)) := by
  subst hw
  exact va_iast C.1 C.2.1 h.1 h.2.1 h.2.2.1 h.2.2.2.1 q0 0 he rfl hin hdg (fun H1 locs1 a1 a2 a3 => kk H1 locs1 ⟨h.1, a1, a2, a3, h.2.2.2.2⟩)
end OK1
section OK4
variable {p : Program} {l : Launch} {e : Env} {R : Room} {s : State} {m : MethodId} {args : Array Value} {below : List Frame} {meth : Method} {c : Code} {H : Heap} {locs : List Loc} {cells slots : Nat} {Q : State → Prop}
variable {cc : ByteArray} {pc nL : Nat} {ls : Array Slot} {rest st : List Value}
/-- the same goal at other places of a body, under a short name -/
theorem with_K (G : Gt) (A : Nat → Prop) (nL : Nat) (F : ∀ K : Nat → List Value → va_W → List (Nat × Value) → Prop, (∀ (pc : Nat) (st : List Value) (ws : va_W) (lv : List (Nat × Value)), (∀ (H : Heap) (locs : List Loc) (ls : Array Slot), Wd G A s ws H locs → lv_has ls nL lv → W p l e R s m args below meth c H locs cells slots Q (F0 m pc ls st)) → K pc st ws lv) → (∀ (pc : Nat) (st : List Value) (ws : va_W) (lv : List (Nat × Value)), K pc st ws lv → ∀ (H : Heap) (locs : List Loc) (ls : Array Slot), Wd G A s ws H locs → lv_has ls nL lv → W p l e R s m args below meth c H locs cells slots Q (F0 m pc ls st)) → W p l e R s m args below meth c H locs cells slots Q (F0 m pc ls st)) : W p l e R s m args below meth c H locs cells slots Q (F0 m pc ls st) :=
  F (fun pc st ws lv => ∀ (H : Heap) (locs : List Loc) (ls : Array Slot), Wd G A s ws H locs → lv_has ls nL lv → W p l e R s m args below meth c H locs cells slots Q (F0 m pc ls st)) (fun _ _ _ _ h => h) (fun _ _ _ _ h => h)
theorem r_cst {x : Int32} (y : Int32) (h : x = y) (k : W p l e R s m args below meth c H locs cells slots Q (F0 m pc ls (.int y :: rest))) : W p l e R s m args below meth c H locs cells slots Q (F0 m pc ls (.int x :: rest)) := by subst h; exact k
end OK4
