/-! ===== OWN KIT: more rows ===== -/
theorem gw_list {ws : List Cond} (ps : List Nat) (hp : ws = ps.filterMap (fun i => lw_tbl[i]?)) (h : ws.all goodWord = true) : ∀ w ∈ ws, w ∈ gw_tbl := by
  intro w hw
  have h1 := List.all_eq_true.mp h w hw
  rw [hp] at hw
  obtain ⟨i, -, hi⟩ := List.mem_filterMap.mp hw
  exact gw_in i hi h1
def MMk (own : String) (index : Nat) (y : MethodName) (bytes : ByteArray) (n : Nat) : Prop := Cond.methodLink own index y ∈ gw_tbl ∧ Cond.static y ∈ gw_tbl ∧ Cond.initialized "java/lang/Math" ∈ gw_tbl ∧ Cond.code y bytes n (some .int) ∈ gw_tbl
def ACk (own : String) (index : Nat) : Prop := Cond.methodLink own index arraycopyName ∈ gw_tbl ∧ Cond.native arraycopyName ∈ gw_tbl ∧ Cond.static arraycopyName ∈ gw_tbl ∧ Cond.initialized "java/lang/System" ∈ gw_tbl
section OK5
variable {p : Program} {l : Launch} {e : Env} {R : Room} {s : State} {m : MethodId} {args : Array Value} {below : List Frame} {meth : Method} {c : Code} {H : Heap} {locs : List Loc} {cells slots hh : Nat} {Q : State → Prop}
variable {cc : ByteArray} {pc nL : Nat} {ls : Array Slot} {rest : List Value} {A : Nat → Prop} {G : Gt} {ws : va_W} {own : String}
theorem r_ialdL {a n : Nat} {f : Nat → Int32} {i : Int32} (C : CallFix p m c cc nL s args gw_tbl own) (h : Wd G A s ws H locs) (q0 : Nat) (he : ws[q0]? = some (a, ia G n f)) (hin : vp_in i n) (k : Nat) (hk : i.toNatClampNeg = k) (hdg : decode cc pc = .ok (.iaload, 1))
    (kk : W p l e R s m args below meth c H locs cells slots Q (F0 m (pc + 1) ls (.int (f k) :: rest))) : W p l e R s m args below meth c H locs cells slots Q (F0 m pc ls (.int i :: .ref a :: rest)) := by
  subst hk
  exact r_iald C h q0 he hin hdg kk
theorem r_iastL {a n : Nat} {f : Nat → Int32} {i x : Int32} {ws' : va_W} (C : CallFix p m c cc nL s args gw_tbl own) (h : Wd G A s ws H locs) (q0 : Nat) (he : ws[q0]? = some (a, ia G n f)) (hin : vp_in i n) (k : Nat) (hk : i.toNatClampNeg = k) (hdg : decode cc pc = .ok (.iastore, 1)) (hw : ws.set q0 (a, ia G n (upd f k x)) = ws')
    (kk : ∀ (H : Heap) (locs : List Loc), Wd G A s ws' H locs → W p l e R s m args below meth c H locs cells slots Q (F0 m (pc + 1) ls rest)) : W p l e R s m args below meth c H locs cells slots Q (F0 m pc ls (.int x :: .int i :: .ref a :: rest)) := by
  subst hk
  exact r_iast C h q0 he hin hdg hw kk
theorem r_imax {index : Nat} {x y : Int32} (C : CallFix p m c cc nL s args gw_tbl own) (lk : MMk own index Lib.Math.max.name Lib.Math.max.code 2) (hl : ls.size = nL) (hh1 : 1 ≤ hh) (hcat : (rest.map fun v => v.category).sum ≤ 8) (hdg : decode cc pc = .ok (.invokestatic index, 3))
    (kk : W p l e (rmh hh) s m args below meth c H locs 0 0 Q (F0 m (pc + 3) ls (.int (imax x y) :: rest))) : W p l e (rmh hh) s m args below meth c H locs 0 0 Q (F0 m pc ls (.int y :: .int x :: rest)) :=
  va_mmax C.1 C.2.1 (C.2.2.1.trans hl.symm) C.2.2.2.1 (C.2.2.2.2 _ lk.1) (C.2.2.2.2 _ lk.2.1) (C.2.2.2.2 _ lk.2.2.1) (C.2.2.2.2 _ lk.2.2.2) hh1 (by show _ + 13 ≤ 100 * hh; omega) (Nat.le_refl 0) (Nat.le_refl 0) hdg kk
theorem r_imin {index : Nat} {x y : Int32} (C : CallFix p m c cc nL s args gw_tbl own) (lk : MMk own index Lib.Math.min.name Lib.Math.min.code 2) (hl : ls.size = nL) (hh1 : 1 ≤ hh) (hcat : (rest.map fun v => v.category).sum ≤ 8) (hdg : decode cc pc = .ok (.invokestatic index, 3))
    (kk : W p l e (rmh hh) s m args below meth c H locs 0 0 Q (F0 m (pc + 3) ls (.int (imin x y) :: rest))) : W p l e (rmh hh) s m args below meth c H locs 0 0 Q (F0 m pc ls (.int y :: .int x :: rest)) :=
  va_mmin C.1 C.2.1 (C.2.2.1.trans hl.symm) C.2.2.2.1 (C.2.2.2.2 _ lk.1) (C.2.2.2.2 _ lk.2.1) (C.2.2.2.2 _ lk.2.2.1) (C.2.2.2.2 _ lk.2.2.2) hh1 (by show _ + 13 ≤ 100 * hh; omega) (Nat.le_refl 0) (Nat.le_refl 0) hdg kk
theorem r_iabs {index : Nat} {x : Int32} (C : CallFix p m c cc nL s args gw_tbl own) (lk : MMk own index Lib.Math.abs.name Lib.Math.abs.code 1) (hl : ls.size = nL) (hh1 : 1 ≤ hh) (hcat : (rest.map fun v => v.category).sum ≤ 8) (hdg : decode cc pc = .ok (.invokestatic index, 3))
    (kk : W p l e (rmh hh) s m args below meth c H locs 0 0 Q (F0 m (pc + 3) ls (.int (iabs x) :: rest))) : W p l e (rmh hh) s m args below meth c H locs 0 0 Q (F0 m pc ls (.int x :: rest)) :=
  va_mabs C.1 C.2.1 (C.2.2.1.trans hl.symm) C.2.2.2.1 (C.2.2.2.2 _ lk.1) (C.2.2.2.2 _ lk.2.1) (C.2.2.2.2 _ lk.2.2.1) (C.2.2.2.2 _ lk.2.2.2) hh1 (by show _ + 13 ≤ 100 * hh; omega) (Nat.le_refl 0) (Nat.le_refl 0) hdg kk
theorem r_copy {index a a0 n0 n1 : Nat} {f g : Nat → Int32} {sp dp n : Int32} {ws' : va_W} (C : CallFix p m c cc nL s args gw_tbl own) (h : Wd G A s ws H locs) (lk : ACk own index) (q0 q1 : Nat) (ha0 : ws[q0]? = some (a0, ia G n0 f)) (ha1 : ws[q1]? = some (a, ia G n1 g)) (hs : ¬ sp < 0 ∧ ¬ dp < 0 ∧ ¬ n < 0 ∧ sp.toNatClampNeg + n.toNatClampNeg ≤ n0 ∧ dp.toNatClampNeg + n.toNatClampNeg ≤ n1) (hl : ls.size = nL) (hh1 : 1 ≤ hh) (hcat : (rest.map fun v => v.category).sum ≤ 8) (hdg : decode cc pc = .ok (.invokestatic index, 3)) (hw : ws.set q1 (a, ia G n1 (va_cpy f g sp.toNatClampNeg dp.toNatClampNeg n.toNatClampNeg)) = ws')
    (kk : ∀ (H : Heap) (locs : List Loc), Wd G A s ws' H locs → W p l e (rmh hh) s m args below meth c H locs cells slots Q (F0 m (pc + 3) ls rest)) : W p l e (rmh hh) s m args below meth c H locs cells slots Q (F0 m pc ls (.int n :: .int dp :: .ref a :: .int sp :: .ref a0 :: rest)) := by
  subst hw
  have hnf : nativeFrameWords "java/lang/System" "arraycopy" 5 ≤ 80 := by decide +kernel
  exact va_copyi C.1 C.2.1 (C.2.2.1.trans hl.symm) C.2.2.2.1 (C.2.2.2.2 _ lk.1) (C.2.2.2.2 _ lk.2.1) (C.2.2.2.2 _ lk.2.2.1) (C.2.2.2.2 _ lk.2.2.2) h.1 h.2.1 h.2.2.1 h.2.2.2.1 q0 q1 0 0 ha0 ha1 rfl rfl rfl hs.1 hs.2.1 hs.2.2.1 hs.2.2.2.1 hs.2.2.2.2 (fun _ _ => rfl) hh1 (by show _ + (_ + 11) ≤ 100 * hh; omega) hdg (fun H1 locs1 a1 a2 a3 => kk H1 locs1 ⟨h.1, a1, a2, a3, h.2.2.2.2⟩)
end OK5
