/-! ===== OWN KIT: switches, the static row ===== -/
section OK3
variable {p : Program} {l : Launch} {e : Env} {R : Room} {s : State} {m : MethodId} {args : Array Value} {below : List Frame} {meth : Method} {c : Code} {H : Heap} {locs : List Loc} {cells slots : Nat} {Q : State → Prop}
variable {cc : ByteArray} {pc nL : Nat} {ls : Array Slot} {rest : List Value} {A : Nat → Prop} {G : Gt} {ws : va_W} {own : String}
theorem r_tab {dflt lo hi : Int} {offs : Array Int} {len tgt : Nat} {x : Int32} {off : Int} (C : CallFix p m c cc nL s args gw_tbl own) (hdg : decode cc pc = .ok (.tableswitch dflt lo hi offs, len)) (v : Int32) (hv : x = v) (h1 : ¬ v.toInt < lo ∧ ¬ hi < v.toInt) (ho : offs[(v.toInt - lo).toNat]? = some off) (ht : (pc : Int) + off = (tgt : Int)) (k : W p l e R s m args below meth c H locs cells slots Q (F0 m tgt ls rest)) : W p l e R s m args below meth c H locs cells slots Q (F0 m pc ls (.int x :: rest)) := by
  subst hv
  exact lv_tableIn C.1 C.2.1 hdg h1.1 h1.2 ho ht k
theorem r_tabD {dflt lo hi : Int} {offs : Array Int} {len tgt : Nat} {x : Int32} (C : CallFix p m c cc nL s args gw_tbl own) (hdg : decode cc pc = .ok (.tableswitch dflt lo hi offs, len)) (vs : List Int32) (hvs : tabvs lo hi vs = true) (h : nel x vs) (ht : (pc : Int) + dflt = (tgt : Int)) (k : W p l e R s m args below meth c H locs cells slots Q (F0 m tgt ls rest)) : W p l e R s m args below meth c H locs cells slots Q (F0 m pc ls (.int x :: rest)) :=
  lv_tableOut C.1 C.2.1 hdg (tab_out x hvs h) ht k
theorem r_lk {dflt : Int} {ps : Array (Int × Int)} {len tgt : Nat} {x : Int32} {off : Int} (C : CallFix p m c cc nL s args gw_tbl own) (hdg : decode cc pc = .ok (.lookupswitch dflt ps, len)) (hp : (ps.toList.zip (ps.toList.drop 1)).all (fun (a, next) => a.1 < next.1) = true) (v : Int32) (hv : x = v) (ho : Op.lookupswitch.offset ps.toList dflt v.toInt = off) (ht : (pc : Int) + off = (tgt : Int)) (k : W p l e R s m args below meth c H locs cells slots Q (F0 m tgt ls rest)) : W p l e R s m args below meth c H locs cells slots Q (F0 m pc ls (.int x :: rest)) := by
  subst hv
  exact lv_lookup C.1 C.2.1 hdg hp ho ht k
theorem r_lkD {dflt : Int} {ps : Array (Int × Int)} {len tgt : Nat} {x : Int32} (C : CallFix p m c cc nL s args gw_tbl own) (hdg : decode cc pc = .ok (.lookupswitch dflt ps, len)) (hp : (ps.toList.zip (ps.toList.drop 1)).all (fun (a, next) => a.1 < next.1) = true) (vs : List Int32) (hvs : vs.map (fun v => v.toInt) = ps.toList.map (fun q => q.1)) (h : nel x vs) (ht : (pc : Int) + dflt = (tgt : Int)) (k : W p l e R s m args below meth c H locs cells slots Q (F0 m tgt ls rest)) : W p l e R s m args below meth c H locs cells slots Q (F0 m pc ls (.int x :: rest)) :=
  lv_lookup C.1 C.2.1 hdg hp (lk_out x hvs h) ht k
/-- the static row of KINDS -/
def SAt (A : Nat → Prop) (s : State) (aS : Nat) : Prop := va_X aS 6 tb_SA s s.heap ∧ ¬ A aS ∧ aS < s.heap.size
theorem r_getSA {index : Nat} (C : CallFix p m c cc nL s args gw_tbl own) (h : Wd G A s ws H locs) (fl : Cond.fieldLink own index "LightHalves" "SELF_AND_ABOVE" "[I" ∈ gw_tbl) (hdg : decode cc pc = .ok (.getstatic index, 3))
    (kk : ∀ aS : Nat, SAt A s aS → W p l e R s m args below meth c H locs cells slots Q (F0 m (pc + 3) ls (.ref aS :: rest))) : W p l e R s m args below meth c H locs cells slots Q (F0 m pc ls rest) := by
  obtain ⟨aS, h2, h3, h4, h8⟩ := h.2.2.2.2.2.2.1
  exact va_gets C.1 C.2.1 h2 h.2.2.2.1 C.2.2.2.1 (C.2.2.2.2 _ fl) (fun _ h9 => h9) hdg (kk aS ⟨h3, h4, h8⟩)
theorem r_ldSA {aS : Nat} {i : Int32} (C : CallFix p m c cc nL s args gw_tbl own) (h : Wd G A s ws H locs) (hs : SAt A s aS) (hin : vp_in i 6) (hdg : decode cc pc = .ok (.iaload, 1))
    (kk : W p l e R s m args below meth c H locs cells slots Q (F0 m (pc + 1) ls (.int (tb_SA i.toNatClampNeg) :: rest))) : W p l e R s m args below meth c H locs cells slots Q (F0 m pc ls (.int i :: .ref aS :: rest)) :=
  va_sld C.1 C.2.1 hs.1 hs.2.2 hs.2.1 h.2.2.2.1 hin hdg kk
end OK3
