/-! ===== the text of words: its length, its signs ===== -/
def wd_ch (k : Nat) : Int32 := (wd_byt.getD 0 []).getD k 0
section OK6
variable {p : Program} {l : Launch} {e : Env} {R : Room} {s : State} {m : MethodId} {args : Array Value} {below : List Frame} {meth : Method} {c : Code} {H : Heap} {locs : List Loc} {cells slots hh : Nat} {Q : State → Prop}
variable {cc : ByteArray} {pc nL : Nat} {ls : Array Slot} {rest : List Value} {A : Nat → Prop} {G : Gt} {ws : va_W} {own : String}
def WAt (G : Gt) (aW : Nat) : Prop := aW = G.2.2.2.2
theorem r_ldcW (C : CallFix p m c cc nL s args gw_tbl RX4) (h : Wd G A s ws H locs) (hdg : decode cc pc = .ok (.ldc 73, 2))
    (kk : ∀ aW : Nat, WAt G aW → W p l e R s m args below meth c H locs cells slots Q (F0 m (pc + 2) ls (.ref aW :: rest))) : W p l e R s m args below meth c H locs cells slots Q (F0 m pc ls rest) := by
  obtain ⟨adV, h5, h6, h7⟩ := h.2.2.2.2.2.2.2
  exact va_ldcS C.1 C.2.1 C.2.2.2.1 h5 hdg (kk _ rfl)
theorem r_wlen {aW index : Nat} (C : CallFix p m c cc nL s args gw_tbl own) (h : Wd G A s ws H locs) (hW : WAt G aW) (hl : ls.size = nL) (hcat : (rest.map fun v => v.category).sum ≤ 8) (hdg : decode cc pc = .ok (.invokevirtual index, 3))
    (kk : W p l e (rmh 9) s m args below meth c H locs 0 0 Q (F0 m (pc + 3) ls (.int (100 : Int32) :: rest))) : W p l e (rmh 9) s m args below meth c H locs 0 0 Q (F0 m pc ls (.ref aW :: rest)) := by
  sorry
theorem r_wch {aW index : Nat} {i : Int32} (C : CallFix p m c cc nL s args gw_tbl own) (h : Wd G A s ws H locs) (hW : WAt G aW) (hin : vp_in i 100) (hl : ls.size = nL) (hcat : (rest.map fun v => v.category).sum ≤ 8) (hdg : decode cc pc = .ok (.invokevirtual index, 3))
    (kk : W p l e (rmh 9) s m args below meth c H locs 0 0 Q (F0 m (pc + 3) ls (.int (wd_ch i.toNatClampNeg) :: rest))) : W p l e (rmh 9) s m args below meth c H locs 0 0 Q (F0 m pc ls (.int i :: .ref aW :: rest)) := by
  sorry
end OK6
