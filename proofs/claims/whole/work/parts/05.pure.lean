/-! ===== pure words of the printed functions ===== -/
/-- an index that must be in its row, or the machine throws -/
def chkI {α : Type} (i : Int32) (n : Nat) (a : Option α) : Option α := if i < 0 ∨ n ≤ i.toNatClampNeg then none else a
theorem chkI_inv {α : Type} {i : Int32} {n : Nat} {a : Option α} {r : α} (h : chkI i n a = some r) : vp_in i n ∧ a = some r := by
  unfold chkI at h
  split at h
  · cases h
  · exact ⟨by assumption, h⟩
/-- a divisor -/
def chkD {α : Type} (y : Int32) (a : Option α) : Option α := if y = 0 then none else a
theorem chkD_inv {α : Type} {y : Int32} {a : Option α} {r : α} (h : chkD y a = some r) : ¬ y = 0 ∧ a = some r := by
  unfold chkD at h
  split at h
  · cases h
  · exact ⟨by assumption, h⟩
/-- a boolean -/
def chkB {α : Type} (y : Int32) (a : Option α) : Option α := if y = 0 ∨ y = 1 then a else none
theorem chkB_inv {α : Type} {y : Int32} {a : Option α} {r : α} (h : chkB y a = some r) : narrow .boolean (.int y) = .int y ∧ a = some r := by
  unfold chkB at h
  split at h
  · rename_i hh
    exact ⟨by rcases hh with rfl | rfl <;> rfl, h⟩
  · cases h
/-- a copy of a row's part -/
def chkC {α : Type} (sp dp n : Int32) (n0 n1 : Nat) (a : Option α) : Option α := if sp < 0 ∨ dp < 0 ∨ n < 0 ∨ n0 < sp.toNatClampNeg + n.toNatClampNeg ∨ n1 < dp.toNatClampNeg + n.toNatClampNeg then none else a
theorem chkC_inv {α : Type} {sp dp n : Int32} {n0 n1 : Nat} {a : Option α} {r : α} (h : chkC sp dp n n0 n1 a = some r) : (¬ sp < 0 ∧ ¬ dp < 0 ∧ ¬ n < 0 ∧ sp.toNatClampNeg + n.toNatClampNeg ≤ n0 ∧ dp.toNatClampNeg + n.toNatClampNeg ≤ n1) ∧ a = some r := by
  unfold chkC at h
  split at h
  · cases h
  · rename_i hh
    simp only [not_or, Nat.not_lt] at hh
    exact ⟨hh, h⟩
/-- a named value -/
def lt1 {α β : Type} (x : α) (k : α → Option β) : Option β := k x
theorem lt1_inv {α β : Type} {x e : α} {k : α → Option β} {r : β} (hx : x = e) (h : lt1 e k = some r) : k x = some r := by subst hx; exact h
theorem ifp {α : Type} {c : Prop} [Decidable c] {a b : Option α} {r : α} (hc : c) (h : (if c then a else b) = some r) : a = some r := (if_pos hc).symm.trans h
theorem ifn {α : Type} {c : Prop} [Decidable c] {a b : Option α} {r : α} (hc : ¬ c) (h : (if c then a else b) = some r) : b = some r := (if_neg hc).symm.trans h
/-- what a call answers and leaves -/
def bd1 {γ a1 : Type} (o : Option a1) (k : a1 → Option γ) : Option γ := match o with
  | none => none
  | some x => k x
theorem bd1_inv {γ a1 : Type} {o : Option a1} {k : a1 → Option γ} {r : γ} (h : bd1 o k = some r) : ∃ x1, o = some x1 ∧ k x1 = some r := by
  cases o with
  | none => cases h
  | some x => exact ⟨x, rfl, h⟩
def bd2 {γ a1 a2 : Type} (o : Option (a1 × a2)) (k : a1 → a2 → Option γ) : Option γ := match o with
  | none => none
  | some x => k x.1 x.2
theorem bd2_inv {γ a1 a2 : Type} {o : Option (a1 × a2)} {k : a1 → a2 → Option γ} {r : γ} (h : bd2 o k = some r) : ∃ x1 x2, o = some (x1, x2) ∧ k x1 x2 = some r := by
  cases o with
  | none => cases h
  | some x => exact ⟨x.1, x.2, rfl, h⟩
def bd3 {γ a1 a2 a3 : Type} (o : Option (a1 × a2 × a3)) (k : a1 → a2 → a3 → Option γ) : Option γ := match o with
  | none => none
  | some x => k x.1 x.2.1 x.2.2
theorem bd3_inv {γ a1 a2 a3 : Type} {o : Option (a1 × a2 × a3)} {k : a1 → a2 → a3 → Option γ} {r : γ} (h : bd3 o k = some r) : ∃ x1 x2 x3, o = some (x1, x2, x3) ∧ k x1 x2 x3 = some r := by
  cases o with
  | none => cases h
  | some x => exact ⟨x.1, x.2.1, x.2.2, rfl, h⟩
def bd4 {γ a1 a2 a3 a4 : Type} (o : Option (a1 × a2 × a3 × a4)) (k : a1 → a2 → a3 → a4 → Option γ) : Option γ := match o with
  | none => none
  | some x => k x.1 x.2.1 x.2.2.1 x.2.2.2
theorem bd4_inv {γ a1 a2 a3 a4 : Type} {o : Option (a1 × a2 × a3 × a4)} {k : a1 → a2 → a3 → a4 → Option γ} {r : γ} (h : bd4 o k = some r) : ∃ x1 x2 x3 x4, o = some (x1, x2, x3, x4) ∧ k x1 x2 x3 x4 = some r := by
  cases o with
  | none => cases h
  | some x => exact ⟨x.1, x.2.1, x.2.2.1, x.2.2.2, rfl, h⟩
def bd5 {γ a1 a2 a3 a4 a5 : Type} (o : Option (a1 × a2 × a3 × a4 × a5)) (k : a1 → a2 → a3 → a4 → a5 → Option γ) : Option γ := match o with
  | none => none
  | some x => k x.1 x.2.1 x.2.2.1 x.2.2.2.1 x.2.2.2.2
theorem bd5_inv {γ a1 a2 a3 a4 a5 : Type} {o : Option (a1 × a2 × a3 × a4 × a5)} {k : a1 → a2 → a3 → a4 → a5 → Option γ} {r : γ} (h : bd5 o k = some r) : ∃ x1 x2 x3 x4 x5, o = some (x1, x2, x3, x4, x5) ∧ k x1 x2 x3 x4 x5 = some r := by
  cases o with
  | none => cases h
  | some x => exact ⟨x.1, x.2.1, x.2.2.1, x.2.2.2.1, x.2.2.2.2, rfl, h⟩
def bd6 {γ a1 a2 a3 a4 a5 a6 : Type} (o : Option (a1 × a2 × a3 × a4 × a5 × a6)) (k : a1 → a2 → a3 → a4 → a5 → a6 → Option γ) : Option γ := match o with
  | none => none
  | some x => k x.1 x.2.1 x.2.2.1 x.2.2.2.1 x.2.2.2.2.1 x.2.2.2.2.2
theorem bd6_inv {γ a1 a2 a3 a4 a5 a6 : Type} {o : Option (a1 × a2 × a3 × a4 × a5 × a6)} {k : a1 → a2 → a3 → a4 → a5 → a6 → Option γ} {r : γ} (h : bd6 o k = some r) : ∃ x1 x2 x3 x4 x5 x6, o = some (x1, x2, x3, x4, x5, x6) ∧ k x1 x2 x3 x4 x5 x6 = some r := by
  cases o with
  | none => cases h
  | some x => exact ⟨x.1, x.2.1, x.2.2.1, x.2.2.2.1, x.2.2.2.2.1, x.2.2.2.2.2, rfl, h⟩
def bd7 {γ a1 a2 a3 a4 a5 a6 a7 : Type} (o : Option (a1 × a2 × a3 × a4 × a5 × a6 × a7)) (k : a1 → a2 → a3 → a4 → a5 → a6 → a7 → Option γ) : Option γ := match o with
  | none => none
  | some x => k x.1 x.2.1 x.2.2.1 x.2.2.2.1 x.2.2.2.2.1 x.2.2.2.2.2.1 x.2.2.2.2.2.2
theorem bd7_inv {γ a1 a2 a3 a4 a5 a6 a7 : Type} {o : Option (a1 × a2 × a3 × a4 × a5 × a6 × a7)} {k : a1 → a2 → a3 → a4 → a5 → a6 → a7 → Option γ} {r : γ} (h : bd7 o k = some r) : ∃ x1 x2 x3 x4 x5 x6 x7, o = some (x1, x2, x3, x4, x5, x6, x7) ∧ k x1 x2 x3 x4 x5 x6 x7 = some r := by
  cases o with
  | none => cases h
  | some x => exact ⟨x.1, x.2.1, x.2.2.1, x.2.2.2.1, x.2.2.2.2.1, x.2.2.2.2.2.1, x.2.2.2.2.2.2, rfl, h⟩
def bd8 {γ a1 a2 a3 a4 a5 a6 a7 a8 : Type} (o : Option (a1 × a2 × a3 × a4 × a5 × a6 × a7 × a8)) (k : a1 → a2 → a3 → a4 → a5 → a6 → a7 → a8 → Option γ) : Option γ := match o with
  | none => none
  | some x => k x.1 x.2.1 x.2.2.1 x.2.2.2.1 x.2.2.2.2.1 x.2.2.2.2.2.1 x.2.2.2.2.2.2.1 x.2.2.2.2.2.2.2
theorem bd8_inv {γ a1 a2 a3 a4 a5 a6 a7 a8 : Type} {o : Option (a1 × a2 × a3 × a4 × a5 × a6 × a7 × a8)} {k : a1 → a2 → a3 → a4 → a5 → a6 → a7 → a8 → Option γ} {r : γ} (h : bd8 o k = some r) : ∃ x1 x2 x3 x4 x5 x6 x7 x8, o = some (x1, x2, x3, x4, x5, x6, x7, x8) ∧ k x1 x2 x3 x4 x5 x6 x7 x8 = some r := by
  cases o with
  | none => cases h
  | some x => exact ⟨x.1, x.2.1, x.2.2.1, x.2.2.2.1, x.2.2.2.2.1, x.2.2.2.2.2.1, x.2.2.2.2.2.2.1, x.2.2.2.2.2.2.2, rfl, h⟩
def bd9 {γ a1 a2 a3 a4 a5 a6 a7 a8 a9 : Type} (o : Option (a1 × a2 × a3 × a4 × a5 × a6 × a7 × a8 × a9)) (k : a1 → a2 → a3 → a4 → a5 → a6 → a7 → a8 → a9 → Option γ) : Option γ := match o with
  | none => none
  | some x => k x.1 x.2.1 x.2.2.1 x.2.2.2.1 x.2.2.2.2.1 x.2.2.2.2.2.1 x.2.2.2.2.2.2.1 x.2.2.2.2.2.2.2.1 x.2.2.2.2.2.2.2.2
theorem bd9_inv {γ a1 a2 a3 a4 a5 a6 a7 a8 a9 : Type} {o : Option (a1 × a2 × a3 × a4 × a5 × a6 × a7 × a8 × a9)} {k : a1 → a2 → a3 → a4 → a5 → a6 → a7 → a8 → a9 → Option γ} {r : γ} (h : bd9 o k = some r) : ∃ x1 x2 x3 x4 x5 x6 x7 x8 x9, o = some (x1, x2, x3, x4, x5, x6, x7, x8, x9) ∧ k x1 x2 x3 x4 x5 x6 x7 x8 x9 = some r := by
  cases o with
  | none => cases h
  | some x => exact ⟨x.1, x.2.1, x.2.2.1, x.2.2.2.1, x.2.2.2.2.1, x.2.2.2.2.2.1, x.2.2.2.2.2.2.1, x.2.2.2.2.2.2.2.1, x.2.2.2.2.2.2.2.2, rfl, h⟩
def bd10 {γ a1 a2 a3 a4 a5 a6 a7 a8 a9 a10 : Type} (o : Option (a1 × a2 × a3 × a4 × a5 × a6 × a7 × a8 × a9 × a10)) (k : a1 → a2 → a3 → a4 → a5 → a6 → a7 → a8 → a9 → a10 → Option γ) : Option γ := match o with
  | none => none
  | some x => k x.1 x.2.1 x.2.2.1 x.2.2.2.1 x.2.2.2.2.1 x.2.2.2.2.2.1 x.2.2.2.2.2.2.1 x.2.2.2.2.2.2.2.1 x.2.2.2.2.2.2.2.2.1 x.2.2.2.2.2.2.2.2.2
theorem bd10_inv {γ a1 a2 a3 a4 a5 a6 a7 a8 a9 a10 : Type} {o : Option (a1 × a2 × a3 × a4 × a5 × a6 × a7 × a8 × a9 × a10)} {k : a1 → a2 → a3 → a4 → a5 → a6 → a7 → a8 → a9 → a10 → Option γ} {r : γ} (h : bd10 o k = some r) : ∃ x1 x2 x3 x4 x5 x6 x7 x8 x9 x10, o = some (x1, x2, x3, x4, x5, x6, x7, x8, x9, x10) ∧ k x1 x2 x3 x4 x5 x6 x7 x8 x9 x10 = some r := by
  cases o with
  | none => cases h
  | some x => exact ⟨x.1, x.2.1, x.2.2.1, x.2.2.2.1, x.2.2.2.2.1, x.2.2.2.2.2.1, x.2.2.2.2.2.2.1, x.2.2.2.2.2.2.2.1, x.2.2.2.2.2.2.2.2.1, x.2.2.2.2.2.2.2.2.2, rfl, h⟩
def bd11 {γ a1 a2 a3 a4 a5 a6 a7 a8 a9 a10 a11 : Type} (o : Option (a1 × a2 × a3 × a4 × a5 × a6 × a7 × a8 × a9 × a10 × a11)) (k : a1 → a2 → a3 → a4 → a5 → a6 → a7 → a8 → a9 → a10 → a11 → Option γ) : Option γ := match o with
  | none => none
  | some x => k x.1 x.2.1 x.2.2.1 x.2.2.2.1 x.2.2.2.2.1 x.2.2.2.2.2.1 x.2.2.2.2.2.2.1 x.2.2.2.2.2.2.2.1 x.2.2.2.2.2.2.2.2.1 x.2.2.2.2.2.2.2.2.2.1 x.2.2.2.2.2.2.2.2.2.2
theorem bd11_inv {γ a1 a2 a3 a4 a5 a6 a7 a8 a9 a10 a11 : Type} {o : Option (a1 × a2 × a3 × a4 × a5 × a6 × a7 × a8 × a9 × a10 × a11)} {k : a1 → a2 → a3 → a4 → a5 → a6 → a7 → a8 → a9 → a10 → a11 → Option γ} {r : γ} (h : bd11 o k = some r) : ∃ x1 x2 x3 x4 x5 x6 x7 x8 x9 x10 x11, o = some (x1, x2, x3, x4, x5, x6, x7, x8, x9, x10, x11) ∧ k x1 x2 x3 x4 x5 x6 x7 x8 x9 x10 x11 = some r := by
  cases o with
  | none => cases h
  | some x => exact ⟨x.1, x.2.1, x.2.2.1, x.2.2.2.1, x.2.2.2.2.1, x.2.2.2.2.2.1, x.2.2.2.2.2.2.1, x.2.2.2.2.2.2.2.1, x.2.2.2.2.2.2.2.2.1, x.2.2.2.2.2.2.2.2.2.1, x.2.2.2.2.2.2.2.2.2.2, rfl, h⟩
def bd12 {γ a1 a2 a3 a4 a5 a6 a7 a8 a9 a10 a11 a12 : Type} (o : Option (a1 × a2 × a3 × a4 × a5 × a6 × a7 × a8 × a9 × a10 × a11 × a12)) (k : a1 → a2 → a3 → a4 → a5 → a6 → a7 → a8 → a9 → a10 → a11 → a12 → Option γ) : Option γ := match o with
  | none => none
  | some x => k x.1 x.2.1 x.2.2.1 x.2.2.2.1 x.2.2.2.2.1 x.2.2.2.2.2.1 x.2.2.2.2.2.2.1 x.2.2.2.2.2.2.2.1 x.2.2.2.2.2.2.2.2.1 x.2.2.2.2.2.2.2.2.2.1 x.2.2.2.2.2.2.2.2.2.2.1 x.2.2.2.2.2.2.2.2.2.2.2
theorem bd12_inv {γ a1 a2 a3 a4 a5 a6 a7 a8 a9 a10 a11 a12 : Type} {o : Option (a1 × a2 × a3 × a4 × a5 × a6 × a7 × a8 × a9 × a10 × a11 × a12)} {k : a1 → a2 → a3 → a4 → a5 → a6 → a7 → a8 → a9 → a10 → a11 → a12 → Option γ} {r : γ} (h : bd12 o k = some r) : ∃ x1 x2 x3 x4 x5 x6 x7 x8 x9 x10 x11 x12, o = some (x1, x2, x3, x4, x5, x6, x7, x8, x9, x10, x11, x12) ∧ k x1 x2 x3 x4 x5 x6 x7 x8 x9 x10 x11 x12 = some r := by
  cases o with
  | none => cases h
  | some x => exact ⟨x.1, x.2.1, x.2.2.1, x.2.2.2.1, x.2.2.2.2.1, x.2.2.2.2.2.1, x.2.2.2.2.2.2.1, x.2.2.2.2.2.2.2.1, x.2.2.2.2.2.2.2.2.1, x.2.2.2.2.2.2.2.2.2.1, x.2.2.2.2.2.2.2.2.2.2.1, x.2.2.2.2.2.2.2.2.2.2.2, rfl, h⟩
/-- switches -/
def nel (x : Int32) : List Int32 → Prop
  | [] => True
  | v :: vs => ¬ x = v ∧ nel x vs
theorem nel_mem {x : Int32} : ∀ {vs : List Int32}, nel x vs → ∀ v ∈ vs, ¬ x = v := by
  intro vs
  induction vs with
  | nil => intro _ v hv; exact absurd hv List.not_mem_nil
  | cons a vs ih => intro h v hv; exact (List.mem_cons.mp hv).elim (fun e => by rw [e]; exact h.1) (ih h.2 v)
def tabvs (lo hi : Int) (vs : List Int32) : Bool := decide (vs.map (fun v => v.toInt) = (List.range vs.length).map (fun (k : Nat) => lo + (k : Int))) && decide (hi = lo + (vs.length : Int) - 1)
theorem tab_out {lo hi : Int} {vs : List Int32} (x : Int32) (hv : tabvs lo hi vs = true) (h : nel x vs) : x.toInt < lo ∨ hi < x.toInt := by
  unfold tabvs at hv
  simp only [Bool.and_eq_true, decide_eq_true_eq] at hv
  obtain ⟨h1, h2⟩ := hv
  rcases Int.lt_or_le x.toInt lo with a | a
  · exact Or.inl a
  · rcases Int.lt_or_le hi x.toInt with b | b
    · exact Or.inr b
    · exfalso
      have hk : (x.toInt - lo).toNat < vs.length := by omega
      have e1 : (vs.map (fun v => v.toInt))[(x.toInt - lo).toNat]? = some (lo + (((x.toInt - lo).toNat : Nat) : Int)) := by
        rw [h1, List.getElem?_map, List.getElem?_range hk]
        rfl
      rw [List.getElem?_map] at e1
      cases e2 : vs[(x.toInt - lo).toNat]? with
      | none => rw [e2] at e1; cases e1
      | some v =>
        rw [e2] at e1
        have e3 : v.toInt = lo + (((x.toInt - lo).toNat : Nat) : Int) := Option.some.inj e1
        have e4 : x = v := Int32.toInt_inj.mp (by omega)
        exact nel_mem h v (List.mem_of_getElem? e2) e4
theorem lk_out {ps : List (Int × Int)} {dflt : Int} (x : Int32) : ∀ {vs : List Int32}, vs.map (fun v => v.toInt) = ps.map (fun q => q.1) → nel x vs → Op.lookupswitch.offset ps dflt x.toInt = dflt := by
  induction ps with
  | nil => intro vs _ _; rfl
  | cons q ps ih =>
    intro vs h hn
    cases vs with
    | nil => cases h
    | cons v vs =>
      have h1 : v.toInt = q.1 := (List.cons.inj h).1
      have h2 := (List.cons.inj h).2
      show (if q.1 = x.toInt then q.2 else Op.lookupswitch.offset ps dflt x.toInt) = dflt
      rw [if_neg (fun e => hn.1 (Int32.toInt_inj.mp (e.symm.trans h1.symm)))]
      exact ih h2 hn.2
section OK3
variable {p : Program} {l : Launch} {e : Env} {R : Room} {s : State} {m : MethodId} {args : Array Value} {below : List Frame} {meth : Method} {c : Code} {H : Heap} {locs : List Loc} {cells slots : Nat} {Q : State → Prop}
variable {cc : ByteArray} {pc nL : Nat} {ls : Array Slot} {rest : List Value} {A : Nat → Prop} {G : Gt} {ws : va_W} {own : String}
theorem r_tab {dflt lo hi : Int} {offs : Array Int} {len tgt : Nat} {x : Int32} {off : Int} (C : CallFix p m c cc nL s args gw_tbl own) (hdg : decode cc pc = .ok (.tableswitch dflt lo hi offs, len)) (v : Int32) (hv : x = v) (h1 : ¬ v.toInt < lo ∧ ¬ hi < v.toInt) (ho : offs[(v.toInt - lo).toNat]? = some off) (ht : (pc : Int) + off = (tgt : Int)) (k : W p l e R s m args below meth c H locs cells slots Q (F0 m tgt ls rest)) : W p l e R s m args below meth c H locs cells slots Q (F0 m pc ls (.int x :: rest)) := by
  subst hv
  exact lv_tableIn C.1 C.2.1 hdg h1.1 h1.2 ho ht k
theorem r_tabD {dflt lo hi : Int} {offs : Array Int} {len tgt : Nat} {x : Int32} (C : CallFix p m c cc nL s args gw_tbl own) (hdg : decode cc pc = .ok (.tableswitch dflt lo hi offs, len)) (vs : List Int32) (hvs : tabvs lo hi vs = true) (h : nel x vs) (ht : (pc : Int) + dflt = (tgt : Int)) (k : W p l e R s m args below meth c H locs cells slots Q (F0 m tgt ls rest)) : W p l e R s m args below meth c H locs cells slots Q (F0 m pc ls (.int x :: rest)) :=
  lv_tableOut C.1 C.2.1 hdg (tab_out x hvs h) ht k
theorem r_lk {dflt : Int} {ps : Array (Int × Int)} {len tgt : Nat} {x : Int32} {off : Int} (C : CallFix p m c cc nL s args gw_tbl own) (hdg : decode cc pc = .ok (.lookupswitch dflt ps, len)) (hp : (ps.toList.zip (ps.toList.drop 1)).all (fun (a, next) => a.1 < next.1) = true) (v : Int32) (hv : x = v) (ho : Op.lookupswitch.offset ps.toList dflt v.toInt = off) (ht : (pc : Int) + off = (tgt : Int)) (k : W p l e R s m args below meth c H locs cells slots Q (F0 m tgt ls rest)) : W p l e R s m args below meth c H locs cells slots Q (F0 m pc ls (.int x :: rest)) := by
  subst hv
  exact lv_lookup C.1 C.2.1 hdg hp ho ht k
theorem r_lkD {dflt : Int} {ps : Array (Int × Int)} {len tgt : Nat} {x : Int32} (C : CallFix p m c cc nL s args gw_tbl own) (hdg : decode cc pc = .ok (.lookupswitch dflt ps, len)) (hp : (ps.toList.zip (ps.toList.drop 1)).all (fun (a, next) => a.1 < next.1) = true) (vs : List Int32) (hvs : vs.map (fun v => v.toInt) = ps.toList.map (fun q => q.1)) (h : nel x vs) (ht : (pc : Int) + dflt = (tgt : Int)) (k : W p l e R s m args below meth c H locs cells slots Q (F0 m tgt ls rest)) : W p l e R s m args below meth c H locs cells slots Q (F0 m pc ls (.int x :: rest)) :=
  lv_lookup C.1 C.2.1 hdg hp (lk_out x hvs h) ht k
/-- the static row of KINDS -/
def SAt (A : Nat → Prop) (s : State) (aS : Nat) : Prop := va_X aS 6 tb_SA s s.heap ∧ ¬ A aS ∧ aS < s.heap.size
theorem r_getSA {index : Nat} (C : CallFix p m c cc nL s args gw_tbl own) (h : Wd G A s ws H locs) (fl : Cond.fieldLink own index "LightHalves" "SELF_AND_ABOVE" "[I" ∈ gw_tbl) (hdg : decode cc pc = .ok (.getstatic index, 3))
    (kk : ∀ aS : Nat, SAt A s aS → W p l e R s m args below meth c H locs cells slots Q (F0 m (pc + 3) ls (.ref aS :: rest))) : W p l e R s m args below meth c H locs cells slots Q (F0 m pc ls rest) := by
  obtain ⟨aS, h2, h3, h4, h8⟩ := h.2.2.2.2.2.2.1
  exact va_gets C.1 C.2.1 h2 h.2.2.2.1 C.2.2.2.1 (C.2.2.2.2 _ fl) (fun _ h9 => h9) hdg (kk aS ⟨h3, h4, h8⟩)
theorem r_ldSA {aS : Nat} {i : Int32} (C : CallFix p m c cc nL s args gw_tbl own) (h : Wd G A s ws H locs) (hs : SAt A s aS) (hin : vp_in i 6) (hdg : decode cc pc = .ok (.iaload, 1))
    (kk : W p l e R s m args below meth c H locs cells slots Q (F0 m (pc + 1) ls (.int (tb_SA i.toNatClampNeg) :: rest))) : W p l e R s m args below meth c H locs cells slots Q (F0 m pc ls (.int i :: .ref aS :: rest)) :=
  va_sld C.1 C.2.1 hs.1 hs.2.2 hs.2.1 h.2.2.2.1 hin hdg kk
end OK3
