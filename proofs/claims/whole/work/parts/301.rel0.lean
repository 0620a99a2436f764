/-! ===== the law: both sides are alike at first ===== -/
def x0 : Nat → Int32 := fun j => ([(0 : Int32), (0 : Int32), (0 : Int32), (0 : Int32), (12 : Int32), (1 : Int32), (0 : Int32), (0 : Int32), (0 : Int32), (0 : Int32), (0 : Int32), (0 : Int32), (0 : Int32), (12 : Int32), (1 : Int32), (0 : Int32), (0 : Int32), (0 : Int32), (0 : Int32), (0 : Int32), (0 : Int32), (0 : Int32), (0 : Int32), (0 : Int32), (0 : Int32), (0 : Int32), (0 : Int32), (0 : Int32), (-3 : Int32), (0 : Int32), (0 : Int32), (0 : Int32), (0 : Int32), (0 : Int32), (0 : Int32), (0 : Int32), (0 : Int32), (0 : Int32), (0 : Int32), (0 : Int32), (0 : Int32), (0 : Int32), (0 : Int32), (0 : Int32), (0 : Int32), (0 : Int32), (0 : Int32), (0 : Int32), (0 : Int32), (0 : Int32), (0 : Int32), (19 : Int32), (0 : Int32), (0 : Int32), (0 : Int32), (0 : Int32), (0 : Int32), (0 : Int32), (0 : Int32), (0 : Int32), (0 : Int32), (0 : Int32)] : List Int32).getD j 0
def f0 : Nat → Nat → Int32 := fun j => ([(fun _ => 0), (fun _ => 0), (fun _ => 0), flc_X3_init, (fun _ => 0), (fun _ => 0), (fun _ => 0), (fun _ => 0), (fun _ => 0), (fun _ => 0), (fun _ => 0), (fun _ => 0), (fun _ => 0), (fun _ => 0), (fun _ => 0), (fun _ => 0), (fun _ => 0), (fun _ => 0), (fun _ => 0), (fun _ => 0), (fun _ => 0), flc_X3_init, (fun _ => 0), (fun _ => 0), (fun _ => 0), (fun _ => 0), (fun _ => 0), (fun _ => 0), (fun _ => 0), (fun _ => 0), (fun _ => 0), (fun _ => 0), (fun _ => 0), (fun _ => 0), (fun _ => 0), (fun _ => 0), (fun _ => 0), (fun _ => 0), (fun _ => 0), (fun _ => 0), (fun _ => 0), (fun _ => 0), (fun _ => 0), (fun _ => 0), (fun _ => 0), (fun _ => 0), (fun _ => 0), (fun _ => 0), (fun _ => 0), (fun _ => 0), (fun _ => 0), (fun _ => 0), flc_X0_init, (fun _ => 0), (fun _ => 0), (fun _ => 0), (fun _ => 0), (fun _ => 0), (fun _ => 0), (fun _ => 0), (fun _ => 0), (fun _ => 0)] : List (Nat → Int32)).getD j (fun _ => 0)
def y0 : Nat → Int32 := fun j => ([0, 0, 0, 0, 0, 0, 0, 0, 0, 0, 0, 0, 0, 0, 0, 0, 0] : List Int32).getD j 0
def g0 : Nat → Nat → Int32 := fun j => ([(upd (upd (upd (upd (upd (upd (upd (upd (upd (upd (upd (upd (upd (upd (upd (upd (upd (upd (fun _ => 0) 1 (12 : Int32)) 3 (1 : Int32)) 7 (6 : Int32)) 8 (6 : Int32)) 9 (6 : Int32)) 10 (6 : Int32)) 11 (6 : Int32)) 12 (6 : Int32)) 13 (6 : Int32)) 14 (6 : Int32)) 15 (6 : Int32)) 16 (6 : Int32)) 17 (6 : Int32)) 18 (6 : Int32)) 19 (6 : Int32)) 20 (6 : Int32)) 21 (6 : Int32)) 22 (6 : Int32)), (fun _ => 0), (fun _ => 0), (fun _ => 0), (fun _ => 0), (lt_f 144), (fun _ => 0), (fun _ => 0), (fun _ => 0), (fun _ => 0), (fun _ => 0), (fun _ => 0), (fun _ => 0), (fun _ => 0), (upd (upd (upd (upd (fun _ => 0) 0 (-1 : Int32)) 1 (-1 : Int32)) 2 (-1 : Int32)) 3 (-1 : Int32)), (fun _ => 0), (fun _ => 0), (upd (upd (upd (upd (fun _ => 0) 0 (-1 : Int32)) 1 (-1 : Int32)) 2 (-1 : Int32)) 3 (-1 : Int32)), (fun _ => 0), (fun _ => 0)] : List (Nat → Int32)).getD j (fun _ => 0)
def a0 : Nat → Nat := fun j => if j = 1 then 12 else if 7 ≤ j ∧ j < 23 then 6 else 0
def s0 : Nat → Int32 := (upd (upd (upd (upd (upd (upd (upd (upd (upd (upd (upd (upd (upd (upd (upd (upd (upd (upd (fun _ => 0) 1 (12 : Int32)) 3 (1 : Int32)) 7 (6 : Int32)) 8 (6 : Int32)) 9 (6 : Int32)) 10 (6 : Int32)) 11 (6 : Int32)) 12 (6 : Int32)) 13 (6 : Int32)) 14 (6 : Int32)) 15 (6 : Int32)) 16 (6 : Int32)) 17 (6 : Int32)) 18 (6 : Int32)) 19 (6 : Int32)) 20 (6 : Int32)) 21 (6 : Int32)) 22 (6 : Int32))
theorem s0_eq : g0 0 = s0 := rfl
theorem s0_tab : ∀ j, j < 89 → j ≠ 2 → j ≠ 3 → s0 j = nI (a0 j) := by decide +kernel
theorem BA0 : BA a0 := by
  refine ⟨by decide, by decide, by decide, ?_, ?_, ?_, ?_⟩
  · decide +kernel
  · decide +kernel
  · decide +kernel
  · decide +kernel
theorem REL0 : REL x0 f0 y0 g0 := by
  have hE : ∀ k, k < 6 → (0 : Int32) = nI (a0 (35 + 5 * k)) ∧ (0 : Int32) = nI (a0 (37 + 5 * k)) ∧ (0 : Int32) = nI (a0 (38 + 5 * k)) := by decide +kernel
  have hL : ∀ w, w < 16 → flc_X3_init w = nI (a0 (7 + w)) := by
    have t : ∀ w, w < 16 → (6 : Int32) = nI (a0 (7 + w)) := by decide +kernel
    intro w hw
    rw [flc_X3_init_ok.2 w hw]; exact t w hw
  have hCu : ∀ c, c < 6 → (0 : Int32) = nI (a0 (23 + c)) ∧ (0 : Int32) = nI (a0 (29 + c)) := by decide +kernel
  have hO : ∀ k, k < 6 → (0 : Int32) = nI (a0 (36 + 5 * k)) := by decide +kernel
  have hRp : ∀ r, r < 6 → (0 : Int32) = nI (a0 (65 + 4 * r)) ∧ (0 : Int32) = nI (a0 (66 + 4 * r)) ∧ (0 : Int32) = nI (a0 (67 + 4 * r)) ∧ (0 : Int32) = nI (a0 (68 + 4 * r)) := by decide +kernel
  have hRb : ∀ r, r < 6 → a0 (65 + 4 * r) ≤ 15 ∧ a0 (66 + 4 * r) ≤ 1 ∧ a0 (67 + 4 * r) ≤ 99 ∧ a0 (68 + 4 * r) ≤ 99 := by decide +kernel
  have hb0 : (0 : Int32) = nI (hb a0) := by decide +kernel
  refine ⟨⟨a0, [], BA0, ⟨rfl, hE, hL, hCu⟩, ⟨rfl, hb0, hO⟩, rfl, ⟨trivial, fun r hr => absurd hr List.not_mem_nil, by decide⟩, rfl, rfl, ⟨rfl, by decide, hRp, hRb⟩, ⟨s0_tab, by decide +kernel, by decide +kernel, fun _ _ => rfl⟩, ⟨trivial, fun r hr => absurd hr List.not_mem_nil, by decide, rfl⟩⟩, Or.inl ⟨rfl, rfl⟩, ⟨0, by decide, rfl, rfl, fun i h => absurd h (Nat.not_lt_zero i)⟩, ⟨0, by decide, rfl, rfl, fun j _ => rfl⟩, ⟨fun i hi => ?_, fun j _ => rfl, fun i hi => Or.inl ⟨rfl, ?_⟩⟩, ⟨0, by decide, rfl, rfl, fun i _ => rfl⟩, lt_InL, rfl⟩
  · have t : ∀ i, i < 4 → (upd (upd (upd (upd (fun _ => 0) 0 (-1 : Int32)) 1 (-1 : Int32)) 2 (-1 : Int32)) 3 (-1 : Int32)) i = nI 0 - 1 := by decide +kernel
    refine ⟨0, 0, by decide, by decide, ?_, t i hi, rfl, rfl⟩
    rw [show (nI 0 - 1 : Int32) = -1 by decide]
    exact flc_X0_init_ok.2 i hi
  · have t : ∀ i, i < 4 → (upd (upd (upd (upd (fun _ => 0) 0 (-1 : Int32)) 1 (-1 : Int32)) 2 (-1 : Int32)) 3 (-1 : Int32)) i = -1 := by decide +kernel
    exact t i hi
