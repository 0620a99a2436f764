def f_X9_bestFor_b59 (rec23 : Int32 → Int32 → Int32 → (Nat → Int32) → (Nat → Int32) → (Nat → Int32) → Option (Int32 × (Nat → Int32) × (Nat → Int32) × (Nat → Int32))) (v5 : Int32) (v6 : Int32) (v7 : Int32) (s0 : Int32) (g_this_laid : Nat → Int32) (g_this_pile : Nat → Int32) (g_this_s : Nat → Int32) : Option (Int32 × (Nat → Int32) × (Nat → Int32) × (Nat → Int32)) := (if v7 ≤ v5 then bd1 (f_X9_layBack g_this_laid g_this_s) (fun g15 => lt1 (v6 + (1 : Int32)) (fun (t17 : Int32) => rec23 s0 v5 t17 g_this_laid g_this_pile g15)) else bd1 (f_X9_layBack g_this_laid g_this_s) (fun g18 => lt1 (v6 + (1 : Int32)) (fun (t20 : Int32) => rec23 s0 v7 t20 g_this_laid g_this_pile g18)))
def f_X9_bestFor_L23 (p0 : Int32) (p1 : Int32) (p2 : Int32) : Nat → Int32 → Int32 → Int32 → (Nat → Int32) → (Nat → Int32) → (Nat → Int32) → Option (Int32 × (Nat → Int32) × (Nat → Int32) × (Nat → Int32))
  | 0, _, _, _, _, _, _ => none
  | n + 1, v4, v5, v6, g_this_laid, g_this_pile, g_this_s => (if p2 < v6 then some (v4, g_this_laid, g_this_pile, g_this_s) else bd1 (f_X9_puts p0 p1 v6 g_this_s) (fun g7 => bd3 (f_X9_restOf (16 : Int32) g_this_pile g7) (fun r9 g10 g11 => (if r9 ≤ v5 then f_X9_bestFor_b59 (f_X9_bestFor_L23 p0 p1 p2 n) v5 v6 r9 v4 g_this_laid g10 g11 else f_X9_bestFor_b59 (f_X9_bestFor_L23 p0 p1 p2 n) v5 v6 r9 v6 g_this_laid g10 g11))))
def f_X9_bestFor (p0 : Int32) (p1 : Int32) (p2 : Int32) (f_this_laid : Nat → Int32) (f_this_pile : Nat → Int32) (f_this_s : Nat → Int32) : Option (Int32 × (Nat → Int32) × (Nat → Int32) × (Nat → Int32)) := bd1 (f_X9_isShip p0 f_this_s) (fun r1 => (if r1 = 0 then some ((-1 : Int32), f_this_laid, f_this_pile, f_this_s) else bd1 (f_X9_layDown f_this_laid f_this_s) (fun g4 => f_X9_bestFor_L23 p0 p1 p2 1000 (0 : Int32) (-1 : Int32) (0 : Int32) g4 f_this_pile f_this_s)))
set_option maxRecDepth 100000 in
set_option maxHeartbeats 4000000 in
theorem c_X9_bestFor {l : Launch} {G : Gt} {h_this h_this_s h_this_kept h_this_laid h_this_pile h_this_tape h_this_letters h_this_code0 h_this_read h_this_saved h_this_plan h_this_bestPlan h_this_offThen h_this_paidThen h_this_rows h_this_sorts h_this_sizes h_this_number h_this_holds h_this_heldOne h_this_trace : Nat} {p0 : Int32} {p1 : Int32} {p2 : Int32} {x_this_isKept : Int32} {x_this_taped : Int32} {x_this_at : Int32} {x_this_begun : Int32} {x_this_token : Int32} {x_this_value : Int32} {x_this_opened : Int32} {x_this_steps : Int32} {x_this_most : Int32} {x_this_many : Int32} {x_this_few : Int32} {x_this_everHome : Int32} {x_this_firstFit : Int32} {x_this_rowMany : Int32} {x_this_traced : Int32} {x_this_own : Int32} {x_this_isParted : Int32} {f_this_laid : Nat → Int32} {f_this_pile : Nat → Int32} {f_this_s : Nat → Int32} {r : Int32} {m_this_laid : Nat → Int32} {m_this_pile : Nat → Int32} {m_this_s : Nat → Int32} (hf : f_X9_bestFor p0 p1 p2 f_this_laid f_this_pile f_this_s = some (r, m_this_laid, m_this_pile, m_this_s)) : mFi l G yX9_bestFor cX9_bestFor 8 .int 8 [.ref h_this, .int p0, .int p1, .int p2] [(h_this, ob 9 [.ref h_this_s, .ref h_this_kept, .ref h_this_laid, .int x_this_isKept, .ref h_this_pile, .ref h_this_tape, .int x_this_taped, .ref h_this_letters, .int x_this_at, .int x_this_begun, .int x_this_token, .int x_this_value, .int x_this_opened, .int x_this_steps, .ref h_this_code0, .ref h_this_read, .ref h_this_saved, .ref h_this_plan, .ref h_this_bestPlan, .int x_this_most, .int x_this_many, .int x_this_few, .int x_this_everHome, .ref h_this_offThen, .ref h_this_paidThen, .int x_this_firstFit, .ref h_this_rows, .int x_this_rowMany, .ref h_this_sorts, .ref h_this_sizes, .ref h_this_number, .ref h_this_holds, .ref h_this_heldOne, .ref h_this_trace, .int x_this_traced, .int x_this_own, .int x_this_isParted]), (h_this_laid, ia G 65 f_this_laid), (h_this_pile, ia G 200 f_this_pile), (h_this_s, ia G 313 f_this_s)] r [(h_this, ob 9 [.ref h_this_s, .ref h_this_kept, .ref h_this_laid, .int x_this_isKept, .ref h_this_pile, .ref h_this_tape, .int x_this_taped, .ref h_this_letters, .int x_this_at, .int x_this_begun, .int x_this_token, .int x_this_value, .int x_this_opened, .int x_this_steps, .ref h_this_code0, .ref h_this_read, .ref h_this_saved, .ref h_this_plan, .ref h_this_bestPlan, .int x_this_most, .int x_this_many, .int x_this_few, .int x_this_everHome, .ref h_this_offThen, .ref h_this_paidThen, .int x_this_firstFit, .ref h_this_rows, .int x_this_rowMany, .ref h_this_sorts, .ref h_this_sizes, .ref h_this_number, .ref h_this_holds, .ref h_this_heldOne, .ref h_this_trace, .int x_this_traced, .int x_this_own, .int x_this_isParted]), (h_this_laid, ia G 65 m_this_laid), (h_this_pile, ia G 200 m_this_pile), (h_this_s, ia G 313 m_this_s)] := by
  refine mFi.of (by decide +kernel) (Nat.le_of_ble_eq_true rfl) ?_
  intro p e s m below meth c A C hr hlk h ls hl
  obtain ⟨hx, hb, hml, hown, hts⟩ := id C
  replace hl : lv_has ls 8 [(0, .ref h_this), (1, .int p0), (2, .int p1), (3, .int p2)] := hl
  unfold f_X9_bestFor at hf
  refine with_K G A 8 (fun K hK1 hK2 => ?_)
  have B59 : ∀ (rec23 : Int32 → Int32 → Int32 → (Nat → Int32) → (Nat → Int32) → (Nat → Int32) → Option (Int32 × (Nat → Int32) × (Nat → Int32) × (Nat → Int32))) (hrec23 : ∀ (v4 : Int32) (v5 : Int32) (v6 : Int32) (g_this_laid : Nat → Int32) (g_this_pile : Nat → Int32) (g_this_s : Nat → Int32), rec23 v4 v5 v6 g_this_laid g_this_pile g_this_s = some (r, m_this_laid, m_this_pile, m_this_s) → K 23 ([] : List Value) [(h_this, ob 9 [.ref h_this_s, .ref h_this_kept, .ref h_this_laid, .int x_this_isKept, .ref h_this_pile, .ref h_this_tape, .int x_this_taped, .ref h_this_letters, .int x_this_at, .int x_this_begun, .int x_this_token, .int x_this_value, .int x_this_opened, .int x_this_steps, .ref h_this_code0, .ref h_this_read, .ref h_this_saved, .ref h_this_plan, .ref h_this_bestPlan, .int x_this_most, .int x_this_many, .int x_this_few, .int x_this_everHome, .ref h_this_offThen, .ref h_this_paidThen, .int x_this_firstFit, .ref h_this_rows, .int x_this_rowMany, .ref h_this_sorts, .ref h_this_sizes, .ref h_this_number, .ref h_this_holds, .ref h_this_heldOne, .ref h_this_trace, .int x_this_traced, .int x_this_own, .int x_this_isParted]), (h_this_laid, ia G 65 g_this_laid), (h_this_pile, ia G 200 g_this_pile), (h_this_s, ia G 313 g_this_s)] [(0, .ref h_this), (1, .int p0), (2, .int p1), (3, .int p2), (4, .int v4), (5, .int v5), (6, .int v6)]) (v5 : Int32) (v6 : Int32) (v7 : Int32) (s0 : Int32) (g_this_laid : Nat → Int32) (g_this_pile : Nat → Int32) (g_this_s : Nat → Int32), f_X9_bestFor_b59 rec23 v5 v6 v7 s0 g_this_laid g_this_pile g_this_s = some (r, m_this_laid, m_this_pile, m_this_s) → K 59 [.int s0] [(h_this, ob 9 [.ref h_this_s, .ref h_this_kept, .ref h_this_laid, .int x_this_isKept, .ref h_this_pile, .ref h_this_tape, .int x_this_taped, .ref h_this_letters, .int x_this_at, .int x_this_begun, .int x_this_token, .int x_this_value, .int x_this_opened, .int x_this_steps, .ref h_this_code0, .ref h_this_read, .ref h_this_saved, .ref h_this_plan, .ref h_this_bestPlan, .int x_this_most, .int x_this_many, .int x_this_few, .int x_this_everHome, .ref h_this_offThen, .ref h_this_paidThen, .int x_this_firstFit, .ref h_this_rows, .int x_this_rowMany, .ref h_this_sorts, .ref h_this_sizes, .ref h_this_number, .ref h_this_holds, .ref h_this_heldOne, .ref h_this_trace, .int x_this_traced, .int x_this_own, .int x_this_isParted]), (h_this_laid, ia G 65 g_this_laid), (h_this_pile, ia G 200 g_this_pile), (h_this_s, ia G 313 g_this_s)] [(0, .ref h_this), (1, .int p0), (2, .int p1), (3, .int p2), (5, .int v5), (6, .int v6), (7, .int v7)] := by
    intro rec23 hrec23 v5 v6 v7 s0 g_this_laid g_this_pile g_this_s hf
    unfold f_X9_bestFor_b59 at hf
    refine hK1 _ _ _ _ (fun H locs ls h hl => ?_)
    refine lv_istore (lv' := [(4, .int s0), (0, .ref h_this), (1, .int p0), (2, .int p1), (3, .int p2), (5, .int v5), (6, .int v6), (7, .int v7)]) hx hb dX9_bestFor_59 hl (by decide) rfl (fun ls hl => ?_)
    refine lv_iload hx hb dX9_bestFor_61 (lv_at hl 7 rfl) ?_
    refine lv_iload hx hb dX9_bestFor_63 (lv_at hl 5 rfl) ?_
    refine lv_icmp_le (tgt := 73) hx hb dX9_bestFor_65 rfl (fun c14 => ?_) (fun c14 => ?_)
    · replace hf := ifp c14 hf
      refine lv_iload hx hb dX9_bestFor_73 (lv_at hl 5 rfl) ?_
      refine lv_istore (lv' := [(5, .int v5), (4, .int s0), (0, .ref h_this), (1, .int p0), (2, .int p1), (3, .int p2), (6, .int v6), (7, .int v7)]) hx hb dX9_bestFor_75 hl (by decide) rfl (fun ls hl => ?_)
      refine lv_aload_n hx hb dX9_bestFor_77 rfl (lv_at hl 2 rfl) ?_
      replace hf := bd1_inv hf
      obtain ⟨g15, hc16, hf⟩ := hf
      refine r_cvV (ws' := [(h_this, ob 9 [.ref h_this_s, .ref h_this_kept, .ref h_this_laid, .int x_this_isKept, .ref h_this_pile, .ref h_this_tape, .int x_this_taped, .ref h_this_letters, .int x_this_at, .int x_this_begun, .int x_this_token, .int x_this_value, .int x_this_opened, .int x_this_steps, .ref h_this_code0, .ref h_this_read, .ref h_this_saved, .ref h_this_plan, .ref h_this_bestPlan, .int x_this_most, .int x_this_many, .int x_this_few, .int x_this_everHome, .ref h_this_offThen, .ref h_this_paidThen, .int x_this_firstFit, .ref h_this_rows, .int x_this_rowMany, .ref h_this_sorts, .ref h_this_sizes, .ref h_this_number, .ref h_this_holds, .ref h_this_heldOne, .ref h_this_trace, .int x_this_traced, .int x_this_own, .int x_this_isParted]), (h_this_laid, ia G 65 g_this_laid), (h_this_pile, ia G 200 g_this_pile), (h_this_s, ia G 313 g15)]) C h (c_X9_layBack hc16) mv_X9_247 rfl 0 rfl [0, 1, 3] rfl rfl [3] [(h_this_s, ia G 313 g15)] rfl rfl (by decide +kernel) rfl hl.1 rfl (Nat.le_of_ble_eq_true rfl) (rok (by decide)) dX9_bestFor_78 (fun H locs h => ?_)
      obtain ⟨t17, et17⟩ : ∃ y : Int32, y = v6 + (1 : Int32) := ⟨_, rfl⟩
      replace hf := lt1_inv et17 hf
      refine lv_iinc (v := t17) (lv' := [(6, .int t17), (5, .int v5), (4, .int s0), (0, .ref h_this), (1, .int p0), (2, .int p1), (3, .int p2), (7, .int v7)]) hx hb dX9_bestFor_81 hl (k := 6) rfl (by rw [et17]; rfl) (by decide) rfl (fun ls hl => ?_)
      refine lv_goto (tgt := 23) hx hb dX9_bestFor_84 rfl ?_
      exact hK2 _ _ _ _ (hrec23 s0 v5 t17 g_this_laid g_this_pile g15 hf) _ _ _ h (lv_sub hl [3, 4, 5, 6, 2, 1, 0] rfl)
    · replace hf := ifn c14 hf
      refine lv_iload hx hb dX9_bestFor_68 (lv_at hl 7 rfl) ?_
      refine lv_goto (tgt := 75) hx hb dX9_bestFor_70 rfl ?_
      refine lv_istore (lv' := [(5, .int v7), (4, .int s0), (0, .ref h_this), (1, .int p0), (2, .int p1), (3, .int p2), (6, .int v6), (7, .int v7)]) hx hb dX9_bestFor_75 hl (by decide) rfl (fun ls hl => ?_)
      refine lv_aload_n hx hb dX9_bestFor_77 rfl (lv_at hl 2 rfl) ?_
      replace hf := bd1_inv hf
      obtain ⟨g18, hc19, hf⟩ := hf
      refine r_cvV (ws' := [(h_this, ob 9 [.ref h_this_s, .ref h_this_kept, .ref h_this_laid, .int x_this_isKept, .ref h_this_pile, .ref h_this_tape, .int x_this_taped, .ref h_this_letters, .int x_this_at, .int x_this_begun, .int x_this_token, .int x_this_value, .int x_this_opened, .int x_this_steps, .ref h_this_code0, .ref h_this_read, .ref h_this_saved, .ref h_this_plan, .ref h_this_bestPlan, .int x_this_most, .int x_this_many, .int x_this_few, .int x_this_everHome, .ref h_this_offThen, .ref h_this_paidThen, .int x_this_firstFit, .ref h_this_rows, .int x_this_rowMany, .ref h_this_sorts, .ref h_this_sizes, .ref h_this_number, .ref h_this_holds, .ref h_this_heldOne, .ref h_this_trace, .int x_this_traced, .int x_this_own, .int x_this_isParted]), (h_this_laid, ia G 65 g_this_laid), (h_this_pile, ia G 200 g_this_pile), (h_this_s, ia G 313 g18)]) C h (c_X9_layBack hc19) mv_X9_247 rfl 0 rfl [0, 1, 3] rfl rfl [3] [(h_this_s, ia G 313 g18)] rfl rfl (by decide +kernel) rfl hl.1 rfl (Nat.le_of_ble_eq_true rfl) (rok (by decide)) dX9_bestFor_78 (fun H locs h => ?_)
      obtain ⟨t20, et20⟩ : ∃ y : Int32, y = v6 + (1 : Int32) := ⟨_, rfl⟩
      replace hf := lt1_inv et20 hf
      refine lv_iinc (v := t20) (lv' := [(6, .int t20), (5, .int v7), (4, .int s0), (0, .ref h_this), (1, .int p0), (2, .int p1), (3, .int p2), (7, .int v7)]) hx hb dX9_bestFor_81 hl (k := 6) rfl (by rw [et20]; rfl) (by decide) rfl (fun ls hl => ?_)
      refine lv_goto (tgt := 23) hx hb dX9_bestFor_84 rfl ?_
      exact hK2 _ _ _ _ (hrec23 s0 v7 t20 g_this_laid g_this_pile g18 hf) _ _ _ h (lv_sub hl [3, 4, 5, 6, 2, 1, 0] rfl)
  have L23 : ∀ (n : Nat) (v4 : Int32) (v5 : Int32) (v6 : Int32) (g_this_laid : Nat → Int32) (g_this_pile : Nat → Int32) (g_this_s : Nat → Int32), f_X9_bestFor_L23 p0 p1 p2 n v4 v5 v6 g_this_laid g_this_pile g_this_s = some (r, m_this_laid, m_this_pile, m_this_s) → K 23 ([] : List Value) [(h_this, ob 9 [.ref h_this_s, .ref h_this_kept, .ref h_this_laid, .int x_this_isKept, .ref h_this_pile, .ref h_this_tape, .int x_this_taped, .ref h_this_letters, .int x_this_at, .int x_this_begun, .int x_this_token, .int x_this_value, .int x_this_opened, .int x_this_steps, .ref h_this_code0, .ref h_this_read, .ref h_this_saved, .ref h_this_plan, .ref h_this_bestPlan, .int x_this_most, .int x_this_many, .int x_this_few, .int x_this_everHome, .ref h_this_offThen, .ref h_this_paidThen, .int x_this_firstFit, .ref h_this_rows, .int x_this_rowMany, .ref h_this_sorts, .ref h_this_sizes, .ref h_this_number, .ref h_this_holds, .ref h_this_heldOne, .ref h_this_trace, .int x_this_traced, .int x_this_own, .int x_this_isParted]), (h_this_laid, ia G 65 g_this_laid), (h_this_pile, ia G 200 g_this_pile), (h_this_s, ia G 313 g_this_s)] [(0, .ref h_this), (1, .int p0), (2, .int p1), (3, .int p2), (4, .int v4), (5, .int v5), (6, .int v6)] := by
    intro n
    induction n with
    | zero =>
      intro v4 v5 v6 g_this_laid g_this_pile g_this_s hf
      replace hf : (none : Option _) = some _ := hf
      cases hf
    | succ n ih =>
      intro v4 v5 v6 g_this_laid g_this_pile g_this_s hf
      rw [f_X9_bestFor_L23] at hf
      refine hK1 _ _ _ _ (fun H locs ls h hl => ?_)
      refine lv_iload hx hb dX9_bestFor_23 (lv_at hl 6 rfl) ?_
      refine lv_iload_n hx hb dX9_bestFor_25 rfl (lv_at hl 3 rfl) ?_
      refine lv_icmp_gt (tgt := 87) hx hb dX9_bestFor_26 rfl (fun c6 => ?_) (fun c6 => ?_)
      · replace hf := ifp c6 hf
        refine lv_iload hx hb dX9_bestFor_87 (lv_at hl 4 rfl) ?_
        cases hf
        exact r_iret C h hr hlk rfl dX9_bestFor_89
      · replace hf := ifn c6 hf
        refine lv_aload_n hx hb dX9_bestFor_29 rfl (lv_at hl 0 rfl) ?_
        refine lv_iload_n hx hb dX9_bestFor_30 rfl (lv_at hl 1 rfl) ?_
        refine lv_iload_n hx hb dX9_bestFor_31 rfl (lv_at hl 2 rfl) ?_
        refine lv_iload hx hb dX9_bestFor_32 (lv_at hl 6 rfl) ?_
        replace hf := bd1_inv hf
        obtain ⟨g7, hc8, hf⟩ := hf
        refine r_cvV (ws' := [(h_this, ob 9 [.ref h_this_s, .ref h_this_kept, .ref h_this_laid, .int x_this_isKept, .ref h_this_pile, .ref h_this_tape, .int x_this_taped, .ref h_this_letters, .int x_this_at, .int x_this_begun, .int x_this_token, .int x_this_value, .int x_this_opened, .int x_this_steps, .ref h_this_code0, .ref h_this_read, .ref h_this_saved, .ref h_this_plan, .ref h_this_bestPlan, .int x_this_most, .int x_this_many, .int x_this_few, .int x_this_everHome, .ref h_this_offThen, .ref h_this_paidThen, .int x_this_firstFit, .ref h_this_rows, .int x_this_rowMany, .ref h_this_sorts, .ref h_this_sizes, .ref h_this_number, .ref h_this_holds, .ref h_this_heldOne, .ref h_this_trace, .int x_this_traced, .int x_this_own, .int x_this_isParted]), (h_this_laid, ia G 65 g_this_laid), (h_this_pile, ia G 200 g_this_pile), (h_this_s, ia G 313 g7)]) C h (c_X9_puts hc8) mv_X9_195 rfl 0 rfl [0, 3] rfl rfl [3] [(h_this_s, ia G 313 g7)] rfl rfl (by decide +kernel) rfl hl.1 rfl (Nat.le_of_ble_eq_true rfl) (rok (by decide)) dX9_bestFor_34 (fun H locs h => ?_)
        refine lv_aload_n hx hb dX9_bestFor_37 rfl (lv_at hl 0 rfl) ?_
        refine lv_bipush (v := (16 : Int32)) hx hb dX9_bestFor_38 rfl ?_
        replace hf := bd3_inv hf
        obtain ⟨r9, g10, g11, hc12, hf⟩ := hf
        refine r_ciV (ws' := [(h_this, ob 9 [.ref h_this_s, .ref h_this_kept, .ref h_this_laid, .int x_this_isKept, .ref h_this_pile, .ref h_this_tape, .int x_this_taped, .ref h_this_letters, .int x_this_at, .int x_this_begun, .int x_this_token, .int x_this_value, .int x_this_opened, .int x_this_steps, .ref h_this_code0, .ref h_this_read, .ref h_this_saved, .ref h_this_plan, .ref h_this_bestPlan, .int x_this_most, .int x_this_many, .int x_this_few, .int x_this_everHome, .ref h_this_offThen, .ref h_this_paidThen, .int x_this_firstFit, .ref h_this_rows, .int x_this_rowMany, .ref h_this_sorts, .ref h_this_sizes, .ref h_this_number, .ref h_this_holds, .ref h_this_heldOne, .ref h_this_trace, .int x_this_traced, .int x_this_own, .int x_this_isParted]), (h_this_laid, ia G 65 g_this_laid), (h_this_pile, ia G 200 g10), (h_this_s, ia G 313 g11)]) C h (c_X9_restOf hc12) mv_X9_244 rfl 0 rfl [0, 2, 3] rfl rfl [2, 3] [(h_this_pile, ia G 200 g10), (h_this_s, ia G 313 g11)] rfl rfl (by decide +kernel) rfl hl.1 rfl (Nat.le_of_ble_eq_true rfl) (rok (by decide)) dX9_bestFor_40 (fun H locs h => ?_)
        refine lv_istore (lv' := [(7, .int r9), (0, .ref h_this), (1, .int p0), (2, .int p1), (3, .int p2), (4, .int v4), (5, .int v5), (6, .int v6)]) hx hb dX9_bestFor_43 hl (by decide) rfl (fun ls hl => ?_)
        refine lv_iload hx hb dX9_bestFor_45 (lv_at hl 0 rfl) ?_
        refine lv_iload hx hb dX9_bestFor_47 (lv_at hl 6 rfl) ?_
        refine lv_icmp_le (tgt := 57) hx hb dX9_bestFor_49 rfl (fun c13 => ?_) (fun c13 => ?_)
        · replace hf := ifp c13 hf
          refine lv_iload hx hb dX9_bestFor_57 (lv_at hl 5 rfl) ?_
          exact hK2 _ _ _ _ (B59 _ ih v5 v6 r9 v4 g_this_laid g10 g11 hf) _ _ _ h (lv_sub hl [1, 2, 3, 4, 6, 7, 0] rfl)
        · replace hf := ifn c13 hf
          refine lv_iload hx hb dX9_bestFor_52 (lv_at hl 7 rfl) ?_
          refine lv_goto (tgt := 59) hx hb dX9_bestFor_54 rfl ?_
          exact hK2 _ _ _ _ (B59 _ ih v5 v6 r9 v6 g_this_laid g10 g11 hf) _ _ _ h (lv_sub hl [1, 2, 3, 4, 6, 7, 0] rfl)
  refine lv_aload_n hx hb dX9_bestFor_0 rfl (lv_at hl 0 rfl) ?_
  refine lv_iload_n hx hb dX9_bestFor_1 rfl (lv_at hl 1 rfl) ?_
  replace hf := bd1_inv hf
  obtain ⟨r1, hc2, hf⟩ := hf
  refine r_ciV0 C h (c_X9_isShip hc2) mv_X9_226 rfl 0 rfl [0, 3] rfl rfl hl.1 rfl (Nat.le_of_ble_eq_true rfl) (rok (by decide)) dX9_bestFor_2 (fun H locs h => ?_)
  refine lv_if_ne (tgt := 10) hx hb dX9_bestFor_5 rfl (fun c3 => ?_) (fun c3 => ?_)
  · replace hf := ifn c3 hf
    refine lv_iconst (v := (0 : Int32)) hx hb dX9_bestFor_10 rfl ?_
    refine lv_istore (lv' := [(4, .int (0 : Int32)), (0, .ref h_this), (1, .int p0), (2, .int p1), (3, .int p2)]) hx hb dX9_bestFor_11 hl (by decide) rfl (fun ls hl => ?_)
    refine lv_iconst (v := (-1 : Int32)) hx hb dX9_bestFor_13 rfl ?_
    refine lv_istore (lv' := [(5, .int (-1 : Int32)), (4, .int (0 : Int32)), (0, .ref h_this), (1, .int p0), (2, .int p1), (3, .int p2)]) hx hb dX9_bestFor_14 hl (by decide) rfl (fun ls hl => ?_)
    refine lv_aload_n hx hb dX9_bestFor_16 rfl (lv_at hl 2 rfl) ?_
    replace hf := bd1_inv hf
    obtain ⟨g4, hc5, hf⟩ := hf
    refine r_cvV (ws' := [(h_this, ob 9 [.ref h_this_s, .ref h_this_kept, .ref h_this_laid, .int x_this_isKept, .ref h_this_pile, .ref h_this_tape, .int x_this_taped, .ref h_this_letters, .int x_this_at, .int x_this_begun, .int x_this_token, .int x_this_value, .int x_this_opened, .int x_this_steps, .ref h_this_code0, .ref h_this_read, .ref h_this_saved, .ref h_this_plan, .ref h_this_bestPlan, .int x_this_most, .int x_this_many, .int x_this_few, .int x_this_everHome, .ref h_this_offThen, .ref h_this_paidThen, .int x_this_firstFit, .ref h_this_rows, .int x_this_rowMany, .ref h_this_sorts, .ref h_this_sizes, .ref h_this_number, .ref h_this_holds, .ref h_this_heldOne, .ref h_this_trace, .int x_this_traced, .int x_this_own, .int x_this_isParted]), (h_this_laid, ia G 65 g4), (h_this_pile, ia G 200 f_this_pile), (h_this_s, ia G 313 f_this_s)]) C h (c_X9_layDown hc5) mv_X9_241 rfl 0 rfl [0, 1, 3] rfl rfl [1] [(h_this_laid, ia G 65 g4)] rfl rfl (by decide +kernel) rfl hl.1 rfl (Nat.le_of_ble_eq_true rfl) (rok (by decide)) dX9_bestFor_17 (fun H locs h => ?_)
    refine lv_iconst (v := (0 : Int32)) hx hb dX9_bestFor_20 rfl ?_
    refine lv_istore (lv' := [(6, .int (0 : Int32)), (5, .int (-1 : Int32)), (4, .int (0 : Int32)), (0, .ref h_this), (1, .int p0), (2, .int p1), (3, .int p2)]) hx hb dX9_bestFor_21 hl (by decide) rfl (fun ls hl => ?_)
    exact hK2 _ _ _ _ (L23 1000 (0 : Int32) (-1 : Int32) (0 : Int32) g4 f_this_pile f_this_s hf) _ _ _ h (lv_sub hl [3, 4, 5, 6, 2, 1, 0] rfl)
  · replace hf := ifp c3 hf
    refine lv_iconst (v := (-1 : Int32)) hx hb dX9_bestFor_8 rfl ?_
    cases hf
    exact r_iret C h hr hlk rfl dX9_bestFor_9
def f_X9_trimFor (p0 : Int32) (f_this_laid : Nat → Int32) (f_this_pile : Nat → Int32) (f_this_s : Nat → Int32) : Option (Int32 × (Nat → Int32) × (Nat → Int32) × (Nat → Int32)) := bd4 (f_X9_bestFor p0 (2 : Int32) (9 : Int32) f_this_laid f_this_pile f_this_s) (fun r1 g2 g3 g4 => some (r1, g2, g3, g4))
set_option maxRecDepth 100000 in
set_option maxHeartbeats 4000000 in
theorem c_X9_trimFor {l : Launch} {G : Gt} {h_this h_this_s h_this_kept h_this_laid h_this_pile h_this_tape h_this_letters h_this_code0 h_this_read h_this_saved h_this_plan h_this_bestPlan h_this_offThen h_this_paidThen h_this_rows h_this_sorts h_this_sizes h_this_number h_this_holds h_this_heldOne h_this_trace : Nat} {p0 : Int32} {x_this_isKept : Int32} {x_this_taped : Int32} {x_this_at : Int32} {x_this_begun : Int32} {x_this_token : Int32} {x_this_value : Int32} {x_this_opened : Int32} {x_this_steps : Int32} {x_this_most : Int32} {x_this_many : Int32} {x_this_few : Int32} {x_this_everHome : Int32} {x_this_firstFit : Int32} {x_this_rowMany : Int32} {x_this_traced : Int32} {x_this_own : Int32} {x_this_isParted : Int32} {f_this_laid : Nat → Int32} {f_this_pile : Nat → Int32} {f_this_s : Nat → Int32} {r : Int32} {m_this_laid : Nat → Int32} {m_this_pile : Nat → Int32} {m_this_s : Nat → Int32} (hf : f_X9_trimFor p0 f_this_laid f_this_pile f_this_s = some (r, m_this_laid, m_this_pile, m_this_s)) : mFi l G yX9_trimFor cX9_trimFor 2 .int 9 [.ref h_this, .int p0] [(h_this, ob 9 [.ref h_this_s, .ref h_this_kept, .ref h_this_laid, .int x_this_isKept, .ref h_this_pile, .ref h_this_tape, .int x_this_taped, .ref h_this_letters, .int x_this_at, .int x_this_begun, .int x_this_token, .int x_this_value, .int x_this_opened, .int x_this_steps, .ref h_this_code0, .ref h_this_read, .ref h_this_saved, .ref h_this_plan, .ref h_this_bestPlan, .int x_this_most, .int x_this_many, .int x_this_few, .int x_this_everHome, .ref h_this_offThen, .ref h_this_paidThen, .int x_this_firstFit, .ref h_this_rows, .int x_this_rowMany, .ref h_this_sorts, .ref h_this_sizes, .ref h_this_number, .ref h_this_holds, .ref h_this_heldOne, .ref h_this_trace, .int x_this_traced, .int x_this_own, .int x_this_isParted]), (h_this_laid, ia G 65 f_this_laid), (h_this_pile, ia G 200 f_this_pile), (h_this_s, ia G 313 f_this_s)] r [(h_this, ob 9 [.ref h_this_s, .ref h_this_kept, .ref h_this_laid, .int x_this_isKept, .ref h_this_pile, .ref h_this_tape, .int x_this_taped, .ref h_this_letters, .int x_this_at, .int x_this_begun, .int x_this_token, .int x_this_value, .int x_this_opened, .int x_this_steps, .ref h_this_code0, .ref h_this_read, .ref h_this_saved, .ref h_this_plan, .ref h_this_bestPlan, .int x_this_most, .int x_this_many, .int x_this_few, .int x_this_everHome, .ref h_this_offThen, .ref h_this_paidThen, .int x_this_firstFit, .ref h_this_rows, .int x_this_rowMany, .ref h_this_sorts, .ref h_this_sizes, .ref h_this_number, .ref h_this_holds, .ref h_this_heldOne, .ref h_this_trace, .int x_this_traced, .int x_this_own, .int x_this_isParted]), (h_this_laid, ia G 65 m_this_laid), (h_this_pile, ia G 200 m_this_pile), (h_this_s, ia G 313 m_this_s)] := by
  refine mFi.of (by decide +kernel) (Nat.le_of_ble_eq_true rfl) ?_
  intro p e s m below meth c A C hr hlk h ls hl
  obtain ⟨hx, hb, hml, hown, hts⟩ := id C
  replace hl : lv_has ls 2 [(0, .ref h_this), (1, .int p0)] := hl
  unfold f_X9_trimFor at hf
  refine lv_aload_n hx hb dX9_trimFor_0 rfl (lv_at hl 0 rfl) ?_
  refine lv_iload_n hx hb dX9_trimFor_1 rfl (lv_at hl 1 rfl) ?_
  refine lv_iconst (v := (2 : Int32)) hx hb dX9_trimFor_2 rfl ?_
  refine lv_bipush (v := (9 : Int32)) hx hb dX9_trimFor_3 rfl ?_
  replace hf := bd4_inv hf
  obtain ⟨r1, g2, g3, g4, hc5, hf⟩ := hf
  refine r_ciV (ws' := [(h_this, ob 9 [.ref h_this_s, .ref h_this_kept, .ref h_this_laid, .int x_this_isKept, .ref h_this_pile, .ref h_this_tape, .int x_this_taped, .ref h_this_letters, .int x_this_at, .int x_this_begun, .int x_this_token, .int x_this_value, .int x_this_opened, .int x_this_steps, .ref h_this_code0, .ref h_this_read, .ref h_this_saved, .ref h_this_plan, .ref h_this_bestPlan, .int x_this_most, .int x_this_many, .int x_this_few, .int x_this_everHome, .ref h_this_offThen, .ref h_this_paidThen, .int x_this_firstFit, .ref h_this_rows, .int x_this_rowMany, .ref h_this_sorts, .ref h_this_sizes, .ref h_this_number, .ref h_this_holds, .ref h_this_heldOne, .ref h_this_trace, .int x_this_traced, .int x_this_own, .int x_this_isParted]), (h_this_laid, ia G 65 g2), (h_this_pile, ia G 200 g3), (h_this_s, ia G 313 g4)]) C h (c_X9_bestFor hc5) mv_X9_250 rfl 0 rfl [0, 1, 2, 3] rfl rfl [1, 2, 3] [(h_this_laid, ia G 65 g2), (h_this_pile, ia G 200 g3), (h_this_s, ia G 313 g4)] rfl rfl (by decide +kernel) rfl hl.1 rfl (Nat.le_of_ble_eq_true rfl) (rok (by decide)) dX9_trimFor_5 (fun H locs h => ?_)
  cases hf
  exact r_iret C h hr hlk rfl dX9_trimFor_8
def f_X9_laneFor (p0 : Int32) (f_this_laid : Nat → Int32) (f_this_pile : Nat → Int32) (f_this_s : Nat → Int32) : Option (Int32 × (Nat → Int32) × (Nat → Int32) × (Nat → Int32)) := bd4 (f_X9_bestFor p0 (3 : Int32) (5 : Int32) f_this_laid f_this_pile f_this_s) (fun r1 g2 g3 g4 => some (r1, g2, g3, g4))
set_option maxRecDepth 100000 in
set_option maxHeartbeats 4000000 in
theorem c_X9_laneFor {l : Launch} {G : Gt} {h_this h_this_s h_this_kept h_this_laid h_this_pile h_this_tape h_this_letters h_this_code0 h_this_read h_this_saved h_this_plan h_this_bestPlan h_this_offThen h_this_paidThen h_this_rows h_this_sorts h_this_sizes h_this_number h_this_holds h_this_heldOne h_this_trace : Nat} {p0 : Int32} {x_this_isKept : Int32} {x_this_taped : Int32} {x_this_at : Int32} {x_this_begun : Int32} {x_this_token : Int32} {x_this_value : Int32} {x_this_opened : Int32} {x_this_steps : Int32} {x_this_most : Int32} {x_this_many : Int32} {x_this_few : Int32} {x_this_everHome : Int32} {x_this_firstFit : Int32} {x_this_rowMany : Int32} {x_this_traced : Int32} {x_this_own : Int32} {x_this_isParted : Int32} {f_this_laid : Nat → Int32} {f_this_pile : Nat → Int32} {f_this_s : Nat → Int32} {r : Int32} {m_this_laid : Nat → Int32} {m_this_pile : Nat → Int32} {m_this_s : Nat → Int32} (hf : f_X9_laneFor p0 f_this_laid f_this_pile f_this_s = some (r, m_this_laid, m_this_pile, m_this_s)) : mFi l G yX9_laneFor cX9_laneFor 2 .int 9 [.ref h_this, .int p0] [(h_this, ob 9 [.ref h_this_s, .ref h_this_kept, .ref h_this_laid, .int x_this_isKept, .ref h_this_pile, .ref h_this_tape, .int x_this_taped, .ref h_this_letters, .int x_this_at, .int x_this_begun, .int x_this_token, .int x_this_value, .int x_this_opened, .int x_this_steps, .ref h_this_code0, .ref h_this_read, .ref h_this_saved, .ref h_this_plan, .ref h_this_bestPlan, .int x_this_most, .int x_this_many, .int x_this_few, .int x_this_everHome, .ref h_this_offThen, .ref h_this_paidThen, .int x_this_firstFit, .ref h_this_rows, .int x_this_rowMany, .ref h_this_sorts, .ref h_this_sizes, .ref h_this_number, .ref h_this_holds, .ref h_this_heldOne, .ref h_this_trace, .int x_this_traced, .int x_this_own, .int x_this_isParted]), (h_this_laid, ia G 65 f_this_laid), (h_this_pile, ia G 200 f_this_pile), (h_this_s, ia G 313 f_this_s)] r [(h_this, ob 9 [.ref h_this_s, .ref h_this_kept, .ref h_this_laid, .int x_this_isKept, .ref h_this_pile, .ref h_this_tape, .int x_this_taped, .ref h_this_letters, .int x_this_at, .int x_this_begun, .int x_this_token, .int x_this_value, .int x_this_opened, .int x_this_steps, .ref h_this_code0, .ref h_this_read, .ref h_this_saved, .ref h_this_plan, .ref h_this_bestPlan, .int x_this_most, .int x_this_many, .int x_this_few, .int x_this_everHome, .ref h_this_offThen, .ref h_this_paidThen, .int x_this_firstFit, .ref h_this_rows, .int x_this_rowMany, .ref h_this_sorts, .ref h_this_sizes, .ref h_this_number, .ref h_this_holds, .ref h_this_heldOne, .ref h_this_trace, .int x_this_traced, .int x_this_own, .int x_this_isParted]), (h_this_laid, ia G 65 m_this_laid), (h_this_pile, ia G 200 m_this_pile), (h_this_s, ia G 313 m_this_s)] := by
  refine mFi.of (by decide +kernel) (Nat.le_of_ble_eq_true rfl) ?_
  intro p e s m below meth c A C hr hlk h ls hl
  obtain ⟨hx, hb, hml, hown, hts⟩ := id C
  replace hl : lv_has ls 2 [(0, .ref h_this), (1, .int p0)] := hl
  unfold f_X9_laneFor at hf
  refine lv_aload_n hx hb dX9_laneFor_0 rfl (lv_at hl 0 rfl) ?_
  refine lv_iload_n hx hb dX9_laneFor_1 rfl (lv_at hl 1 rfl) ?_
  refine lv_iconst (v := (3 : Int32)) hx hb dX9_laneFor_2 rfl ?_
  refine lv_iconst (v := (5 : Int32)) hx hb dX9_laneFor_3 rfl ?_
  replace hf := bd4_inv hf
  obtain ⟨r1, g2, g3, g4, hc5, hf⟩ := hf
  refine r_ciV (ws' := [(h_this, ob 9 [.ref h_this_s, .ref h_this_kept, .ref h_this_laid, .int x_this_isKept, .ref h_this_pile, .ref h_this_tape, .int x_this_taped, .ref h_this_letters, .int x_this_at, .int x_this_begun, .int x_this_token, .int x_this_value, .int x_this_opened, .int x_this_steps, .ref h_this_code0, .ref h_this_read, .ref h_this_saved, .ref h_this_plan, .ref h_this_bestPlan, .int x_this_most, .int x_this_many, .int x_this_few, .int x_this_everHome, .ref h_this_offThen, .ref h_this_paidThen, .int x_this_firstFit, .ref h_this_rows, .int x_this_rowMany, .ref h_this_sorts, .ref h_this_sizes, .ref h_this_number, .ref h_this_holds, .ref h_this_heldOne, .ref h_this_trace, .int x_this_traced, .int x_this_own, .int x_this_isParted]), (h_this_laid, ia G 65 g2), (h_this_pile, ia G 200 g3), (h_this_s, ia G 313 g4)]) C h (c_X9_bestFor hc5) mv_X9_250 rfl 0 rfl [0, 1, 2, 3] rfl rfl [1, 2, 3] [(h_this_laid, ia G 65 g2), (h_this_pile, ia G 200 g3), (h_this_s, ia G 313 g4)] rfl rfl (by decide +kernel) rfl hl.1 rfl (Nat.le_of_ble_eq_true rfl) (rok (by decide)) dX9_laneFor_4 (fun H locs h => ?_)
  cases hf
  exact r_iret C h hr hlk rfl dX9_laneFor_7
def f_X9_rock_b42 (p0 : Int32) (v2 : Int32) (g_this_laid : Nat → Int32) (g_this_pile : Nat → Int32) (g_this_s : Nat → Int32) : Option (Int32 × (Nat → Int32) × (Nat → Int32) × (Nat → Int32)) := bd1 (f_X9_isOnRock p0 g_this_s) (fun r9 => (if r9 = 0 then bd1 (f_X9_layBack g_this_laid g_this_s) (fun g12 => some ((-3 : Int32), g_this_laid, g_this_pile, g12)) else (if v2 < 0 then bd1 (f_X9_layBack g_this_laid g_this_s) (fun g15 => some ((-3 : Int32), g_this_laid, g_this_pile, g15)) else lt1 (g_this_s 0) (fun (t17 : Int32) => bd1 (f_X9_layBack g_this_laid g_this_s) (fun g18 => some (t17, g_this_laid, g_this_pile, g18))))))
def f_X9_rock_L16 (p0 : Int32) : Nat → Int32 → (Nat → Int32) → (Nat → Int32) → (Nat → Int32) → Option (Int32 × (Nat → Int32) × (Nat → Int32) × (Nat → Int32))
  | 0, _, _, _, _ => none
  | n + 1, v2, g_this_laid, g_this_pile, g_this_s => bd1 (f_X9_isOnRock p0 g_this_s) (fun r6 => (if r6 = 0 then bd1 (f_X9_isOver g_this_s) (fun r20 => (if r20 = 0 then bd3 (f_X9_goesBy (-1 : Int32) g_this_pile g_this_s) (fun r23 g24 g25 => lt1 (v2 + r23) (fun (t27 : Int32) => (f_X9_rock_L16 p0 n) t27 g_this_laid g24 g25)) else f_X9_rock_b42 p0 v2 g_this_laid g_this_pile g_this_s)) else f_X9_rock_b42 p0 v2 g_this_laid g_this_pile g_this_s))
def f_X9_rock (p0 : Int32) (f_this_laid : Nat → Int32) (f_this_pile : Nat → Int32) (f_this_s : Nat → Int32) : Option (Int32 × (Nat → Int32) × (Nat → Int32) × (Nat → Int32)) := bd1 (f_X9_isShip p0 f_this_s) (fun r1 => (if r1 = 0 then some ((-1 : Int32), f_this_laid, f_this_pile, f_this_s) else bd1 (f_X9_layDown f_this_laid f_this_s) (fun g4 => f_X9_rock_L16 p0 1000 (0 : Int32) g4 f_this_pile f_this_s)))
set_option maxRecDepth 100000 in
set_option maxHeartbeats 4000000 in
theorem c_X9_rock {l : Launch} {G : Gt} {h_this h_this_s h_this_kept h_this_laid h_this_pile h_this_tape h_this_letters h_this_code0 h_this_read h_this_saved h_this_plan h_this_bestPlan h_this_offThen h_this_paidThen h_this_rows h_this_sorts h_this_sizes h_this_number h_this_holds h_this_heldOne h_this_trace : Nat} {p0 : Int32} {x_this_isKept : Int32} {x_this_taped : Int32} {x_this_at : Int32} {x_this_begun : Int32} {x_this_token : Int32} {x_this_value : Int32} {x_this_opened : Int32} {x_this_steps : Int32} {x_this_most : Int32} {x_this_many : Int32} {x_this_few : Int32} {x_this_everHome : Int32} {x_this_firstFit : Int32} {x_this_rowMany : Int32} {x_this_traced : Int32} {x_this_own : Int32} {x_this_isParted : Int32} {f_this_laid : Nat → Int32} {f_this_pile : Nat → Int32} {f_this_s : Nat → Int32} {r : Int32} {m_this_laid : Nat → Int32} {m_this_pile : Nat → Int32} {m_this_s : Nat → Int32} (hf : f_X9_rock p0 f_this_laid f_this_pile f_this_s = some (r, m_this_laid, m_this_pile, m_this_s)) : mFi l G yX9_rock cX9_rock 4 .int 7 [.ref h_this, .int p0] [(h_this, ob 9 [.ref h_this_s, .ref h_this_kept, .ref h_this_laid, .int x_this_isKept, .ref h_this_pile, .ref h_this_tape, .int x_this_taped, .ref h_this_letters, .int x_this_at, .int x_this_begun, .int x_this_token, .int x_this_value, .int x_this_opened, .int x_this_steps, .ref h_this_code0, .ref h_this_read, .ref h_this_saved, .ref h_this_plan, .ref h_this_bestPlan, .int x_this_most, .int x_this_many, .int x_this_few, .int x_this_everHome, .ref h_this_offThen, .ref h_this_paidThen, .int x_this_firstFit, .ref h_this_rows, .int x_this_rowMany, .ref h_this_sorts, .ref h_this_sizes, .ref h_this_number, .ref h_this_holds, .ref h_this_heldOne, .ref h_this_trace, .int x_this_traced, .int x_this_own, .int x_this_isParted]), (h_this_laid, ia G 65 f_this_laid), (h_this_pile, ia G 200 f_this_pile), (h_this_s, ia G 313 f_this_s)] r [(h_this, ob 9 [.ref h_this_s, .ref h_this_kept, .ref h_this_laid, .int x_this_isKept, .ref h_this_pile, .ref h_this_tape, .int x_this_taped, .ref h_this_letters, .int x_this_at, .int x_this_begun, .int x_this_token, .int x_this_value, .int x_this_opened, .int x_this_steps, .ref h_this_code0, .ref h_this_read, .ref h_this_saved, .ref h_this_plan, .ref h_this_bestPlan, .int x_this_most, .int x_this_many, .int x_this_few, .int x_this_everHome, .ref h_this_offThen, .ref h_this_paidThen, .int x_this_firstFit, .ref h_this_rows, .int x_this_rowMany, .ref h_this_sorts, .ref h_this_sizes, .ref h_this_number, .ref h_this_holds, .ref h_this_heldOne, .ref h_this_trace, .int x_this_traced, .int x_this_own, .int x_this_isParted]), (h_this_laid, ia G 65 m_this_laid), (h_this_pile, ia G 200 m_this_pile), (h_this_s, ia G 313 m_this_s)] := by
  refine mFi.of (by decide +kernel) (Nat.le_of_ble_eq_true rfl) ?_
  intro p e s m below meth c A C hr hlk h ls hl
  obtain ⟨hx, hb, hml, hown, hts⟩ := id C
  replace hl : lv_has ls 4 [(0, .ref h_this), (1, .int p0)] := hl
  unfold f_X9_rock at hf
  refine with_K G A 4 (fun K hK1 hK2 => ?_)
  have B42 : ∀ (v2 : Int32) (g_this_laid : Nat → Int32) (g_this_pile : Nat → Int32) (g_this_s : Nat → Int32), f_X9_rock_b42 p0 v2 g_this_laid g_this_pile g_this_s = some (r, m_this_laid, m_this_pile, m_this_s) → K 42 ([] : List Value) [(h_this, ob 9 [.ref h_this_s, .ref h_this_kept, .ref h_this_laid, .int x_this_isKept, .ref h_this_pile, .ref h_this_tape, .int x_this_taped, .ref h_this_letters, .int x_this_at, .int x_this_begun, .int x_this_token, .int x_this_value, .int x_this_opened, .int x_this_steps, .ref h_this_code0, .ref h_this_read, .ref h_this_saved, .ref h_this_plan, .ref h_this_bestPlan, .int x_this_most, .int x_this_many, .int x_this_few, .int x_this_everHome, .ref h_this_offThen, .ref h_this_paidThen, .int x_this_firstFit, .ref h_this_rows, .int x_this_rowMany, .ref h_this_sorts, .ref h_this_sizes, .ref h_this_number, .ref h_this_holds, .ref h_this_heldOne, .ref h_this_trace, .int x_this_traced, .int x_this_own, .int x_this_isParted]), (h_this_laid, ia G 65 g_this_laid), (h_this_pile, ia G 200 g_this_pile), (h_this_s, ia G 313 g_this_s)] [(0, .ref h_this), (1, .int p0), (2, .int v2)] := by
    intro v2 g_this_laid g_this_pile g_this_s hf
    unfold f_X9_rock_b42 at hf
    refine hK1 _ _ _ _ (fun H locs ls h hl => ?_)
    refine lv_aload_n hx hb dX9_rock_42 rfl (lv_at hl 0 rfl) ?_
    refine lv_iload_n hx hb dX9_rock_43 rfl (lv_at hl 1 rfl) ?_
    replace hf := bd1_inv hf
    obtain ⟨r9, hc10, hf⟩ := hf
    refine r_ciV0 C h (c_X9_isOnRock hc10) mv_X9_108 rfl 0 rfl [0, 3] rfl rfl hl.1 rfl (Nat.le_of_ble_eq_true rfl) (rok (by decide)) dX9_rock_44 (fun H locs h => ?_)
    refine lv_if_eq (tgt := 63) hx hb dX9_rock_47 rfl (fun c11 => ?_) (fun c11 => ?_)
    · replace hf := ifp c11 hf
      refine lv_bipush (v := (-3 : Int32)) hx hb dX9_rock_63 rfl ?_
      refine lv_istore_n (lv' := [(3, .int (-3 : Int32)), (0, .ref h_this), (1, .int p0), (2, .int v2)]) hx hb dX9_rock_65 rfl hl (by decide) rfl (fun ls hl => ?_)
      refine lv_aload_n hx hb dX9_rock_66 rfl (lv_at hl 1 rfl) ?_
      replace hf := bd1_inv hf
      obtain ⟨g12, hc13, hf⟩ := hf
      refine r_cvV (ws' := [(h_this, ob 9 [.ref h_this_s, .ref h_this_kept, .ref h_this_laid, .int x_this_isKept, .ref h_this_pile, .ref h_this_tape, .int x_this_taped, .ref h_this_letters, .int x_this_at, .int x_this_begun, .int x_this_token, .int x_this_value, .int x_this_opened, .int x_this_steps, .ref h_this_code0, .ref h_this_read, .ref h_this_saved, .ref h_this_plan, .ref h_this_bestPlan, .int x_this_most, .int x_this_many, .int x_this_few, .int x_this_everHome, .ref h_this_offThen, .ref h_this_paidThen, .int x_this_firstFit, .ref h_this_rows, .int x_this_rowMany, .ref h_this_sorts, .ref h_this_sizes, .ref h_this_number, .ref h_this_holds, .ref h_this_heldOne, .ref h_this_trace, .int x_this_traced, .int x_this_own, .int x_this_isParted]), (h_this_laid, ia G 65 g_this_laid), (h_this_pile, ia G 200 g_this_pile), (h_this_s, ia G 313 g12)]) C h (c_X9_layBack hc13) mv_X9_247 rfl 0 rfl [0, 1, 3] rfl rfl [3] [(h_this_s, ia G 313 g12)] rfl rfl (by decide +kernel) rfl hl.1 rfl (Nat.le_of_ble_eq_true rfl) (rok (by decide)) dX9_rock_67 (fun H locs h => ?_)
      refine lv_iload_n hx hb dX9_rock_70 rfl (lv_at hl 0 rfl) ?_
      cases hf
      exact r_iret C h hr hlk rfl dX9_rock_71
    · replace hf := ifn c11 hf
      refine lv_iload_n hx hb dX9_rock_50 rfl (lv_at hl 2 rfl) ?_
      refine lv_if_lt (tgt := 63) hx hb dX9_rock_51 rfl (fun c14 => ?_) (fun c14 => ?_)
      · replace hf := ifp c14 hf
        refine lv_bipush (v := (-3 : Int32)) hx hb dX9_rock_63 rfl ?_
        refine lv_istore_n (lv' := [(3, .int (-3 : Int32)), (0, .ref h_this), (1, .int p0), (2, .int v2)]) hx hb dX9_rock_65 rfl hl (by decide) rfl (fun ls hl => ?_)
        refine lv_aload_n hx hb dX9_rock_66 rfl (lv_at hl 1 rfl) ?_
        replace hf := bd1_inv hf
        obtain ⟨g15, hc16, hf⟩ := hf
        refine r_cvV (ws' := [(h_this, ob 9 [.ref h_this_s, .ref h_this_kept, .ref h_this_laid, .int x_this_isKept, .ref h_this_pile, .ref h_this_tape, .int x_this_taped, .ref h_this_letters, .int x_this_at, .int x_this_begun, .int x_this_token, .int x_this_value, .int x_this_opened, .int x_this_steps, .ref h_this_code0, .ref h_this_read, .ref h_this_saved, .ref h_this_plan, .ref h_this_bestPlan, .int x_this_most, .int x_this_many, .int x_this_few, .int x_this_everHome, .ref h_this_offThen, .ref h_this_paidThen, .int x_this_firstFit, .ref h_this_rows, .int x_this_rowMany, .ref h_this_sorts, .ref h_this_sizes, .ref h_this_number, .ref h_this_holds, .ref h_this_heldOne, .ref h_this_trace, .int x_this_traced, .int x_this_own, .int x_this_isParted]), (h_this_laid, ia G 65 g_this_laid), (h_this_pile, ia G 200 g_this_pile), (h_this_s, ia G 313 g15)]) C h (c_X9_layBack hc16) mv_X9_247 rfl 0 rfl [0, 1, 3] rfl rfl [3] [(h_this_s, ia G 313 g15)] rfl rfl (by decide +kernel) rfl hl.1 rfl (Nat.le_of_ble_eq_true rfl) (rok (by decide)) dX9_rock_67 (fun H locs h => ?_)
        refine lv_iload_n hx hb dX9_rock_70 rfl (lv_at hl 0 rfl) ?_
        cases hf
        exact r_iret C h hr hlk rfl dX9_rock_71
      · replace hf := ifn c14 hf
        refine lv_aload_n hx hb dX9_rock_54 rfl (lv_at hl 0 rfl) ?_
        refine r_get C h fk_X9_9 0 rfl rfl dX9_rock_55 ?_
        refine lv_iconst (v := (0 : Int32)) hx hb dX9_rock_58 rfl ?_
        refine r_ialdL C h 3 rfl (vlit rfl) 0 rfl dX9_rock_59 ?_
        refine lv_goto (tgt := 65) hx hb dX9_rock_60 rfl ?_
        refine lv_topi (fun t17 et17 => ?_)
        replace hf := lt1_inv et17 hf
        refine lv_istore_n (lv' := [(3, .int t17), (0, .ref h_this), (1, .int p0), (2, .int v2)]) hx hb dX9_rock_65 rfl hl (by decide) rfl (fun ls hl => ?_)
        refine lv_aload_n hx hb dX9_rock_66 rfl (lv_at hl 1 rfl) ?_
        replace hf := bd1_inv hf
        obtain ⟨g18, hc19, hf⟩ := hf
        refine r_cvV (ws' := [(h_this, ob 9 [.ref h_this_s, .ref h_this_kept, .ref h_this_laid, .int x_this_isKept, .ref h_this_pile, .ref h_this_tape, .int x_this_taped, .ref h_this_letters, .int x_this_at, .int x_this_begun, .int x_this_token, .int x_this_value, .int x_this_opened, .int x_this_steps, .ref h_this_code0, .ref h_this_read, .ref h_this_saved, .ref h_this_plan, .ref h_this_bestPlan, .int x_this_most, .int x_this_many, .int x_this_few, .int x_this_everHome, .ref h_this_offThen, .ref h_this_paidThen, .int x_this_firstFit, .ref h_this_rows, .int x_this_rowMany, .ref h_this_sorts, .ref h_this_sizes, .ref h_this_number, .ref h_this_holds, .ref h_this_heldOne, .ref h_this_trace, .int x_this_traced, .int x_this_own, .int x_this_isParted]), (h_this_laid, ia G 65 g_this_laid), (h_this_pile, ia G 200 g_this_pile), (h_this_s, ia G 313 g18)]) C h (c_X9_layBack hc19) mv_X9_247 rfl 0 rfl [0, 1, 3] rfl rfl [3] [(h_this_s, ia G 313 g18)] rfl rfl (by decide +kernel) rfl hl.1 rfl (Nat.le_of_ble_eq_true rfl) (rok (by decide)) dX9_rock_67 (fun H locs h => ?_)
        refine lv_iload_n hx hb dX9_rock_70 rfl (lv_at hl 0 rfl) ?_
        cases hf
        exact r_iret C h hr hlk rfl dX9_rock_71
  have L16 : ∀ (n : Nat) (v2 : Int32) (g_this_laid : Nat → Int32) (g_this_pile : Nat → Int32) (g_this_s : Nat → Int32), f_X9_rock_L16 p0 n v2 g_this_laid g_this_pile g_this_s = some (r, m_this_laid, m_this_pile, m_this_s) → K 16 ([] : List Value) [(h_this, ob 9 [.ref h_this_s, .ref h_this_kept, .ref h_this_laid, .int x_this_isKept, .ref h_this_pile, .ref h_this_tape, .int x_this_taped, .ref h_this_letters, .int x_this_at, .int x_this_begun, .int x_this_token, .int x_this_value, .int x_this_opened, .int x_this_steps, .ref h_this_code0, .ref h_this_read, .ref h_this_saved, .ref h_this_plan, .ref h_this_bestPlan, .int x_this_most, .int x_this_many, .int x_this_few, .int x_this_everHome, .ref h_this_offThen, .ref h_this_paidThen, .int x_this_firstFit, .ref h_this_rows, .int x_this_rowMany, .ref h_this_sorts, .ref h_this_sizes, .ref h_this_number, .ref h_this_holds, .ref h_this_heldOne, .ref h_this_trace, .int x_this_traced, .int x_this_own, .int x_this_isParted]), (h_this_laid, ia G 65 g_this_laid), (h_this_pile, ia G 200 g_this_pile), (h_this_s, ia G 313 g_this_s)] [(0, .ref h_this), (1, .int p0), (2, .int v2)] := by
    intro n
    induction n with
    | zero =>
      intro v2 g_this_laid g_this_pile g_this_s hf
      replace hf : (none : Option _) = some _ := hf
      cases hf
    | succ n ih =>
      intro v2 g_this_laid g_this_pile g_this_s hf
      rw [f_X9_rock_L16] at hf
      refine hK1 _ _ _ _ (fun H locs ls h hl => ?_)
      refine lv_aload_n hx hb dX9_rock_16 rfl (lv_at hl 0 rfl) ?_
      refine lv_iload_n hx hb dX9_rock_17 rfl (lv_at hl 1 rfl) ?_
      replace hf := bd1_inv hf
      obtain ⟨r6, hc7, hf⟩ := hf
      refine r_ciV0 C h (c_X9_isOnRock hc7) mv_X9_108 rfl 0 rfl [0, 3] rfl rfl hl.1 rfl (Nat.le_of_ble_eq_true rfl) (rok (by decide)) dX9_rock_18 (fun H locs h => ?_)
      refine lv_if_ne (tgt := 42) hx hb dX9_rock_21 rfl (fun c8 => ?_) (fun c8 => ?_)
      · replace hf := ifn c8 hf
        exact hK2 _ _ _ _ (B42 v2 g_this_laid g_this_pile g_this_s hf) _ _ _ h (lv_sub hl [0, 1, 2] rfl)
      · replace hf := ifp c8 hf
        refine lv_aload_n hx hb dX9_rock_24 rfl (lv_at hl 0 rfl) ?_
        replace hf := bd1_inv hf
        obtain ⟨r20, hc21, hf⟩ := hf
        refine r_ciV0 C h (c_X9_isOver hc21) mv_X9_232 rfl 0 rfl [0, 3] rfl rfl hl.1 rfl (Nat.le_of_ble_eq_true rfl) (rok (by decide)) dX9_rock_25 (fun H locs h => ?_)
        refine lv_if_ne (tgt := 42) hx hb dX9_rock_28 rfl (fun c22 => ?_) (fun c22 => ?_)
        · replace hf := ifn c22 hf
          exact hK2 _ _ _ _ (B42 v2 g_this_laid g_this_pile g_this_s hf) _ _ _ h (lv_sub hl [0, 1, 2] rfl)
        · replace hf := ifp c22 hf
          refine lv_iload_n hx hb dX9_rock_31 rfl (lv_at hl 2 rfl) ?_
          refine lv_aload_n hx hb dX9_rock_32 rfl (lv_at hl 0 rfl) ?_
          refine lv_iconst (v := (-1 : Int32)) hx hb dX9_rock_33 rfl ?_
          replace hf := bd3_inv hf
          obtain ⟨r23, g24, g25, hc26, hf⟩ := hf
          refine r_ciV (ws' := [(h_this, ob 9 [.ref h_this_s, .ref h_this_kept, .ref h_this_laid, .int x_this_isKept, .ref h_this_pile, .ref h_this_tape, .int x_this_taped, .ref h_this_letters, .int x_this_at, .int x_this_begun, .int x_this_token, .int x_this_value, .int x_this_opened, .int x_this_steps, .ref h_this_code0, .ref h_this_read, .ref h_this_saved, .ref h_this_plan, .ref h_this_bestPlan, .int x_this_most, .int x_this_many, .int x_this_few, .int x_this_everHome, .ref h_this_offThen, .ref h_this_paidThen, .int x_this_firstFit, .ref h_this_rows, .int x_this_rowMany, .ref h_this_sorts, .ref h_this_sizes, .ref h_this_number, .ref h_this_holds, .ref h_this_heldOne, .ref h_this_trace, .int x_this_traced, .int x_this_own, .int x_this_isParted]), (h_this_laid, ia G 65 g_this_laid), (h_this_pile, ia G 200 g24), (h_this_s, ia G 313 g25)]) C h (c_X9_goesBy hc26) mv_X9_238 rfl 0 rfl [0, 2, 3] rfl rfl [2, 3] [(h_this_pile, ia G 200 g24), (h_this_s, ia G 313 g25)] rfl rfl (by decide +kernel) rfl hl.1 rfl (Nat.le_of_ble_eq_true rfl) (rok (by decide)) dX9_rock_34 (fun H locs h => ?_)
          refine lv_iadd hx hb dX9_rock_37 ?_
          refine lv_topi (fun t27 et27 => ?_)
          replace hf := lt1_inv et27 hf
          refine lv_istore_n (lv' := [(2, .int t27), (0, .ref h_this), (1, .int p0)]) hx hb dX9_rock_38 rfl hl (by decide) rfl (fun ls hl => ?_)
          refine lv_goto (tgt := 16) hx hb dX9_rock_39 rfl ?_
          exact hK2 _ _ _ _ (ih t27 g_this_laid g24 g25 hf) _ _ _ h (lv_sub hl [1, 2, 0] rfl)
  refine lv_aload_n hx hb dX9_rock_0 rfl (lv_at hl 0 rfl) ?_
  refine lv_iload_n hx hb dX9_rock_1 rfl (lv_at hl 1 rfl) ?_
  replace hf := bd1_inv hf
  obtain ⟨r1, hc2, hf⟩ := hf
  refine r_ciV0 C h (c_X9_isShip hc2) mv_X9_226 rfl 0 rfl [0, 3] rfl rfl hl.1 rfl (Nat.le_of_ble_eq_true rfl) (rok (by decide)) dX9_rock_2 (fun H locs h => ?_)
  refine lv_if_ne (tgt := 10) hx hb dX9_rock_5 rfl (fun c3 => ?_) (fun c3 => ?_)
  · replace hf := ifn c3 hf
    refine lv_aload_n hx hb dX9_rock_10 rfl (lv_at hl 0 rfl) ?_
    replace hf := bd1_inv hf
    obtain ⟨g4, hc5, hf⟩ := hf
    refine r_cvV (ws' := [(h_this, ob 9 [.ref h_this_s, .ref h_this_kept, .ref h_this_laid, .int x_this_isKept, .ref h_this_pile, .ref h_this_tape, .int x_this_taped, .ref h_this_letters, .int x_this_at, .int x_this_begun, .int x_this_token, .int x_this_value, .int x_this_opened, .int x_this_steps, .ref h_this_code0, .ref h_this_read, .ref h_this_saved, .ref h_this_plan, .ref h_this_bestPlan, .int x_this_most, .int x_this_many, .int x_this_few, .int x_this_everHome, .ref h_this_offThen, .ref h_this_paidThen, .int x_this_firstFit, .ref h_this_rows, .int x_this_rowMany, .ref h_this_sorts, .ref h_this_sizes, .ref h_this_number, .ref h_this_holds, .ref h_this_heldOne, .ref h_this_trace, .int x_this_traced, .int x_this_own, .int x_this_isParted]), (h_this_laid, ia G 65 g4), (h_this_pile, ia G 200 f_this_pile), (h_this_s, ia G 313 f_this_s)]) C h (c_X9_layDown hc5) mv_X9_241 rfl 0 rfl [0, 1, 3] rfl rfl [1] [(h_this_laid, ia G 65 g4)] rfl rfl (by decide +kernel) rfl hl.1 rfl (Nat.le_of_ble_eq_true rfl) (rok (by decide)) dX9_rock_11 (fun H locs h => ?_)
    refine lv_iconst (v := (0 : Int32)) hx hb dX9_rock_14 rfl ?_
    refine lv_istore_n (lv' := [(2, .int (0 : Int32)), (0, .ref h_this), (1, .int p0)]) hx hb dX9_rock_15 rfl hl (by decide) rfl (fun ls hl => ?_)
    exact hK2 _ _ _ _ (L16 1000 (0 : Int32) g4 f_this_pile f_this_s hf) _ _ _ h (lv_sub hl [1, 2, 0] rfl)
  · replace hf := ifp c3 hf
    refine lv_iconst (v := (-1 : Int32)) hx hb dX9_rock_8 rfl ?_
    cases hf
    exact r_iret C h hr hlk rfl dX9_rock_9
def f_X9_least_L12 (p0 : Int32) (f_this_s : Nat → Int32) : Nat → Int32 → Option (Int32)
  | 0, _ => none
  | n + 1, v2 => (if (9 : Int32) < v2 then some (-3 : Int32) else bd1 (f_X9_isReachedWith p0 v2 f_this_s) (fun r5 => (if r5 = 0 then lt1 (v2 + (1 : Int32)) (fun (t8 : Int32) => (f_X9_least_L12 p0 f_this_s n) t8) else some v2)))
def f_X9_least (p0 : Int32) (f_this_s : Nat → Int32) : Option (Int32) := bd1 (f_X9_isShip p0 f_this_s) (fun r1 => (if r1 = 0 then some (-1 : Int32) else f_X9_least_L12 p0 f_this_s 1000 (0 : Int32)))
set_option maxRecDepth 100000 in
set_option maxHeartbeats 4000000 in
theorem c_X9_least {l : Launch} {G : Gt} {h_this h_this_s h_this_kept h_this_laid h_this_pile h_this_tape h_this_letters h_this_code0 h_this_read h_this_saved h_this_plan h_this_bestPlan h_this_offThen h_this_paidThen h_this_rows h_this_sorts h_this_sizes h_this_number h_this_holds h_this_heldOne h_this_trace : Nat} {p0 : Int32} {x_this_isKept : Int32} {x_this_taped : Int32} {x_this_at : Int32} {x_this_begun : Int32} {x_this_token : Int32} {x_this_value : Int32} {x_this_opened : Int32} {x_this_steps : Int32} {x_this_most : Int32} {x_this_many : Int32} {x_this_few : Int32} {x_this_everHome : Int32} {x_this_firstFit : Int32} {x_this_rowMany : Int32} {x_this_traced : Int32} {x_this_own : Int32} {x_this_isParted : Int32} {f_this_s : Nat → Int32} {r : Int32} (hf : f_X9_least p0 f_this_s = some r) : mFi l G yX9_least cX9_least 3 .int 3 [.ref h_this, .int p0] [(h_this, ob 9 [.ref h_this_s, .ref h_this_kept, .ref h_this_laid, .int x_this_isKept, .ref h_this_pile, .ref h_this_tape, .int x_this_taped, .ref h_this_letters, .int x_this_at, .int x_this_begun, .int x_this_token, .int x_this_value, .int x_this_opened, .int x_this_steps, .ref h_this_code0, .ref h_this_read, .ref h_this_saved, .ref h_this_plan, .ref h_this_bestPlan, .int x_this_most, .int x_this_many, .int x_this_few, .int x_this_everHome, .ref h_this_offThen, .ref h_this_paidThen, .int x_this_firstFit, .ref h_this_rows, .int x_this_rowMany, .ref h_this_sorts, .ref h_this_sizes, .ref h_this_number, .ref h_this_holds, .ref h_this_heldOne, .ref h_this_trace, .int x_this_traced, .int x_this_own, .int x_this_isParted]), (h_this_s, ia G 313 f_this_s)] r [(h_this, ob 9 [.ref h_this_s, .ref h_this_kept, .ref h_this_laid, .int x_this_isKept, .ref h_this_pile, .ref h_this_tape, .int x_this_taped, .ref h_this_letters, .int x_this_at, .int x_this_begun, .int x_this_token, .int x_this_value, .int x_this_opened, .int x_this_steps, .ref h_this_code0, .ref h_this_read, .ref h_this_saved, .ref h_this_plan, .ref h_this_bestPlan, .int x_this_most, .int x_this_many, .int x_this_few, .int x_this_everHome, .ref h_this_offThen, .ref h_this_paidThen, .int x_this_firstFit, .ref h_this_rows, .int x_this_rowMany, .ref h_this_sorts, .ref h_this_sizes, .ref h_this_number, .ref h_this_holds, .ref h_this_heldOne, .ref h_this_trace, .int x_this_traced, .int x_this_own, .int x_this_isParted]), (h_this_s, ia G 313 f_this_s)] := by
  refine mFi.of (by decide +kernel) (Nat.le_of_ble_eq_true rfl) ?_
  intro p e s m below meth c A C hr hlk h ls hl
  obtain ⟨hx, hb, hml, hown, hts⟩ := id C
  replace hl : lv_has ls 3 [(0, .ref h_this), (1, .int p0)] := hl
  unfold f_X9_least at hf
  refine with_K G A 3 (fun K hK1 hK2 => ?_)
  have L12 : ∀ (n : Nat) (v2 : Int32), f_X9_least_L12 p0 f_this_s n v2 = some r → K 12 ([] : List Value) [(h_this, ob 9 [.ref h_this_s, .ref h_this_kept, .ref h_this_laid, .int x_this_isKept, .ref h_this_pile, .ref h_this_tape, .int x_this_taped, .ref h_this_letters, .int x_this_at, .int x_this_begun, .int x_this_token, .int x_this_value, .int x_this_opened, .int x_this_steps, .ref h_this_code0, .ref h_this_read, .ref h_this_saved, .ref h_this_plan, .ref h_this_bestPlan, .int x_this_most, .int x_this_many, .int x_this_few, .int x_this_everHome, .ref h_this_offThen, .ref h_this_paidThen, .int x_this_firstFit, .ref h_this_rows, .int x_this_rowMany, .ref h_this_sorts, .ref h_this_sizes, .ref h_this_number, .ref h_this_holds, .ref h_this_heldOne, .ref h_this_trace, .int x_this_traced, .int x_this_own, .int x_this_isParted]), (h_this_s, ia G 313 f_this_s)] [(0, .ref h_this), (1, .int p0), (2, .int v2)] := by
    intro n
    induction n with
    | zero =>
      intro v2 hf
      replace hf : (none : Option _) = some _ := hf
      cases hf
    | succ n ih =>
      intro v2 hf
      rw [f_X9_least_L12] at hf
      refine hK1 _ _ _ _ (fun H locs ls h hl => ?_)
      refine lv_iload_n hx hb dX9_least_12 rfl (lv_at hl 2 rfl) ?_
      refine lv_bipush (v := (9 : Int32)) hx hb dX9_least_13 rfl ?_
      refine lv_icmp_gt (tgt := 35) hx hb dX9_least_15 rfl (fun c4 => ?_) (fun c4 => ?_)
      · replace hf := ifp c4 hf
        refine lv_bipush (v := (-3 : Int32)) hx hb dX9_least_35 rfl ?_
        cases hf
        exact r_iret C h hr hlk rfl dX9_least_37
      · replace hf := ifn c4 hf
        refine lv_aload_n hx hb dX9_least_18 rfl (lv_at hl 0 rfl) ?_
        refine lv_iload_n hx hb dX9_least_19 rfl (lv_at hl 1 rfl) ?_
        refine lv_iload_n hx hb dX9_least_20 rfl (lv_at hl 2 rfl) ?_
        replace hf := bd1_inv hf
        obtain ⟨r5, hc6, hf⟩ := hf
        refine r_ciV0 C h (c_X9_isReachedWith hc6) mv_X9_98 rfl 0 rfl [0, 1] rfl rfl hl.1 rfl (Nat.le_of_ble_eq_true rfl) (rok (by decide)) dX9_least_21 (fun H locs h => ?_)
        refine lv_if_eq (tgt := 29) hx hb dX9_least_24 rfl (fun c7 => ?_) (fun c7 => ?_)
        · replace hf := ifp c7 hf
          obtain ⟨t8, et8⟩ : ∃ y : Int32, y = v2 + (1 : Int32) := ⟨_, rfl⟩
          replace hf := lt1_inv et8 hf
          refine lv_iinc (v := t8) (lv' := [(2, .int t8), (0, .ref h_this), (1, .int p0)]) hx hb dX9_least_29 hl (k := 2) rfl (by rw [et8]; rfl) (by decide) rfl (fun ls hl => ?_)
          refine lv_goto (tgt := 12) hx hb dX9_least_32 rfl ?_
          exact hK2 _ _ _ _ (ih t8 hf) _ _ _ h (lv_sub hl [1, 2, 0] rfl)
        · replace hf := ifn c7 hf
          refine lv_iload_n hx hb dX9_least_27 rfl (lv_at hl 2 rfl) ?_
          cases hf
          exact r_iret C h hr hlk rfl dX9_least_28
  refine lv_aload_n hx hb dX9_least_0 rfl (lv_at hl 0 rfl) ?_
  refine lv_iload_n hx hb dX9_least_1 rfl (lv_at hl 1 rfl) ?_
  replace hf := bd1_inv hf
  obtain ⟨r1, hc2, hf⟩ := hf
  refine r_ciV0 C h (c_X9_isShip hc2) mv_X9_226 rfl 0 rfl [0, 1] rfl rfl hl.1 rfl (Nat.le_of_ble_eq_true rfl) (rok (by decide)) dX9_least_2 (fun H locs h => ?_)
  refine lv_if_ne (tgt := 10) hx hb dX9_least_5 rfl (fun c3 => ?_) (fun c3 => ?_)
  · replace hf := ifn c3 hf
    refine lv_iconst (v := (0 : Int32)) hx hb dX9_least_10 rfl ?_
    refine lv_istore_n (lv' := [(2, .int (0 : Int32)), (0, .ref h_this), (1, .int p0)]) hx hb dX9_least_11 rfl hl (by decide) rfl (fun ls hl => ?_)
    exact hK2 _ _ _ _ (L12 1000 (0 : Int32) hf) _ _ _ h (lv_sub hl [1, 2, 0] rfl)
  · replace hf := ifp c3 hf
    refine lv_iconst (v := (-1 : Int32)) hx hb dX9_least_8 rfl ?_
    cases hf
    exact r_iret C h hr hlk rfl dX9_least_9
def f_X9_safe_L51 : Nat → Int32 → Int32 → Int32 → (Nat → Int32) → (Nat → Int32) → (Nat → Int32) → Option (Int32 × (Nat → Int32) × (Nat → Int32) × (Nat → Int32))
  | 0, _, _, _, _, _, _ => none
  | n + 1, v2, v3, v4, g_this_laid, g_this_pile, g_this_s => (if (g_this_s 4) ≤ v4 then bd1 (f_X9_layBack g_this_laid g_this_s) (fun g8 => some (v3, g_this_laid, g_this_pile, g8)) else (if v2 < 0 then bd1 (f_X9_layBack g_this_laid g_this_s) (fun g11 => some (v3, g_this_laid, g_this_pile, g11)) else bd1 (f_X9_isOnRock v4 g_this_s) (fun r13 => (if r13 = 0 then lt1 (v3 ||| ((1 : Int32) <<< (v4 &&& 31))) (fun (t16 : Int32) => lt1 (v4 + (1 : Int32)) (fun (t17 : Int32) => (f_X9_safe_L51 n) v2 t16 t17 g_this_laid g_this_pile g_this_s)) else lt1 (v3 ||| (0 : Int32)) (fun (t18 : Int32) => lt1 (v4 + (1 : Int32)) (fun (t19 : Int32) => (f_X9_safe_L51 n) v2 t18 t19 g_this_laid g_this_pile g_this_s))))))
def f_X9_safe_b46 (v2 : Int32) (g_this_laid : Nat → Int32) (g_this_pile : Nat → Int32) (g_this_s : Nat → Int32) : Option (Int32 × (Nat → Int32) × (Nat → Int32) × (Nat → Int32)) := f_X9_safe_L51 1000 v2 (0 : Int32) (0 : Int32) g_this_laid g_this_pile g_this_s
def f_X9_safe_L20 (p0 : Int32) : Nat → Int32 → Int32 → (Nat → Int32) → (Nat → Int32) → (Nat → Int32) → Option (Int32 × (Nat → Int32) × (Nat → Int32) × (Nat → Int32))
  | 0, _, _, _, _, _ => none
  | n + 1, v2, v3, g_this_laid, g_this_pile, g_this_s => (if p0 ≤ v3 then f_X9_safe_b46 v2 g_this_laid g_this_pile g_this_s else bd1 (f_X9_isOver g_this_s) (fun r20 => (if r20 = 0 then bd3 (f_X9_goesBy (-1 : Int32) g_this_pile g_this_s) (fun r23 g24 g25 => lt1 (v2 + r23) (fun (t27 : Int32) => lt1 (v3 + (1 : Int32)) (fun (t28 : Int32) => (f_X9_safe_L20 p0 n) t27 t28 g_this_laid g24 g25))) else f_X9_safe_b46 v2 g_this_laid g_this_pile g_this_s)))
def f_X9_safe (p0 : Int32) (f_this_laid : Nat → Int32) (f_this_pile : Nat → Int32) (f_this_s : Nat → Int32) : Option (Int32 × (Nat → Int32) × (Nat → Int32) × (Nat → Int32)) := bd1 (f_X9_in1 p0 (0 : Int32) (16 : Int32)) (fun r1 => (if r1 = 0 then some ((-1 : Int32), f_this_laid, f_this_pile, f_this_s) else bd1 (f_X9_layDown f_this_laid f_this_s) (fun g4 => f_X9_safe_L20 p0 1000 (0 : Int32) (0 : Int32) g4 f_this_pile f_this_s)))
set_option maxRecDepth 100000 in
set_option maxHeartbeats 4000000 in
theorem c_X9_safe {l : Launch} {G : Gt} {h_this h_this_s h_this_kept h_this_laid h_this_pile h_this_tape h_this_letters h_this_code0 h_this_read h_this_saved h_this_plan h_this_bestPlan h_this_offThen h_this_paidThen h_this_rows h_this_sorts h_this_sizes h_this_number h_this_holds h_this_heldOne h_this_trace : Nat} {p0 : Int32} {x_this_isKept : Int32} {x_this_taped : Int32} {x_this_at : Int32} {x_this_begun : Int32} {x_this_token : Int32} {x_this_value : Int32} {x_this_opened : Int32} {x_this_steps : Int32} {x_this_most : Int32} {x_this_many : Int32} {x_this_few : Int32} {x_this_everHome : Int32} {x_this_firstFit : Int32} {x_this_rowMany : Int32} {x_this_traced : Int32} {x_this_own : Int32} {x_this_isParted : Int32} {f_this_laid : Nat → Int32} {f_this_pile : Nat → Int32} {f_this_s : Nat → Int32} {r : Int32} {m_this_laid : Nat → Int32} {m_this_pile : Nat → Int32} {m_this_s : Nat → Int32} (hf : f_X9_safe p0 f_this_laid f_this_pile f_this_s = some (r, m_this_laid, m_this_pile, m_this_s)) : mFi l G yX9_safe cX9_safe 5 .int 7 [.ref h_this, .int p0] [(h_this, ob 9 [.ref h_this_s, .ref h_this_kept, .ref h_this_laid, .int x_this_isKept, .ref h_this_pile, .ref h_this_tape, .int x_this_taped, .ref h_this_letters, .int x_this_at, .int x_this_begun, .int x_this_token, .int x_this_value, .int x_this_opened, .int x_this_steps, .ref h_this_code0, .ref h_this_read, .ref h_this_saved, .ref h_this_plan, .ref h_this_bestPlan, .int x_this_most, .int x_this_many, .int x_this_few, .int x_this_everHome, .ref h_this_offThen, .ref h_this_paidThen, .int x_this_firstFit, .ref h_this_rows, .int x_this_rowMany, .ref h_this_sorts, .ref h_this_sizes, .ref h_this_number, .ref h_this_holds, .ref h_this_heldOne, .ref h_this_trace, .int x_this_traced, .int x_this_own, .int x_this_isParted]), (h_this_laid, ia G 65 f_this_laid), (h_this_pile, ia G 200 f_this_pile), (h_this_s, ia G 313 f_this_s)] r [(h_this, ob 9 [.ref h_this_s, .ref h_this_kept, .ref h_this_laid, .int x_this_isKept, .ref h_this_pile, .ref h_this_tape, .int x_this_taped, .ref h_this_letters, .int x_this_at, .int x_this_begun, .int x_this_token, .int x_this_value, .int x_this_opened, .int x_this_steps, .ref h_this_code0, .ref h_this_read, .ref h_this_saved, .ref h_this_plan, .ref h_this_bestPlan, .int x_this_most, .int x_this_many, .int x_this_few, .int x_this_everHome, .ref h_this_offThen, .ref h_this_paidThen, .int x_this_firstFit, .ref h_this_rows, .int x_this_rowMany, .ref h_this_sorts, .ref h_this_sizes, .ref h_this_number, .ref h_this_holds, .ref h_this_heldOne, .ref h_this_trace, .int x_this_traced, .int x_this_own, .int x_this_isParted]), (h_this_laid, ia G 65 m_this_laid), (h_this_pile, ia G 200 m_this_pile), (h_this_s, ia G 313 m_this_s)] := by
  refine mFi.of (by decide +kernel) (Nat.le_of_ble_eq_true rfl) ?_
  intro p e s m below meth c A C hr hlk h ls hl
  obtain ⟨hx, hb, hml, hown, hts⟩ := id C
  replace hl : lv_has ls 5 [(0, .ref h_this), (1, .int p0)] := hl
  unfold f_X9_safe at hf
  refine with_K G A 5 (fun K hK1 hK2 => ?_)
  have L51 : ∀ (n : Nat) (v2 : Int32) (v3 : Int32) (v4 : Int32) (g_this_laid : Nat → Int32) (g_this_pile : Nat → Int32) (g_this_s : Nat → Int32), f_X9_safe_L51 n v2 v3 v4 g_this_laid g_this_pile g_this_s = some (r, m_this_laid, m_this_pile, m_this_s) → K 51 ([] : List Value) [(h_this, ob 9 [.ref h_this_s, .ref h_this_kept, .ref h_this_laid, .int x_this_isKept, .ref h_this_pile, .ref h_this_tape, .int x_this_taped, .ref h_this_letters, .int x_this_at, .int x_this_begun, .int x_this_token, .int x_this_value, .int x_this_opened, .int x_this_steps, .ref h_this_code0, .ref h_this_read, .ref h_this_saved, .ref h_this_plan, .ref h_this_bestPlan, .int x_this_most, .int x_this_many, .int x_this_few, .int x_this_everHome, .ref h_this_offThen, .ref h_this_paidThen, .int x_this_firstFit, .ref h_this_rows, .int x_this_rowMany, .ref h_this_sorts, .ref h_this_sizes, .ref h_this_number, .ref h_this_holds, .ref h_this_heldOne, .ref h_this_trace, .int x_this_traced, .int x_this_own, .int x_this_isParted]), (h_this_laid, ia G 65 g_this_laid), (h_this_pile, ia G 200 g_this_pile), (h_this_s, ia G 313 g_this_s)] [(0, .ref h_this), (2, .int v2), (3, .int v3), (4, .int v4)] := by
    intro n
    induction n with
    | zero =>
      intro v2 v3 v4 g_this_laid g_this_pile g_this_s hf
      replace hf : (none : Option _) = some _ := hf
      cases hf
    | succ n ih =>
      intro v2 v3 v4 g_this_laid g_this_pile g_this_s hf
      rw [f_X9_safe_L51] at hf
      refine hK1 _ _ _ _ (fun H locs ls h hl => ?_)
      refine lv_iload hx hb dX9_safe_51 (lv_at hl 3 rfl) ?_
      refine lv_aload_n hx hb dX9_safe_53 rfl (lv_at hl 0 rfl) ?_
      refine r_get C h fk_X9_9 0 rfl rfl dX9_safe_54 ?_
      refine lv_iconst (v := (4 : Int32)) hx hb dX9_safe_57 rfl ?_
      refine r_ialdL C h 3 rfl (vlit rfl) 4 rfl dX9_safe_58 ?_
      refine lv_icmp_ge (tgt := 92) hx hb dX9_safe_59 rfl (fun c7 => ?_) (fun c7 => ?_)
      · replace hf := ifp c7 hf
        refine lv_aload_n hx hb dX9_safe_92 rfl (lv_at hl 0 rfl) ?_
        replace hf := bd1_inv hf
        obtain ⟨g8, hc9, hf⟩ := hf
        refine r_cvV (ws' := [(h_this, ob 9 [.ref h_this_s, .ref h_this_kept, .ref h_this_laid, .int x_this_isKept, .ref h_this_pile, .ref h_this_tape, .int x_this_taped, .ref h_this_letters, .int x_this_at, .int x_this_begun, .int x_this_token, .int x_this_value, .int x_this_opened, .int x_this_steps, .ref h_this_code0, .ref h_this_read, .ref h_this_saved, .ref h_this_plan, .ref h_this_bestPlan, .int x_this_most, .int x_this_many, .int x_this_few, .int x_this_everHome, .ref h_this_offThen, .ref h_this_paidThen, .int x_this_firstFit, .ref h_this_rows, .int x_this_rowMany, .ref h_this_sorts, .ref h_this_sizes, .ref h_this_number, .ref h_this_holds, .ref h_this_heldOne, .ref h_this_trace, .int x_this_traced, .int x_this_own, .int x_this_isParted]), (h_this_laid, ia G 65 g_this_laid), (h_this_pile, ia G 200 g_this_pile), (h_this_s, ia G 313 g8)]) C h (c_X9_layBack hc9) mv_X9_247 rfl 0 rfl [0, 1, 3] rfl rfl [3] [(h_this_s, ia G 313 g8)] rfl rfl (by decide +kernel) rfl hl.1 rfl (Nat.le_of_ble_eq_true rfl) (rok (by decide)) dX9_safe_93 (fun H locs h => ?_)
        refine lv_iload_n hx hb dX9_safe_96 rfl (lv_at hl 2 rfl) ?_
        cases hf
        exact r_iret C h hr hlk rfl dX9_safe_97
      · replace hf := ifn c7 hf
        refine lv_iload_n hx hb dX9_safe_62 rfl (lv_at hl 1 rfl) ?_
        refine lv_if_lt (tgt := 92) hx hb dX9_safe_63 rfl (fun c10 => ?_) (fun c10 => ?_)
        · replace hf := ifp c10 hf
          refine lv_aload_n hx hb dX9_safe_92 rfl (lv_at hl 0 rfl) ?_
          replace hf := bd1_inv hf
          obtain ⟨g11, hc12, hf⟩ := hf
          refine r_cvV (ws' := [(h_this, ob 9 [.ref h_this_s, .ref h_this_kept, .ref h_this_laid, .int x_this_isKept, .ref h_this_pile, .ref h_this_tape, .int x_this_taped, .ref h_this_letters, .int x_this_at, .int x_this_begun, .int x_this_token, .int x_this_value, .int x_this_opened, .int x_this_steps, .ref h_this_code0, .ref h_this_read, .ref h_this_saved, .ref h_this_plan, .ref h_this_bestPlan, .int x_this_most, .int x_this_many, .int x_this_few, .int x_this_everHome, .ref h_this_offThen, .ref h_this_paidThen, .int x_this_firstFit, .ref h_this_rows, .int x_this_rowMany, .ref h_this_sorts, .ref h_this_sizes, .ref h_this_number, .ref h_this_holds, .ref h_this_heldOne, .ref h_this_trace, .int x_this_traced, .int x_this_own, .int x_this_isParted]), (h_this_laid, ia G 65 g_this_laid), (h_this_pile, ia G 200 g_this_pile), (h_this_s, ia G 313 g11)]) C h (c_X9_layBack hc12) mv_X9_247 rfl 0 rfl [0, 1, 3] rfl rfl [3] [(h_this_s, ia G 313 g11)] rfl rfl (by decide +kernel) rfl hl.1 rfl (Nat.le_of_ble_eq_true rfl) (rok (by decide)) dX9_safe_93 (fun H locs h => ?_)
          refine lv_iload_n hx hb dX9_safe_96 rfl (lv_at hl 2 rfl) ?_
          cases hf
          exact r_iret C h hr hlk rfl dX9_safe_97
        · replace hf := ifn c10 hf
          refine lv_iload_n hx hb dX9_safe_66 rfl (lv_at hl 2 rfl) ?_
          refine lv_aload_n hx hb dX9_safe_67 rfl (lv_at hl 0 rfl) ?_
          refine lv_iload hx hb dX9_safe_68 (lv_at hl 3 rfl) ?_
          replace hf := bd1_inv hf
          obtain ⟨r13, hc14, hf⟩ := hf
          refine r_ciV0 C h (c_X9_isOnRock hc14) mv_X9_108 rfl 0 rfl [0, 3] rfl rfl hl.1 rfl (Nat.le_of_ble_eq_true rfl) (rok (by decide)) dX9_safe_70 (fun H locs h => ?_)
          refine lv_if_eq (tgt := 80) hx hb dX9_safe_73 rfl (fun c15 => ?_) (fun c15 => ?_)
          · replace hf := ifp c15 hf
            refine lv_iconst (v := (1 : Int32)) hx hb dX9_safe_80 rfl ?_
            refine lv_iload hx hb dX9_safe_81 (lv_at hl 3 rfl) ?_
            refine lv_ishl hx hb dX9_safe_83 ?_
            refine lv_ior hx hb dX9_safe_84 ?_
            refine lv_topi (fun t16 et16 => ?_)
            replace hf := lt1_inv et16 hf
            refine lv_istore_n (lv' := [(3, .int t16), (0, .ref h_this), (2, .int v2), (4, .int v4)]) hx hb dX9_safe_85 rfl hl (by decide) rfl (fun ls hl => ?_)
            obtain ⟨t17, et17⟩ : ∃ y : Int32, y = v4 + (1 : Int32) := ⟨_, rfl⟩
            replace hf := lt1_inv et17 hf
            refine lv_iinc (v := t17) (lv' := [(4, .int t17), (3, .int t16), (0, .ref h_this), (2, .int v2)]) hx hb dX9_safe_86 hl (k := 3) rfl (by rw [et17]; rfl) (by decide) rfl (fun ls hl => ?_)
            refine lv_goto (tgt := 51) hx hb dX9_safe_89 rfl ?_
            exact hK2 _ _ _ _ (ih v2 t16 t17 g_this_laid g_this_pile g_this_s hf) _ _ _ h (lv_sub hl [2, 3, 1, 0] rfl)
          · replace hf := ifn c15 hf
            refine lv_iconst (v := (0 : Int32)) hx hb dX9_safe_76 rfl ?_
            refine lv_goto (tgt := 84) hx hb dX9_safe_77 rfl ?_
            refine lv_ior hx hb dX9_safe_84 ?_
            refine lv_topi (fun t18 et18 => ?_)
            replace hf := lt1_inv et18 hf
            refine lv_istore_n (lv' := [(3, .int t18), (0, .ref h_this), (2, .int v2), (4, .int v4)]) hx hb dX9_safe_85 rfl hl (by decide) rfl (fun ls hl => ?_)
            obtain ⟨t19, et19⟩ : ∃ y : Int32, y = v4 + (1 : Int32) := ⟨_, rfl⟩
            replace hf := lt1_inv et19 hf
            refine lv_iinc (v := t19) (lv' := [(4, .int t19), (3, .int t18), (0, .ref h_this), (2, .int v2)]) hx hb dX9_safe_86 hl (k := 3) rfl (by rw [et19]; rfl) (by decide) rfl (fun ls hl => ?_)
            refine lv_goto (tgt := 51) hx hb dX9_safe_89 rfl ?_
            exact hK2 _ _ _ _ (ih v2 t18 t19 g_this_laid g_this_pile g_this_s hf) _ _ _ h (lv_sub hl [2, 3, 1, 0] rfl)
  have B46 : ∀ (v2 : Int32) (g_this_laid : Nat → Int32) (g_this_pile : Nat → Int32) (g_this_s : Nat → Int32), f_X9_safe_b46 v2 g_this_laid g_this_pile g_this_s = some (r, m_this_laid, m_this_pile, m_this_s) → K 46 ([] : List Value) [(h_this, ob 9 [.ref h_this_s, .ref h_this_kept, .ref h_this_laid, .int x_this_isKept, .ref h_this_pile, .ref h_this_tape, .int x_this_taped, .ref h_this_letters, .int x_this_at, .int x_this_begun, .int x_this_token, .int x_this_value, .int x_this_opened, .int x_this_steps, .ref h_this_code0, .ref h_this_read, .ref h_this_saved, .ref h_this_plan, .ref h_this_bestPlan, .int x_this_most, .int x_this_many, .int x_this_few, .int x_this_everHome, .ref h_this_offThen, .ref h_this_paidThen, .int x_this_firstFit, .ref h_this_rows, .int x_this_rowMany, .ref h_this_sorts, .ref h_this_sizes, .ref h_this_number, .ref h_this_holds, .ref h_this_heldOne, .ref h_this_trace, .int x_this_traced, .int x_this_own, .int x_this_isParted]), (h_this_laid, ia G 65 g_this_laid), (h_this_pile, ia G 200 g_this_pile), (h_this_s, ia G 313 g_this_s)] [(0, .ref h_this), (2, .int v2)] := by
    intro v2 g_this_laid g_this_pile g_this_s hf
    unfold f_X9_safe_b46 at hf
    refine hK1 _ _ _ _ (fun H locs ls h hl => ?_)
    refine lv_iconst (v := (0 : Int32)) hx hb dX9_safe_46 rfl ?_
    refine lv_istore_n (lv' := [(3, .int (0 : Int32)), (0, .ref h_this), (2, .int v2)]) hx hb dX9_safe_47 rfl hl (by decide) rfl (fun ls hl => ?_)
    refine lv_iconst (v := (0 : Int32)) hx hb dX9_safe_48 rfl ?_
    refine lv_istore (lv' := [(4, .int (0 : Int32)), (3, .int (0 : Int32)), (0, .ref h_this), (2, .int v2)]) hx hb dX9_safe_49 hl (by decide) rfl (fun ls hl => ?_)
    exact hK2 _ _ _ _ (L51 1000 v2 (0 : Int32) (0 : Int32) g_this_laid g_this_pile g_this_s hf) _ _ _ h (lv_sub hl [2, 3, 1, 0] rfl)
  have L20 : ∀ (n : Nat) (v2 : Int32) (v3 : Int32) (g_this_laid : Nat → Int32) (g_this_pile : Nat → Int32) (g_this_s : Nat → Int32), f_X9_safe_L20 p0 n v2 v3 g_this_laid g_this_pile g_this_s = some (r, m_this_laid, m_this_pile, m_this_s) → K 20 ([] : List Value) [(h_this, ob 9 [.ref h_this_s, .ref h_this_kept, .ref h_this_laid, .int x_this_isKept, .ref h_this_pile, .ref h_this_tape, .int x_this_taped, .ref h_this_letters, .int x_this_at, .int x_this_begun, .int x_this_token, .int x_this_value, .int x_this_opened, .int x_this_steps, .ref h_this_code0, .ref h_this_read, .ref h_this_saved, .ref h_this_plan, .ref h_this_bestPlan, .int x_this_most, .int x_this_many, .int x_this_few, .int x_this_everHome, .ref h_this_offThen, .ref h_this_paidThen, .int x_this_firstFit, .ref h_this_rows, .int x_this_rowMany, .ref h_this_sorts, .ref h_this_sizes, .ref h_this_number, .ref h_this_holds, .ref h_this_heldOne, .ref h_this_trace, .int x_this_traced, .int x_this_own, .int x_this_isParted]), (h_this_laid, ia G 65 g_this_laid), (h_this_pile, ia G 200 g_this_pile), (h_this_s, ia G 313 g_this_s)] [(0, .ref h_this), (1, .int p0), (2, .int v2), (3, .int v3)] := by
    intro n
    induction n with
    | zero =>
      intro v2 v3 g_this_laid g_this_pile g_this_s hf
      replace hf : (none : Option _) = some _ := hf
      cases hf
    | succ n ih =>
      intro v2 v3 g_this_laid g_this_pile g_this_s hf
      rw [f_X9_safe_L20] at hf
      refine hK1 _ _ _ _ (fun H locs ls h hl => ?_)
      refine lv_iload_n hx hb dX9_safe_20 rfl (lv_at hl 3 rfl) ?_
      refine lv_iload_n hx hb dX9_safe_21 rfl (lv_at hl 1 rfl) ?_
      refine lv_icmp_ge (tgt := 46) hx hb dX9_safe_22 rfl (fun c6 => ?_) (fun c6 => ?_)
      · replace hf := ifp c6 hf
        exact hK2 _ _ _ _ (B46 v2 g_this_laid g_this_pile g_this_s hf) _ _ _ h (lv_sub hl [0, 2] rfl)
      · replace hf := ifn c6 hf
        refine lv_aload_n hx hb dX9_safe_25 rfl (lv_at hl 0 rfl) ?_
        replace hf := bd1_inv hf
        obtain ⟨r20, hc21, hf⟩ := hf
        refine r_ciV0 C h (c_X9_isOver hc21) mv_X9_232 rfl 0 rfl [0, 3] rfl rfl hl.1 rfl (Nat.le_of_ble_eq_true rfl) (rok (by decide)) dX9_safe_26 (fun H locs h => ?_)
        refine lv_if_ne (tgt := 46) hx hb dX9_safe_29 rfl (fun c22 => ?_) (fun c22 => ?_)
        · replace hf := ifn c22 hf
          exact hK2 _ _ _ _ (B46 v2 g_this_laid g_this_pile g_this_s hf) _ _ _ h (lv_sub hl [0, 2] rfl)
        · replace hf := ifp c22 hf
          refine lv_iload_n hx hb dX9_safe_32 rfl (lv_at hl 2 rfl) ?_
          refine lv_aload_n hx hb dX9_safe_33 rfl (lv_at hl 0 rfl) ?_
          refine lv_iconst (v := (-1 : Int32)) hx hb dX9_safe_34 rfl ?_
          replace hf := bd3_inv hf
          obtain ⟨r23, g24, g25, hc26, hf⟩ := hf
          refine r_ciV (ws' := [(h_this, ob 9 [.ref h_this_s, .ref h_this_kept, .ref h_this_laid, .int x_this_isKept, .ref h_this_pile, .ref h_this_tape, .int x_this_taped, .ref h_this_letters, .int x_this_at, .int x_this_begun, .int x_this_token, .int x_this_value, .int x_this_opened, .int x_this_steps, .ref h_this_code0, .ref h_this_read, .ref h_this_saved, .ref h_this_plan, .ref h_this_bestPlan, .int x_this_most, .int x_this_many, .int x_this_few, .int x_this_everHome, .ref h_this_offThen, .ref h_this_paidThen, .int x_this_firstFit, .ref h_this_rows, .int x_this_rowMany, .ref h_this_sorts, .ref h_this_sizes, .ref h_this_number, .ref h_this_holds, .ref h_this_heldOne, .ref h_this_trace, .int x_this_traced, .int x_this_own, .int x_this_isParted]), (h_this_laid, ia G 65 g_this_laid), (h_this_pile, ia G 200 g24), (h_this_s, ia G 313 g25)]) C h (c_X9_goesBy hc26) mv_X9_238 rfl 0 rfl [0, 2, 3] rfl rfl [2, 3] [(h_this_pile, ia G 200 g24), (h_this_s, ia G 313 g25)] rfl rfl (by decide +kernel) rfl hl.1 rfl (Nat.le_of_ble_eq_true rfl) (rok (by decide)) dX9_safe_35 (fun H locs h => ?_)
          refine lv_iadd hx hb dX9_safe_38 ?_
          refine lv_topi (fun t27 et27 => ?_)
          replace hf := lt1_inv et27 hf
          refine lv_istore_n (lv' := [(2, .int t27), (0, .ref h_this), (1, .int p0), (3, .int v3)]) hx hb dX9_safe_39 rfl hl (by decide) rfl (fun ls hl => ?_)
          obtain ⟨t28, et28⟩ : ∃ y : Int32, y = v3 + (1 : Int32) := ⟨_, rfl⟩
          replace hf := lt1_inv et28 hf
          refine lv_iinc (v := t28) (lv' := [(3, .int t28), (2, .int t27), (0, .ref h_this), (1, .int p0)]) hx hb dX9_safe_40 hl (k := 3) rfl (by rw [et28]; rfl) (by decide) rfl (fun ls hl => ?_)
          refine lv_goto (tgt := 20) hx hb dX9_safe_43 rfl ?_
          exact hK2 _ _ _ _ (ih t27 t28 g_this_laid g24 g25 hf) _ _ _ h (lv_sub hl [2, 3, 1, 0] rfl)
  refine lv_iload_n hx hb dX9_safe_0 rfl (lv_at hl 1 rfl) ?_
  refine lv_iconst (v := (0 : Int32)) hx hb dX9_safe_1 rfl ?_
  refine lv_bipush (v := (16 : Int32)) hx hb dX9_safe_2 rfl ?_
  replace hf := bd1_inv hf
  obtain ⟨r1, hc2, hf⟩ := hf
  refine r_ciS0 C h (c_X9_in1 hc2) ms_X9_71 rfl [] rfl rfl hl.1 rfl (Nat.le_of_ble_eq_true rfl) (rok (by decide)) dX9_safe_4 (fun H locs h => ?_)
  refine lv_if_ne (tgt := 12) hx hb dX9_safe_7 rfl (fun c3 => ?_) (fun c3 => ?_)
  · replace hf := ifn c3 hf
    refine lv_aload_n hx hb dX9_safe_12 rfl (lv_at hl 0 rfl) ?_
    replace hf := bd1_inv hf
    obtain ⟨g4, hc5, hf⟩ := hf
    refine r_cvV (ws' := [(h_this, ob 9 [.ref h_this_s, .ref h_this_kept, .ref h_this_laid, .int x_this_isKept, .ref h_this_pile, .ref h_this_tape, .int x_this_taped, .ref h_this_letters, .int x_this_at, .int x_this_begun, .int x_this_token, .int x_this_value, .int x_this_opened, .int x_this_steps, .ref h_this_code0, .ref h_this_read, .ref h_this_saved, .ref h_this_plan, .ref h_this_bestPlan, .int x_this_most, .int x_this_many, .int x_this_few, .int x_this_everHome, .ref h_this_offThen, .ref h_this_paidThen, .int x_this_firstFit, .ref h_this_rows, .int x_this_rowMany, .ref h_this_sorts, .ref h_this_sizes, .ref h_this_number, .ref h_this_holds, .ref h_this_heldOne, .ref h_this_trace, .int x_this_traced, .int x_this_own, .int x_this_isParted]), (h_this_laid, ia G 65 g4), (h_this_pile, ia G 200 f_this_pile), (h_this_s, ia G 313 f_this_s)]) C h (c_X9_layDown hc5) mv_X9_241 rfl 0 rfl [0, 1, 3] rfl rfl [1] [(h_this_laid, ia G 65 g4)] rfl rfl (by decide +kernel) rfl hl.1 rfl (Nat.le_of_ble_eq_true rfl) (rok (by decide)) dX9_safe_13 (fun H locs h => ?_)
    refine lv_iconst (v := (0 : Int32)) hx hb dX9_safe_16 rfl ?_
    refine lv_istore_n (lv' := [(2, .int (0 : Int32)), (0, .ref h_this), (1, .int p0)]) hx hb dX9_safe_17 rfl hl (by decide) rfl (fun ls hl => ?_)
    refine lv_iconst (v := (0 : Int32)) hx hb dX9_safe_18 rfl ?_
    refine lv_istore_n (lv' := [(3, .int (0 : Int32)), (2, .int (0 : Int32)), (0, .ref h_this), (1, .int p0)]) hx hb dX9_safe_19 rfl hl (by decide) rfl (fun ls hl => ?_)
    exact hK2 _ _ _ _ (L20 1000 (0 : Int32) (0 : Int32) g4 f_this_pile f_this_s hf) _ _ _ h (lv_sub hl [2, 3, 1, 0] rfl)
  · replace hf := ifp c3 hf
    refine lv_iconst (v := (-1 : Int32)) hx hb dX9_safe_10 rfl ?_
    cases hf
    exact r_iret C h hr hlk rfl dX9_safe_11
def f_X9_apart (p0 : Int32) (p1 : Int32) : Option (Int32) := (if p1 ≤ p0 then some (p0 - p1) else some (p1 - p0))
set_option maxRecDepth 100000 in
set_option maxHeartbeats 4000000 in
theorem c_X9_apart {l : Launch} {G : Gt} {p0 : Int32} {p1 : Int32} {r : Int32} (hf : f_X9_apart p0 p1 = some r) : mFi l G yX9_apart cX9_apart 2 .int 0 [.int p0, .int p1] ([] : va_W) r ([] : va_W) := by
  refine mFi.of (by decide +kernel) (Nat.le_of_ble_eq_true rfl) ?_
  intro p e s m below meth c A C hr hlk h ls hl
  obtain ⟨hx, hb, hml, hown, hts⟩ := id C
  replace hl : lv_has ls 2 [(0, .int p0), (1, .int p1)] := hl
  unfold f_X9_apart at hf
  refine lv_iload_n hx hb dX9_apart_0 rfl (lv_at hl 0 rfl) ?_
  refine lv_iload_n hx hb dX9_apart_1 rfl (lv_at hl 1 rfl) ?_
  refine lv_icmp_ge (tgt := 11) hx hb dX9_apart_2 rfl (fun c1 => ?_) (fun c1 => ?_)
  · replace hf := ifp c1 hf
    refine lv_iload_n hx hb dX9_apart_11 rfl (lv_at hl 0 rfl) ?_
    refine lv_iload_n hx hb dX9_apart_12 rfl (lv_at hl 1 rfl) ?_
    refine lv_isub hx hb dX9_apart_13 ?_
    cases hf
    exact r_iret C h hr hlk rfl dX9_apart_14
  · replace hf := ifn c1 hf
    refine lv_iload_n hx hb dX9_apart_5 rfl (lv_at hl 1 rfl) ?_
    refine lv_iload_n hx hb dX9_apart_6 rfl (lv_at hl 0 rfl) ?_
    refine lv_isub hx hb dX9_apart_7 ?_
    refine lv_goto (tgt := 14) hx hb dX9_apart_8 rfl ?_
    cases hf
    exact r_iret C h hr hlk rfl dX9_apart_14
