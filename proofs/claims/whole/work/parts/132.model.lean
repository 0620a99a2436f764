def f_X9_playedFrom_b102 (rec20 : Int32 → Int32 → Int32 → (Nat → Int32) → (Nat → Int32) → (Nat → Int32) → (Nat → Int32) → Option (Int32 × (Nat → Int32) × (Nat → Int32) × (Nat → Int32) × (Nat → Int32))) (v3 : Int32) (v5 : Int32) (v7 : Int32) (v8 : Int32) (s0 : Int32) (g_this_pile : Nat → Int32) (g_this_plan : Nat → Int32) (g_this_s : Nat → Int32) (g_this_saved : Nat → Int32) : Option (Int32 × (Nat → Int32) × (Nat → Int32) × (Nat → Int32) × (Nat → Int32)) := (if v8 = 0 then lt1 (v5 + (1 : Int32)) (fun (t22 : Int32) => rec20 v3 s0 t22 g_this_pile g_this_plan g_this_s g_this_saved) else lt1 (v5 + (1 : Int32)) (fun (t23 : Int32) => rec20 v7 s0 t23 g_this_pile g_this_plan g_this_s g_this_saved))
def f_X9_playedFrom_b88 (rec20 : Int32 → Int32 → Int32 → (Nat → Int32) → (Nat → Int32) → (Nat → Int32) → (Nat → Int32) → Option (Int32 × (Nat → Int32) × (Nat → Int32) × (Nat → Int32) × (Nat → Int32))) (v3 : Int32) (v4 : Int32) (v5 : Int32) (v7 : Int32) (s0 : Int32) (g_this_pile : Nat → Int32) (g_this_plan : Nat → Int32) (g_this_s : Nat → Int32) (g_this_saved : Nat → Int32) : Option (Int32 × (Nat → Int32) × (Nat → Int32) × (Nat → Int32) × (Nat → Int32)) := (if s0 = 0 then f_X9_playedFrom_b102 rec20 v3 v5 v7 s0 v4 g_this_pile g_this_plan g_this_s g_this_saved else f_X9_playedFrom_b102 rec20 v3 v5 v7 s0 v5 g_this_pile g_this_plan g_this_s g_this_saved)
def f_X9_playedFrom_b83 (rec20 : Int32 → Int32 → Int32 → (Nat → Int32) → (Nat → Int32) → (Nat → Int32) → (Nat → Int32) → Option (Int32 × (Nat → Int32) × (Nat → Int32) × (Nat → Int32) × (Nat → Int32))) (v3 : Int32) (v4 : Int32) (v5 : Int32) (v7 : Int32) (g_this_pile : Nat → Int32) (g_this_plan : Nat → Int32) (g_this_s : Nat → Int32) (g_this_saved : Nat → Int32) : Option (Int32 × (Nat → Int32) × (Nat → Int32) × (Nat → Int32) × (Nat → Int32)) := f_X9_playedFrom_b88 rec20 v3 v4 v5 v7 (1 : Int32) g_this_pile g_this_plan g_this_s g_this_saved
def f_X9_playedFrom_b87 (rec20 : Int32 → Int32 → Int32 → (Nat → Int32) → (Nat → Int32) → (Nat → Int32) → (Nat → Int32) → Option (Int32 × (Nat → Int32) × (Nat → Int32) × (Nat → Int32) × (Nat → Int32))) (v3 : Int32) (v4 : Int32) (v5 : Int32) (v7 : Int32) (g_this_pile : Nat → Int32) (g_this_plan : Nat → Int32) (g_this_s : Nat → Int32) (g_this_saved : Nat → Int32) : Option (Int32 × (Nat → Int32) × (Nat → Int32) × (Nat → Int32) × (Nat → Int32)) := f_X9_playedFrom_b88 rec20 v3 v4 v5 v7 (0 : Int32) g_this_pile g_this_plan g_this_s g_this_saved
def f_X9_playedFrom_L20 (self : Int32 → Int32 → (Nat → Int32) → (Nat → Int32) → (Nat → Int32) → (Nat → Int32) → Option (Int32 × (Nat → Int32) × (Nat → Int32) × (Nat → Int32) × (Nat → Int32))) (p0 : Int32) (p1 : Int32) : Nat → Int32 → Int32 → Int32 → (Nat → Int32) → (Nat → Int32) → (Nat → Int32) → (Nat → Int32) → Option (Int32 × (Nat → Int32) × (Nat → Int32) × (Nat → Int32) × (Nat → Int32))
  | 0, _, _, _, _, _, _, _ => none
  | n + 1, v3, v4, v5, g_this_pile, g_this_plan, g_this_s, g_this_saved => (if (g_this_s 4) < v5 then chkI p0 4 (some (v3, g_this_pile, upd g_this_plan p0.toNatClampNeg v4, g_this_s, g_this_saved)) else bd3 (f_X9_goesBy v5 g_this_pile g_this_s) (fun r6 g7 g8 => bd5 (self (p0 + (1 : Int32)) p1 g7 g_this_plan g8 g_this_saved) (fun r10 g11 g12 g13 g14 => lt1 (r6 + r10) (fun (t16 : Int32) => bd1 (f_X9_restores p0 g13 g14) (fun g17 => (if v4 < 0 then f_X9_playedFrom_b83 (f_X9_playedFrom_L20 self p0 p1 n) v3 v4 v5 t16 g11 g12 g17 g14 else (if (p0 - p0 / (2 : Int32) * (2 : Int32)) = 0 then (if t16 ≤ v3 then f_X9_playedFrom_b87 (f_X9_playedFrom_L20 self p0 p1 n) v3 v4 v5 t16 g11 g12 g17 g14 else f_X9_playedFrom_b83 (f_X9_playedFrom_L20 self p0 p1 n) v3 v4 v5 t16 g11 g12 g17 g14) else (if v3 ≤ t16 then f_X9_playedFrom_b87 (f_X9_playedFrom_L20 self p0 p1 n) v3 v4 v5 t16 g11 g12 g17 g14 else f_X9_playedFrom_b83 (f_X9_playedFrom_L20 self p0 p1 n) v3 v4 v5 t16 g11 g12 g17 g14))))))))
def f_X9_playedFrom (self : Int32 → Int32 → (Nat → Int32) → (Nat → Int32) → (Nat → Int32) → (Nat → Int32) → Option (Int32 × (Nat → Int32) × (Nat → Int32) × (Nat → Int32) × (Nat → Int32))) (p0 : Int32) (p1 : Int32) (f_this_pile : Nat → Int32) (f_this_plan : Nat → Int32) (f_this_s : Nat → Int32) (f_this_saved : Nat → Int32) : Option (Int32 × (Nat → Int32) × (Nat → Int32) × (Nat → Int32) × (Nat → Int32)) := (if p0 = p1 then some ((0 : Int32), f_this_pile, f_this_plan, f_this_s, f_this_saved) else bd1 (f_X9_saves p0 f_this_s f_this_saved) (fun g2 => f_X9_playedFrom_L20 self p0 p1 1000 (0 : Int32) (-1 : Int32) (0 : Int32) f_this_pile f_this_plan f_this_s g2))
set_option maxRecDepth 100000 in
set_option maxHeartbeats 4000000 in
theorem c_X9_playedFrom {l : Launch} {G : Gt} {self : Int32 → Int32 → (Nat → Int32) → (Nat → Int32) → (Nat → Int32) → (Nat → Int32) → Option (Int32 × (Nat → Int32) × (Nat → Int32) × (Nat → Int32) × (Nat → Int32))} {H0 : Nat} (hself : ∀ {h_this h_this_s h_this_kept h_this_laid h_this_pile h_this_tape h_this_letters h_this_code0 h_this_read h_this_saved h_this_plan h_this_bestPlan h_this_offThen h_this_paidThen h_this_rows h_this_sorts h_this_sizes h_this_number h_this_holds h_this_heldOne h_this_trace : Nat} {p0 : Int32} {p1 : Int32} {x_this_isKept : Int32} {x_this_taped : Int32} {x_this_at : Int32} {x_this_begun : Int32} {x_this_token : Int32} {x_this_value : Int32} {x_this_opened : Int32} {x_this_steps : Int32} {x_this_most : Int32} {x_this_many : Int32} {x_this_few : Int32} {x_this_everHome : Int32} {x_this_firstFit : Int32} {x_this_rowMany : Int32} {x_this_traced : Int32} {x_this_own : Int32} {x_this_isParted : Int32} {f_this_pile : Nat → Int32} {f_this_plan : Nat → Int32} {f_this_s : Nat → Int32} {f_this_saved : Nat → Int32} {r : Int32} {m_this_pile : Nat → Int32} {m_this_plan : Nat → Int32} {m_this_s : Nat → Int32} {m_this_saved : Nat → Int32} , self p0 p1 f_this_pile f_this_plan f_this_s f_this_saved = some (r, m_this_pile, m_this_plan, m_this_s, m_this_saved) → mFi l G yX9_playedFrom cX9_playedFrom 9 .int H0 [.ref h_this, .int p0, .int p1] [(h_this, ob 9 [.ref h_this_s, .ref h_this_kept, .ref h_this_laid, .int x_this_isKept, .ref h_this_pile, .ref h_this_tape, .int x_this_taped, .ref h_this_letters, .int x_this_at, .int x_this_begun, .int x_this_token, .int x_this_value, .int x_this_opened, .int x_this_steps, .ref h_this_code0, .ref h_this_read, .ref h_this_saved, .ref h_this_plan, .ref h_this_bestPlan, .int x_this_most, .int x_this_many, .int x_this_few, .int x_this_everHome, .ref h_this_offThen, .ref h_this_paidThen, .int x_this_firstFit, .ref h_this_rows, .int x_this_rowMany, .ref h_this_sorts, .ref h_this_sizes, .ref h_this_number, .ref h_this_holds, .ref h_this_heldOne, .ref h_this_trace, .int x_this_traced, .int x_this_own, .int x_this_isParted]), (h_this_pile, ia G 200 f_this_pile), (h_this_plan, ia G 4 f_this_plan), (h_this_s, ia G 313 f_this_s), (h_this_saved, ia G 325 f_this_saved)] r [(h_this, ob 9 [.ref h_this_s, .ref h_this_kept, .ref h_this_laid, .int x_this_isKept, .ref h_this_pile, .ref h_this_tape, .int x_this_taped, .ref h_this_letters, .int x_this_at, .int x_this_begun, .int x_this_token, .int x_this_value, .int x_this_opened, .int x_this_steps, .ref h_this_code0, .ref h_this_read, .ref h_this_saved, .ref h_this_plan, .ref h_this_bestPlan, .int x_this_most, .int x_this_many, .int x_this_few, .int x_this_everHome, .ref h_this_offThen, .ref h_this_paidThen, .int x_this_firstFit, .ref h_this_rows, .int x_this_rowMany, .ref h_this_sorts, .ref h_this_sizes, .ref h_this_number, .ref h_this_holds, .ref h_this_heldOne, .ref h_this_trace, .int x_this_traced, .int x_this_own, .int x_this_isParted]), (h_this_pile, ia G 200 m_this_pile), (h_this_plan, ia G 4 m_this_plan), (h_this_s, ia G 313 m_this_s), (h_this_saved, ia G 325 m_this_saved)]) {h_this h_this_s h_this_kept h_this_laid h_this_pile h_this_tape h_this_letters h_this_code0 h_this_read h_this_saved h_this_plan h_this_bestPlan h_this_offThen h_this_paidThen h_this_rows h_this_sorts h_this_sizes h_this_number h_this_holds h_this_heldOne h_this_trace : Nat} {p0 : Int32} {p1 : Int32} {x_this_isKept : Int32} {x_this_taped : Int32} {x_this_at : Int32} {x_this_begun : Int32} {x_this_token : Int32} {x_this_value : Int32} {x_this_opened : Int32} {x_this_steps : Int32} {x_this_most : Int32} {x_this_many : Int32} {x_this_few : Int32} {x_this_everHome : Int32} {x_this_firstFit : Int32} {x_this_rowMany : Int32} {x_this_traced : Int32} {x_this_own : Int32} {x_this_isParted : Int32} {f_this_pile : Nat → Int32} {f_this_plan : Nat → Int32} {f_this_s : Nat → Int32} {f_this_saved : Nat → Int32} {r : Int32} {m_this_pile : Nat → Int32} {m_this_plan : Nat → Int32} {m_this_s : Nat → Int32} {m_this_saved : Nat → Int32} (hf : f_X9_playedFrom self p0 p1 f_this_pile f_this_plan f_this_s f_this_saved = some (r, m_this_pile, m_this_plan, m_this_s, m_this_saved)) : mFi l G yX9_playedFrom cX9_playedFrom 9 .int (H0 + 7) [.ref h_this, .int p0, .int p1] [(h_this, ob 9 [.ref h_this_s, .ref h_this_kept, .ref h_this_laid, .int x_this_isKept, .ref h_this_pile, .ref h_this_tape, .int x_this_taped, .ref h_this_letters, .int x_this_at, .int x_this_begun, .int x_this_token, .int x_this_value, .int x_this_opened, .int x_this_steps, .ref h_this_code0, .ref h_this_read, .ref h_this_saved, .ref h_this_plan, .ref h_this_bestPlan, .int x_this_most, .int x_this_many, .int x_this_few, .int x_this_everHome, .ref h_this_offThen, .ref h_this_paidThen, .int x_this_firstFit, .ref h_this_rows, .int x_this_rowMany, .ref h_this_sorts, .ref h_this_sizes, .ref h_this_number, .ref h_this_holds, .ref h_this_heldOne, .ref h_this_trace, .int x_this_traced, .int x_this_own, .int x_this_isParted]), (h_this_pile, ia G 200 f_this_pile), (h_this_plan, ia G 4 f_this_plan), (h_this_s, ia G 313 f_this_s), (h_this_saved, ia G 325 f_this_saved)] r [(h_this, ob 9 [.ref h_this_s, .ref h_this_kept, .ref h_this_laid, .int x_this_isKept, .ref h_this_pile, .ref h_this_tape, .int x_this_taped, .ref h_this_letters, .int x_this_at, .int x_this_begun, .int x_this_token, .int x_this_value, .int x_this_opened, .int x_this_steps, .ref h_this_code0, .ref h_this_read, .ref h_this_saved, .ref h_this_plan, .ref h_this_bestPlan, .int x_this_most, .int x_this_many, .int x_this_few, .int x_this_everHome, .ref h_this_offThen, .ref h_this_paidThen, .int x_this_firstFit, .ref h_this_rows, .int x_this_rowMany, .ref h_this_sorts, .ref h_this_sizes, .ref h_this_number, .ref h_this_holds, .ref h_this_heldOne, .ref h_this_trace, .int x_this_traced, .int x_this_own, .int x_this_isParted]), (h_this_pile, ia G 200 m_this_pile), (h_this_plan, ia G 4 m_this_plan), (h_this_s, ia G 313 m_this_s), (h_this_saved, ia G 325 m_this_saved)] := by
  refine mFi.of (by decide +kernel) (Nat.le_of_ble_eq_true rfl) ?_
  intro p e s m below meth c A C hr hlk h ls hl
  obtain ⟨hx, hb, hml, hown, hts⟩ := id C
  replace hl : lv_has ls 9 [(0, .ref h_this), (1, .int p0), (2, .int p1)] := hl
  unfold f_X9_playedFrom at hf
  refine with_K G A 9 (fun K hK1 hK2 => ?_)
  have B102 : ∀ (rec20 : Int32 → Int32 → Int32 → (Nat → Int32) → (Nat → Int32) → (Nat → Int32) → (Nat → Int32) → Option (Int32 × (Nat → Int32) × (Nat → Int32) × (Nat → Int32) × (Nat → Int32))) (hrec20 : ∀ (v3 : Int32) (v4 : Int32) (v5 : Int32) (g_this_pile : Nat → Int32) (g_this_plan : Nat → Int32) (g_this_s : Nat → Int32) (g_this_saved : Nat → Int32), rec20 v3 v4 v5 g_this_pile g_this_plan g_this_s g_this_saved = some (r, m_this_pile, m_this_plan, m_this_s, m_this_saved) → K 20 ([] : List Value) [(h_this, ob 9 [.ref h_this_s, .ref h_this_kept, .ref h_this_laid, .int x_this_isKept, .ref h_this_pile, .ref h_this_tape, .int x_this_taped, .ref h_this_letters, .int x_this_at, .int x_this_begun, .int x_this_token, .int x_this_value, .int x_this_opened, .int x_this_steps, .ref h_this_code0, .ref h_this_read, .ref h_this_saved, .ref h_this_plan, .ref h_this_bestPlan, .int x_this_most, .int x_this_many, .int x_this_few, .int x_this_everHome, .ref h_this_offThen, .ref h_this_paidThen, .int x_this_firstFit, .ref h_this_rows, .int x_this_rowMany, .ref h_this_sorts, .ref h_this_sizes, .ref h_this_number, .ref h_this_holds, .ref h_this_heldOne, .ref h_this_trace, .int x_this_traced, .int x_this_own, .int x_this_isParted]), (h_this_pile, ia G 200 g_this_pile), (h_this_plan, ia G 4 g_this_plan), (h_this_s, ia G 313 g_this_s), (h_this_saved, ia G 325 g_this_saved)] [(0, .ref h_this), (1, .int p0), (2, .int p1), (3, .int v3), (4, .int v4), (5, .int v5)]) (v3 : Int32) (v5 : Int32) (v7 : Int32) (v8 : Int32) (s0 : Int32) (g_this_pile : Nat → Int32) (g_this_plan : Nat → Int32) (g_this_s : Nat → Int32) (g_this_saved : Nat → Int32), f_X9_playedFrom_b102 rec20 v3 v5 v7 v8 s0 g_this_pile g_this_plan g_this_s g_this_saved = some (r, m_this_pile, m_this_plan, m_this_s, m_this_saved) → K 102 [.int s0] [(h_this, ob 9 [.ref h_this_s, .ref h_this_kept, .ref h_this_laid, .int x_this_isKept, .ref h_this_pile, .ref h_this_tape, .int x_this_taped, .ref h_this_letters, .int x_this_at, .int x_this_begun, .int x_this_token, .int x_this_value, .int x_this_opened, .int x_this_steps, .ref h_this_code0, .ref h_this_read, .ref h_this_saved, .ref h_this_plan, .ref h_this_bestPlan, .int x_this_most, .int x_this_many, .int x_this_few, .int x_this_everHome, .ref h_this_offThen, .ref h_this_paidThen, .int x_this_firstFit, .ref h_this_rows, .int x_this_rowMany, .ref h_this_sorts, .ref h_this_sizes, .ref h_this_number, .ref h_this_holds, .ref h_this_heldOne, .ref h_this_trace, .int x_this_traced, .int x_this_own, .int x_this_isParted]), (h_this_pile, ia G 200 g_this_pile), (h_this_plan, ia G 4 g_this_plan), (h_this_s, ia G 313 g_this_s), (h_this_saved, ia G 325 g_this_saved)] [(0, .ref h_this), (1, .int p0), (2, .int p1), (3, .int v3), (5, .int v5), (7, .int v7), (8, .int v8)] := by
    intro rec20 hrec20 v3 v5 v7 v8 s0 g_this_pile g_this_plan g_this_s g_this_saved hf
    unfold f_X9_playedFrom_b102 at hf
    refine hK1 _ _ _ _ (fun H locs ls h hl => ?_)
    refine lv_istore (lv' := [(4, .int s0), (0, .ref h_this), (1, .int p0), (2, .int p1), (3, .int v3), (5, .int v5), (7, .int v7), (8, .int v8)]) hx hb dX9_playedFrom_102 hl (by decide) rfl (fun ls hl => ?_)
    refine lv_iload hx hb dX9_playedFrom_104 (lv_at hl 7 rfl) ?_
    refine lv_if_eq (tgt := 114) hx hb dX9_playedFrom_106 rfl (fun c21 => ?_) (fun c21 => ?_)
    · replace hf := ifp c21 hf
      refine lv_iload_n hx hb dX9_playedFrom_114 rfl (lv_at hl 4 rfl) ?_
      refine lv_istore_n (lv' := [(3, .int v3), (4, .int s0), (0, .ref h_this), (1, .int p0), (2, .int p1), (5, .int v5), (7, .int v7), (8, .int v8)]) hx hb dX9_playedFrom_115 rfl hl (by decide) rfl (fun ls hl => ?_)
      obtain ⟨t22, et22⟩ : ∃ y : Int32, y = v5 + (1 : Int32) := ⟨_, rfl⟩
      replace hf := lt1_inv et22 hf
      refine lv_iinc (v := t22) (lv' := [(5, .int t22), (3, .int v3), (4, .int s0), (0, .ref h_this), (1, .int p0), (2, .int p1), (7, .int v7), (8, .int v8)]) hx hb dX9_playedFrom_116 hl (k := 5) rfl (by rw [et22]; rfl) (by decide) rfl (fun ls hl => ?_)
      refine lv_goto (tgt := 20) hx hb dX9_playedFrom_119 rfl ?_
      exact hK2 _ _ _ _ (hrec20 v3 s0 t22 g_this_pile g_this_plan g_this_s g_this_saved hf) _ _ _ h (lv_sub hl [3, 4, 5, 1, 2, 0] rfl)
    · replace hf := ifn c21 hf
      refine lv_iload hx hb dX9_playedFrom_109 (lv_at hl 6 rfl) ?_
      refine lv_goto (tgt := 115) hx hb dX9_playedFrom_111 rfl ?_
      refine lv_istore_n (lv' := [(3, .int v7), (4, .int s0), (0, .ref h_this), (1, .int p0), (2, .int p1), (5, .int v5), (7, .int v7), (8, .int v8)]) hx hb dX9_playedFrom_115 rfl hl (by decide) rfl (fun ls hl => ?_)
      obtain ⟨t23, et23⟩ : ∃ y : Int32, y = v5 + (1 : Int32) := ⟨_, rfl⟩
      replace hf := lt1_inv et23 hf
      refine lv_iinc (v := t23) (lv' := [(5, .int t23), (3, .int v7), (4, .int s0), (0, .ref h_this), (1, .int p0), (2, .int p1), (7, .int v7), (8, .int v8)]) hx hb dX9_playedFrom_116 hl (k := 5) rfl (by rw [et23]; rfl) (by decide) rfl (fun ls hl => ?_)
      refine lv_goto (tgt := 20) hx hb dX9_playedFrom_119 rfl ?_
      exact hK2 _ _ _ _ (hrec20 v7 s0 t23 g_this_pile g_this_plan g_this_s g_this_saved hf) _ _ _ h (lv_sub hl [3, 4, 5, 1, 2, 0] rfl)
  have B88 : ∀ (rec20 : Int32 → Int32 → Int32 → (Nat → Int32) → (Nat → Int32) → (Nat → Int32) → (Nat → Int32) → Option (Int32 × (Nat → Int32) × (Nat → Int32) × (Nat → Int32) × (Nat → Int32))) (hrec20 : ∀ (v3 : Int32) (v4 : Int32) (v5 : Int32) (g_this_pile : Nat → Int32) (g_this_plan : Nat → Int32) (g_this_s : Nat → Int32) (g_this_saved : Nat → Int32), rec20 v3 v4 v5 g_this_pile g_this_plan g_this_s g_this_saved = some (r, m_this_pile, m_this_plan, m_this_s, m_this_saved) → K 20 ([] : List Value) [(h_this, ob 9 [.ref h_this_s, .ref h_this_kept, .ref h_this_laid, .int x_this_isKept, .ref h_this_pile, .ref h_this_tape, .int x_this_taped, .ref h_this_letters, .int x_this_at, .int x_this_begun, .int x_this_token, .int x_this_value, .int x_this_opened, .int x_this_steps, .ref h_this_code0, .ref h_this_read, .ref h_this_saved, .ref h_this_plan, .ref h_this_bestPlan, .int x_this_most, .int x_this_many, .int x_this_few, .int x_this_everHome, .ref h_this_offThen, .ref h_this_paidThen, .int x_this_firstFit, .ref h_this_rows, .int x_this_rowMany, .ref h_this_sorts, .ref h_this_sizes, .ref h_this_number, .ref h_this_holds, .ref h_this_heldOne, .ref h_this_trace, .int x_this_traced, .int x_this_own, .int x_this_isParted]), (h_this_pile, ia G 200 g_this_pile), (h_this_plan, ia G 4 g_this_plan), (h_this_s, ia G 313 g_this_s), (h_this_saved, ia G 325 g_this_saved)] [(0, .ref h_this), (1, .int p0), (2, .int p1), (3, .int v3), (4, .int v4), (5, .int v5)]) (v3 : Int32) (v4 : Int32) (v5 : Int32) (v7 : Int32) (s0 : Int32) (g_this_pile : Nat → Int32) (g_this_plan : Nat → Int32) (g_this_s : Nat → Int32) (g_this_saved : Nat → Int32), f_X9_playedFrom_b88 rec20 v3 v4 v5 v7 s0 g_this_pile g_this_plan g_this_s g_this_saved = some (r, m_this_pile, m_this_plan, m_this_s, m_this_saved) → K 88 [.int s0] [(h_this, ob 9 [.ref h_this_s, .ref h_this_kept, .ref h_this_laid, .int x_this_isKept, .ref h_this_pile, .ref h_this_tape, .int x_this_taped, .ref h_this_letters, .int x_this_at, .int x_this_begun, .int x_this_token, .int x_this_value, .int x_this_opened, .int x_this_steps, .ref h_this_code0, .ref h_this_read, .ref h_this_saved, .ref h_this_plan, .ref h_this_bestPlan, .int x_this_most, .int x_this_many, .int x_this_few, .int x_this_everHome, .ref h_this_offThen, .ref h_this_paidThen, .int x_this_firstFit, .ref h_this_rows, .int x_this_rowMany, .ref h_this_sorts, .ref h_this_sizes, .ref h_this_number, .ref h_this_holds, .ref h_this_heldOne, .ref h_this_trace, .int x_this_traced, .int x_this_own, .int x_this_isParted]), (h_this_pile, ia G 200 g_this_pile), (h_this_plan, ia G 4 g_this_plan), (h_this_s, ia G 313 g_this_s), (h_this_saved, ia G 325 g_this_saved)] [(0, .ref h_this), (1, .int p0), (2, .int p1), (3, .int v3), (4, .int v4), (5, .int v5), (7, .int v7)] := by
    intro rec20 hrec20 v3 v4 v5 v7 s0 g_this_pile g_this_plan g_this_s g_this_saved hf
    unfold f_X9_playedFrom_b88 at hf
    refine hK1 _ _ _ _ (fun H locs ls h hl => ?_)
    refine lv_istore (lv' := [(8, .int s0), (0, .ref h_this), (1, .int p0), (2, .int p1), (3, .int v3), (4, .int v4), (5, .int v5), (7, .int v7)]) hx hb dX9_playedFrom_88 hl (by decide) rfl (fun ls hl => ?_)
    refine lv_iload hx hb dX9_playedFrom_90 (lv_at hl 0 rfl) ?_
    refine lv_if_eq (tgt := 100) hx hb dX9_playedFrom_92 rfl (fun c20 => ?_) (fun c20 => ?_)
    · replace hf := ifp c20 hf
      refine lv_iload hx hb dX9_playedFrom_100 (lv_at hl 5 rfl) ?_
      exact hK2 _ _ _ _ (B102 _ hrec20 v3 v5 v7 s0 v4 g_this_pile g_this_plan g_this_s g_this_saved hf) _ _ _ h (lv_sub hl [1, 2, 3, 4, 6, 7, 0] rfl)
    · replace hf := ifn c20 hf
      refine lv_iload hx hb dX9_playedFrom_95 (lv_at hl 6 rfl) ?_
      refine lv_goto (tgt := 102) hx hb dX9_playedFrom_97 rfl ?_
      exact hK2 _ _ _ _ (B102 _ hrec20 v3 v5 v7 s0 v5 g_this_pile g_this_plan g_this_s g_this_saved hf) _ _ _ h (lv_sub hl [1, 2, 3, 4, 6, 7, 0] rfl)
  have B83 : ∀ (rec20 : Int32 → Int32 → Int32 → (Nat → Int32) → (Nat → Int32) → (Nat → Int32) → (Nat → Int32) → Option (Int32 × (Nat → Int32) × (Nat → Int32) × (Nat → Int32) × (Nat → Int32))) (hrec20 : ∀ (v3 : Int32) (v4 : Int32) (v5 : Int32) (g_this_pile : Nat → Int32) (g_this_plan : Nat → Int32) (g_this_s : Nat → Int32) (g_this_saved : Nat → Int32), rec20 v3 v4 v5 g_this_pile g_this_plan g_this_s g_this_saved = some (r, m_this_pile, m_this_plan, m_this_s, m_this_saved) → K 20 ([] : List Value) [(h_this, ob 9 [.ref h_this_s, .ref h_this_kept, .ref h_this_laid, .int x_this_isKept, .ref h_this_pile, .ref h_this_tape, .int x_this_taped, .ref h_this_letters, .int x_this_at, .int x_this_begun, .int x_this_token, .int x_this_value, .int x_this_opened, .int x_this_steps, .ref h_this_code0, .ref h_this_read, .ref h_this_saved, .ref h_this_plan, .ref h_this_bestPlan, .int x_this_most, .int x_this_many, .int x_this_few, .int x_this_everHome, .ref h_this_offThen, .ref h_this_paidThen, .int x_this_firstFit, .ref h_this_rows, .int x_this_rowMany, .ref h_this_sorts, .ref h_this_sizes, .ref h_this_number, .ref h_this_holds, .ref h_this_heldOne, .ref h_this_trace, .int x_this_traced, .int x_this_own, .int x_this_isParted]), (h_this_pile, ia G 200 g_this_pile), (h_this_plan, ia G 4 g_this_plan), (h_this_s, ia G 313 g_this_s), (h_this_saved, ia G 325 g_this_saved)] [(0, .ref h_this), (1, .int p0), (2, .int p1), (3, .int v3), (4, .int v4), (5, .int v5)]) (v3 : Int32) (v4 : Int32) (v5 : Int32) (v7 : Int32) (g_this_pile : Nat → Int32) (g_this_plan : Nat → Int32) (g_this_s : Nat → Int32) (g_this_saved : Nat → Int32), f_X9_playedFrom_b83 rec20 v3 v4 v5 v7 g_this_pile g_this_plan g_this_s g_this_saved = some (r, m_this_pile, m_this_plan, m_this_s, m_this_saved) → K 83 ([] : List Value) [(h_this, ob 9 [.ref h_this_s, .ref h_this_kept, .ref h_this_laid, .int x_this_isKept, .ref h_this_pile, .ref h_this_tape, .int x_this_taped, .ref h_this_letters, .int x_this_at, .int x_this_begun, .int x_this_token, .int x_this_value, .int x_this_opened, .int x_this_steps, .ref h_this_code0, .ref h_this_read, .ref h_this_saved, .ref h_this_plan, .ref h_this_bestPlan, .int x_this_most, .int x_this_many, .int x_this_few, .int x_this_everHome, .ref h_this_offThen, .ref h_this_paidThen, .int x_this_firstFit, .ref h_this_rows, .int x_this_rowMany, .ref h_this_sorts, .ref h_this_sizes, .ref h_this_number, .ref h_this_holds, .ref h_this_heldOne, .ref h_this_trace, .int x_this_traced, .int x_this_own, .int x_this_isParted]), (h_this_pile, ia G 200 g_this_pile), (h_this_plan, ia G 4 g_this_plan), (h_this_s, ia G 313 g_this_s), (h_this_saved, ia G 325 g_this_saved)] [(0, .ref h_this), (1, .int p0), (2, .int p1), (3, .int v3), (4, .int v4), (5, .int v5), (7, .int v7)] := by
    intro rec20 hrec20 v3 v4 v5 v7 g_this_pile g_this_plan g_this_s g_this_saved hf
    unfold f_X9_playedFrom_b83 at hf
    refine hK1 _ _ _ _ (fun H locs ls h hl => ?_)
    refine lv_iconst (v := (1 : Int32)) hx hb dX9_playedFrom_83 rfl ?_
    refine lv_goto (tgt := 88) hx hb dX9_playedFrom_84 rfl ?_
    exact hK2 _ _ _ _ (B88 _ hrec20 v3 v4 v5 v7 (1 : Int32) g_this_pile g_this_plan g_this_s g_this_saved hf) _ _ _ h (lv_sub hl [0, 1, 2, 3, 4, 5, 6] rfl)
  have B87 : ∀ (rec20 : Int32 → Int32 → Int32 → (Nat → Int32) → (Nat → Int32) → (Nat → Int32) → (Nat → Int32) → Option (Int32 × (Nat → Int32) × (Nat → Int32) × (Nat → Int32) × (Nat → Int32))) (hrec20 : ∀ (v3 : Int32) (v4 : Int32) (v5 : Int32) (g_this_pile : Nat → Int32) (g_this_plan : Nat → Int32) (g_this_s : Nat → Int32) (g_this_saved : Nat → Int32), rec20 v3 v4 v5 g_this_pile g_this_plan g_this_s g_this_saved = some (r, m_this_pile, m_this_plan, m_this_s, m_this_saved) → K 20 ([] : List Value) [(h_this, ob 9 [.ref h_this_s, .ref h_this_kept, .ref h_this_laid, .int x_this_isKept, .ref h_this_pile, .ref h_this_tape, .int x_this_taped, .ref h_this_letters, .int x_this_at, .int x_this_begun, .int x_this_token, .int x_this_value, .int x_this_opened, .int x_this_steps, .ref h_this_code0, .ref h_this_read, .ref h_this_saved, .ref h_this_plan, .ref h_this_bestPlan, .int x_this_most, .int x_this_many, .int x_this_few, .int x_this_everHome, .ref h_this_offThen, .ref h_this_paidThen, .int x_this_firstFit, .ref h_this_rows, .int x_this_rowMany, .ref h_this_sorts, .ref h_this_sizes, .ref h_this_number, .ref h_this_holds, .ref h_this_heldOne, .ref h_this_trace, .int x_this_traced, .int x_this_own, .int x_this_isParted]), (h_this_pile, ia G 200 g_this_pile), (h_this_plan, ia G 4 g_this_plan), (h_this_s, ia G 313 g_this_s), (h_this_saved, ia G 325 g_this_saved)] [(0, .ref h_this), (1, .int p0), (2, .int p1), (3, .int v3), (4, .int v4), (5, .int v5)]) (v3 : Int32) (v4 : Int32) (v5 : Int32) (v7 : Int32) (g_this_pile : Nat → Int32) (g_this_plan : Nat → Int32) (g_this_s : Nat → Int32) (g_this_saved : Nat → Int32), f_X9_playedFrom_b87 rec20 v3 v4 v5 v7 g_this_pile g_this_plan g_this_s g_this_saved = some (r, m_this_pile, m_this_plan, m_this_s, m_this_saved) → K 87 ([] : List Value) [(h_this, ob 9 [.ref h_this_s, .ref h_this_kept, .ref h_this_laid, .int x_this_isKept, .ref h_this_pile, .ref h_this_tape, .int x_this_taped, .ref h_this_letters, .int x_this_at, .int x_this_begun, .int x_this_token, .int x_this_value, .int x_this_opened, .int x_this_steps, .ref h_this_code0, .ref h_this_read, .ref h_this_saved, .ref h_this_plan, .ref h_this_bestPlan, .int x_this_most, .int x_this_many, .int x_this_few, .int x_this_everHome, .ref h_this_offThen, .ref h_this_paidThen, .int x_this_firstFit, .ref h_this_rows, .int x_this_rowMany, .ref h_this_sorts, .ref h_this_sizes, .ref h_this_number, .ref h_this_holds, .ref h_this_heldOne, .ref h_this_trace, .int x_this_traced, .int x_this_own, .int x_this_isParted]), (h_this_pile, ia G 200 g_this_pile), (h_this_plan, ia G 4 g_this_plan), (h_this_s, ia G 313 g_this_s), (h_this_saved, ia G 325 g_this_saved)] [(0, .ref h_this), (1, .int p0), (2, .int p1), (3, .int v3), (4, .int v4), (5, .int v5), (7, .int v7)] := by
    intro rec20 hrec20 v3 v4 v5 v7 g_this_pile g_this_plan g_this_s g_this_saved hf
    unfold f_X9_playedFrom_b87 at hf
    refine hK1 _ _ _ _ (fun H locs ls h hl => ?_)
    refine lv_iconst (v := (0 : Int32)) hx hb dX9_playedFrom_87 rfl ?_
    exact hK2 _ _ _ _ (B88 _ hrec20 v3 v4 v5 v7 (0 : Int32) g_this_pile g_this_plan g_this_s g_this_saved hf) _ _ _ h (lv_sub hl [0, 1, 2, 3, 4, 5, 6] rfl)
  have L20 : ∀ (n : Nat) (v3 : Int32) (v4 : Int32) (v5 : Int32) (g_this_pile : Nat → Int32) (g_this_plan : Nat → Int32) (g_this_s : Nat → Int32) (g_this_saved : Nat → Int32), f_X9_playedFrom_L20 self p0 p1 n v3 v4 v5 g_this_pile g_this_plan g_this_s g_this_saved = some (r, m_this_pile, m_this_plan, m_this_s, m_this_saved) → K 20 ([] : List Value) [(h_this, ob 9 [.ref h_this_s, .ref h_this_kept, .ref h_this_laid, .int x_this_isKept, .ref h_this_pile, .ref h_this_tape, .int x_this_taped, .ref h_this_letters, .int x_this_at, .int x_this_begun, .int x_this_token, .int x_this_value, .int x_this_opened, .int x_this_steps, .ref h_this_code0, .ref h_this_read, .ref h_this_saved, .ref h_this_plan, .ref h_this_bestPlan, .int x_this_most, .int x_this_many, .int x_this_few, .int x_this_everHome, .ref h_this_offThen, .ref h_this_paidThen, .int x_this_firstFit, .ref h_this_rows, .int x_this_rowMany, .ref h_this_sorts, .ref h_this_sizes, .ref h_this_number, .ref h_this_holds, .ref h_this_heldOne, .ref h_this_trace, .int x_this_traced, .int x_this_own, .int x_this_isParted]), (h_this_pile, ia G 200 g_this_pile), (h_this_plan, ia G 4 g_this_plan), (h_this_s, ia G 313 g_this_s), (h_this_saved, ia G 325 g_this_saved)] [(0, .ref h_this), (1, .int p0), (2, .int p1), (3, .int v3), (4, .int v4), (5, .int v5)] := by
    intro n
    induction n with
    | zero =>
      intro v3 v4 v5 g_this_pile g_this_plan g_this_s g_this_saved hf
      replace hf : (none : Option _) = some _ := hf
      cases hf
    | succ n ih =>
      intro v3 v4 v5 g_this_pile g_this_plan g_this_s g_this_saved hf
      rw [f_X9_playedFrom_L20] at hf
      refine hK1 _ _ _ _ (fun H locs ls h hl => ?_)
      refine lv_iload hx hb dX9_playedFrom_20 (lv_at hl 5 rfl) ?_
      refine lv_aload_n hx hb dX9_playedFrom_22 rfl (lv_at hl 0 rfl) ?_
      refine r_get C h fk_X9_9 0 rfl rfl dX9_playedFrom_23 ?_
      refine lv_iconst (v := (4 : Int32)) hx hb dX9_playedFrom_26 rfl ?_
      refine r_ialdL C h 3 rfl (vlit rfl) 4 rfl dX9_playedFrom_27 ?_
      refine lv_icmp_gt (tgt := 122) hx hb dX9_playedFrom_28 rfl (fun c4 => ?_) (fun c4 => ?_)
      · replace hf := ifp c4 hf
        refine lv_aload_n hx hb dX9_playedFrom_122 rfl (lv_at hl 0 rfl) ?_
        refine r_get C h fk_X9_38 0 rfl rfl dX9_playedFrom_123 ?_
        refine lv_iload_n hx hb dX9_playedFrom_126 rfl (lv_at hl 1 rfl) ?_
        refine lv_iload hx hb dX9_playedFrom_127 (lv_at hl 4 rfl) ?_
        replace hf := chkI_inv hf
        obtain ⟨hi5, hf⟩ := hf
        refine r_iast (ws' := [(h_this, ob 9 [.ref h_this_s, .ref h_this_kept, .ref h_this_laid, .int x_this_isKept, .ref h_this_pile, .ref h_this_tape, .int x_this_taped, .ref h_this_letters, .int x_this_at, .int x_this_begun, .int x_this_token, .int x_this_value, .int x_this_opened, .int x_this_steps, .ref h_this_code0, .ref h_this_read, .ref h_this_saved, .ref h_this_plan, .ref h_this_bestPlan, .int x_this_most, .int x_this_many, .int x_this_few, .int x_this_everHome, .ref h_this_offThen, .ref h_this_paidThen, .int x_this_firstFit, .ref h_this_rows, .int x_this_rowMany, .ref h_this_sorts, .ref h_this_sizes, .ref h_this_number, .ref h_this_holds, .ref h_this_heldOne, .ref h_this_trace, .int x_this_traced, .int x_this_own, .int x_this_isParted]), (h_this_pile, ia G 200 g_this_pile), (h_this_plan, ia G 4 (upd g_this_plan p0.toNatClampNeg v4)), (h_this_s, ia G 313 g_this_s), (h_this_saved, ia G 325 g_this_saved)]) C h 2 rfl hi5 dX9_playedFrom_129 rfl (fun H locs h => ?_)
        refine lv_iload_n hx hb dX9_playedFrom_130 rfl (lv_at hl 3 rfl) ?_
        cases hf
        exact r_iret C h hr hlk rfl dX9_playedFrom_131
      · replace hf := ifn c4 hf
        refine lv_aload_n hx hb dX9_playedFrom_31 rfl (lv_at hl 0 rfl) ?_
        refine lv_iload hx hb dX9_playedFrom_32 (lv_at hl 5 rfl) ?_
        replace hf := bd3_inv hf
        obtain ⟨r6, g7, g8, hc9, hf⟩ := hf
        refine r_ciV (ws' := [(h_this, ob 9 [.ref h_this_s, .ref h_this_kept, .ref h_this_laid, .int x_this_isKept, .ref h_this_pile, .ref h_this_tape, .int x_this_taped, .ref h_this_letters, .int x_this_at, .int x_this_begun, .int x_this_token, .int x_this_value, .int x_this_opened, .int x_this_steps, .ref h_this_code0, .ref h_this_read, .ref h_this_saved, .ref h_this_plan, .ref h_this_bestPlan, .int x_this_most, .int x_this_many, .int x_this_few, .int x_this_everHome, .ref h_this_offThen, .ref h_this_paidThen, .int x_this_firstFit, .ref h_this_rows, .int x_this_rowMany, .ref h_this_sorts, .ref h_this_sizes, .ref h_this_number, .ref h_this_holds, .ref h_this_heldOne, .ref h_this_trace, .int x_this_traced, .int x_this_own, .int x_this_isParted]), (h_this_pile, ia G 200 g7), (h_this_plan, ia G 4 g_this_plan), (h_this_s, ia G 313 g8), (h_this_saved, ia G 325 g_this_saved)]) C h (c_X9_goesBy hc9) mv_X9_238 rfl 0 rfl [0, 1, 3] rfl rfl [1, 3] [(h_this_pile, ia G 200 g7), (h_this_s, ia G 313 g8)] rfl rfl (by decide +kernel) rfl hl.1 rfl (Nat.le_of_ble_eq_true rfl) (rok (by omega)) dX9_playedFrom_34 (fun H locs h => ?_)
        refine lv_istore (lv' := [(6, .int r6), (0, .ref h_this), (1, .int p0), (2, .int p1), (3, .int v3), (4, .int v4), (5, .int v5)]) hx hb dX9_playedFrom_37 hl (by decide) rfl (fun ls hl => ?_)
        refine lv_iload hx hb dX9_playedFrom_39 (lv_at hl 0 rfl) ?_
        refine lv_aload_n hx hb dX9_playedFrom_41 rfl (lv_at hl 1 rfl) ?_
        refine lv_iload_n hx hb dX9_playedFrom_42 rfl (lv_at hl 2 rfl) ?_
        refine lv_iconst (v := (1 : Int32)) hx hb dX9_playedFrom_43 rfl ?_
        refine lv_iadd hx hb dX9_playedFrom_44 ?_
        refine lv_iload_n hx hb dX9_playedFrom_45 rfl (lv_at hl 3 rfl) ?_
        replace hf := bd5_inv hf
        obtain ⟨r10, g11, g12, g13, g14, hc15, hf⟩ := hf
        refine r_ciV (ws' := [(h_this, ob 9 [.ref h_this_s, .ref h_this_kept, .ref h_this_laid, .int x_this_isKept, .ref h_this_pile, .ref h_this_tape, .int x_this_taped, .ref h_this_letters, .int x_this_at, .int x_this_begun, .int x_this_token, .int x_this_value, .int x_this_opened, .int x_this_steps, .ref h_this_code0, .ref h_this_read, .ref h_this_saved, .ref h_this_plan, .ref h_this_bestPlan, .int x_this_most, .int x_this_many, .int x_this_few, .int x_this_everHome, .ref h_this_offThen, .ref h_this_paidThen, .int x_this_firstFit, .ref h_this_rows, .int x_this_rowMany, .ref h_this_sorts, .ref h_this_sizes, .ref h_this_number, .ref h_this_holds, .ref h_this_heldOne, .ref h_this_trace, .int x_this_traced, .int x_this_own, .int x_this_isParted]), (h_this_pile, ia G 200 g11), (h_this_plan, ia G 4 g12), (h_this_s, ia G 313 g13), (h_this_saved, ia G 325 g14)]) C h (hself hc15) mv_X9_301 rfl 0 rfl [0, 1, 2, 3, 4] rfl rfl [1, 2, 3, 4] [(h_this_pile, ia G 200 g11), (h_this_plan, ia G 4 g12), (h_this_s, ia G 313 g13), (h_this_saved, ia G 325 g14)] rfl rfl (by decide +kernel) rfl hl.1 rfl (Nat.le_of_ble_eq_true rfl) (rok (by omega)) dX9_playedFrom_46 (fun H locs h => ?_)
        refine lv_iadd hx hb dX9_playedFrom_49 ?_
        refine lv_topi (fun t16 et16 => ?_)
        replace hf := lt1_inv et16 hf
        refine lv_istore (lv' := [(7, .int t16), (6, .int r6), (0, .ref h_this), (1, .int p0), (2, .int p1), (3, .int v3), (4, .int v4), (5, .int v5)]) hx hb dX9_playedFrom_50 hl (by decide) rfl (fun ls hl => ?_)
        refine lv_aload_n hx hb dX9_playedFrom_52 rfl (lv_at hl 2 rfl) ?_
        refine lv_iload_n hx hb dX9_playedFrom_53 rfl (lv_at hl 3 rfl) ?_
        replace hf := bd1_inv hf
        obtain ⟨g17, hc18, hf⟩ := hf
        refine r_cvV (ws' := [(h_this, ob 9 [.ref h_this_s, .ref h_this_kept, .ref h_this_laid, .int x_this_isKept, .ref h_this_pile, .ref h_this_tape, .int x_this_taped, .ref h_this_letters, .int x_this_at, .int x_this_begun, .int x_this_token, .int x_this_value, .int x_this_opened, .int x_this_steps, .ref h_this_code0, .ref h_this_read, .ref h_this_saved, .ref h_this_plan, .ref h_this_bestPlan, .int x_this_most, .int x_this_many, .int x_this_few, .int x_this_everHome, .ref h_this_offThen, .ref h_this_paidThen, .int x_this_firstFit, .ref h_this_rows, .int x_this_rowMany, .ref h_this_sorts, .ref h_this_sizes, .ref h_this_number, .ref h_this_holds, .ref h_this_heldOne, .ref h_this_trace, .int x_this_traced, .int x_this_own, .int x_this_isParted]), (h_this_pile, ia G 200 g11), (h_this_plan, ia G 4 g12), (h_this_s, ia G 313 g17), (h_this_saved, ia G 325 g14)]) C h (c_X9_restores hc18) mv_X9_285 rfl 0 rfl [0, 3, 4] rfl rfl [3] [(h_this_s, ia G 313 g17)] rfl rfl (by decide +kernel) rfl hl.1 rfl (Nat.le_of_ble_eq_true rfl) (rok (by omega)) dX9_playedFrom_54 (fun H locs h => ?_)
        refine lv_iload hx hb dX9_playedFrom_57 (lv_at hl 6 rfl) ?_
        refine lv_if_lt (tgt := 83) hx hb dX9_playedFrom_59 rfl (fun c19 => ?_) (fun c19 => ?_)
        · replace hf := ifp c19 hf
          exact hK2 _ _ _ _ (B83 _ ih v3 v4 v5 t16 g11 g12 g17 g14 hf) _ _ _ h (lv_sub hl [2, 3, 4, 5, 6, 7, 0] rfl)
        · replace hf := ifn c19 hf
          refine lv_iload_n hx hb dX9_playedFrom_62 rfl (lv_at hl 3 rfl) ?_
          refine lv_iconst (v := (2 : Int32)) hx hb dX9_playedFrom_63 rfl ?_
          refine lv_irem hx hb dX9_playedFrom_64 (by decide) ?_
          refine lv_if_ne (tgt := 77) hx hb dX9_playedFrom_65 rfl (fun c24 => ?_) (fun c24 => ?_)
          · replace hf := ifn c24 hf
            refine lv_iload hx hb dX9_playedFrom_77 (lv_at hl 0 rfl) ?_
            refine lv_iload_n hx hb dX9_playedFrom_79 rfl (lv_at hl 5 rfl) ?_
            refine lv_icmp_ge (tgt := 87) hx hb dX9_playedFrom_80 rfl (fun c25 => ?_) (fun c25 => ?_)
            · replace hf := ifp c25 hf
              exact hK2 _ _ _ _ (B87 _ ih v3 v4 v5 t16 g11 g12 g17 g14 hf) _ _ _ h (lv_sub hl [2, 3, 4, 5, 6, 7, 0] rfl)
            · replace hf := ifn c25 hf
              exact hK2 _ _ _ _ (B83 _ ih v3 v4 v5 t16 g11 g12 g17 g14 hf) _ _ _ h (lv_sub hl [2, 3, 4, 5, 6, 7, 0] rfl)
          · replace hf := ifp c24 hf
            refine lv_iload hx hb dX9_playedFrom_68 (lv_at hl 0 rfl) ?_
            refine lv_iload_n hx hb dX9_playedFrom_70 rfl (lv_at hl 5 rfl) ?_
            refine lv_icmp_le (tgt := 87) hx hb dX9_playedFrom_71 rfl (fun c26 => ?_) (fun c26 => ?_)
            · replace hf := ifp c26 hf
              exact hK2 _ _ _ _ (B87 _ ih v3 v4 v5 t16 g11 g12 g17 g14 hf) _ _ _ h (lv_sub hl [2, 3, 4, 5, 6, 7, 0] rfl)
            · replace hf := ifn c26 hf
              refine lv_goto (tgt := 83) hx hb dX9_playedFrom_74 rfl ?_
              exact hK2 _ _ _ _ (B83 _ ih v3 v4 v5 t16 g11 g12 g17 g14 hf) _ _ _ h (lv_sub hl [2, 3, 4, 5, 6, 7, 0] rfl)
  refine lv_iload_n hx hb dX9_playedFrom_0 rfl (lv_at hl 1 rfl) ?_
  refine lv_iload_n hx hb dX9_playedFrom_1 rfl (lv_at hl 2 rfl) ?_
  refine lv_icmp_ne (tgt := 7) hx hb dX9_playedFrom_2 rfl (fun c1 => ?_) (fun c1 => ?_)
  · replace hf := ifn c1 hf
    refine lv_aload_n hx hb dX9_playedFrom_7 rfl (lv_at hl 0 rfl) ?_
    refine lv_iload_n hx hb dX9_playedFrom_8 rfl (lv_at hl 1 rfl) ?_
    replace hf := bd1_inv hf
    obtain ⟨g2, hc3, hf⟩ := hf
    refine r_cvV (ws' := [(h_this, ob 9 [.ref h_this_s, .ref h_this_kept, .ref h_this_laid, .int x_this_isKept, .ref h_this_pile, .ref h_this_tape, .int x_this_taped, .ref h_this_letters, .int x_this_at, .int x_this_begun, .int x_this_token, .int x_this_value, .int x_this_opened, .int x_this_steps, .ref h_this_code0, .ref h_this_read, .ref h_this_saved, .ref h_this_plan, .ref h_this_bestPlan, .int x_this_most, .int x_this_many, .int x_this_few, .int x_this_everHome, .ref h_this_offThen, .ref h_this_paidThen, .int x_this_firstFit, .ref h_this_rows, .int x_this_rowMany, .ref h_this_sorts, .ref h_this_sizes, .ref h_this_number, .ref h_this_holds, .ref h_this_heldOne, .ref h_this_trace, .int x_this_traced, .int x_this_own, .int x_this_isParted]), (h_this_pile, ia G 200 f_this_pile), (h_this_plan, ia G 4 f_this_plan), (h_this_s, ia G 313 f_this_s), (h_this_saved, ia G 325 g2)]) C h (c_X9_saves hc3) mv_X9_278 rfl 0 rfl [0, 3, 4] rfl rfl [4] [(h_this_saved, ia G 325 g2)] rfl rfl (by decide +kernel) rfl hl.1 rfl (Nat.le_of_ble_eq_true rfl) (rok (by omega)) dX9_playedFrom_9 (fun H locs h => ?_)
    refine lv_iconst (v := (0 : Int32)) hx hb dX9_playedFrom_12 rfl ?_
    refine lv_istore_n (lv' := [(3, .int (0 : Int32)), (0, .ref h_this), (1, .int p0), (2, .int p1)]) hx hb dX9_playedFrom_13 rfl hl (by decide) rfl (fun ls hl => ?_)
    refine lv_iconst (v := (-1 : Int32)) hx hb dX9_playedFrom_14 rfl ?_
    refine lv_istore (lv' := [(4, .int (-1 : Int32)), (3, .int (0 : Int32)), (0, .ref h_this), (1, .int p0), (2, .int p1)]) hx hb dX9_playedFrom_15 hl (by decide) rfl (fun ls hl => ?_)
    refine lv_iconst (v := (0 : Int32)) hx hb dX9_playedFrom_17 rfl ?_
    refine lv_istore (lv' := [(5, .int (0 : Int32)), (4, .int (-1 : Int32)), (3, .int (0 : Int32)), (0, .ref h_this), (1, .int p0), (2, .int p1)]) hx hb dX9_playedFrom_18 hl (by decide) rfl (fun ls hl => ?_)
    exact hK2 _ _ _ _ (L20 1000 (0 : Int32) (-1 : Int32) (0 : Int32) f_this_pile f_this_plan f_this_s g2 hf) _ _ _ h (lv_sub hl [3, 4, 5, 2, 1, 0] rfl)
  · replace hf := ifp c1 hf
    refine lv_iconst (v := (0 : Int32)) hx hb dX9_playedFrom_5 rfl ?_
    cases hf
    exact r_iret C h hr hlk rfl dX9_playedFrom_6
def F_X9_playedFrom : Nat → Int32 → Int32 → (Nat → Int32) → (Nat → Int32) → (Nat → Int32) → (Nat → Int32) → Option (Int32 × (Nat → Int32) × (Nat → Int32) × (Nat → Int32) × (Nat → Int32))
  | 0, _, _, _, _, _, _ => none
  | d + 1, p0, p1, f_this_pile, f_this_plan, f_this_s, f_this_saved => f_X9_playedFrom (F_X9_playedFrom d) p0 p1 f_this_pile f_this_plan f_this_s f_this_saved
theorem C_X9_playedFrom {l : Launch} {G : Gt} (d : Nat) : ∀ {h_this h_this_s h_this_kept h_this_laid h_this_pile h_this_tape h_this_letters h_this_code0 h_this_read h_this_saved h_this_plan h_this_bestPlan h_this_offThen h_this_paidThen h_this_rows h_this_sorts h_this_sizes h_this_number h_this_holds h_this_heldOne h_this_trace : Nat} {p0 : Int32} {p1 : Int32} {x_this_isKept : Int32} {x_this_taped : Int32} {x_this_at : Int32} {x_this_begun : Int32} {x_this_token : Int32} {x_this_value : Int32} {x_this_opened : Int32} {x_this_steps : Int32} {x_this_most : Int32} {x_this_many : Int32} {x_this_few : Int32} {x_this_everHome : Int32} {x_this_firstFit : Int32} {x_this_rowMany : Int32} {x_this_traced : Int32} {x_this_own : Int32} {x_this_isParted : Int32} {f_this_pile : Nat → Int32} {f_this_plan : Nat → Int32} {f_this_s : Nat → Int32} {f_this_saved : Nat → Int32} {r : Int32} {m_this_pile : Nat → Int32} {m_this_plan : Nat → Int32} {m_this_s : Nat → Int32} {m_this_saved : Nat → Int32} , F_X9_playedFrom d p0 p1 f_this_pile f_this_plan f_this_s f_this_saved = some (r, m_this_pile, m_this_plan, m_this_s, m_this_saved) → mFi l G yX9_playedFrom cX9_playedFrom 9 .int (d * 7) [.ref h_this, .int p0, .int p1] [(h_this, ob 9 [.ref h_this_s, .ref h_this_kept, .ref h_this_laid, .int x_this_isKept, .ref h_this_pile, .ref h_this_tape, .int x_this_taped, .ref h_this_letters, .int x_this_at, .int x_this_begun, .int x_this_token, .int x_this_value, .int x_this_opened, .int x_this_steps, .ref h_this_code0, .ref h_this_read, .ref h_this_saved, .ref h_this_plan, .ref h_this_bestPlan, .int x_this_most, .int x_this_many, .int x_this_few, .int x_this_everHome, .ref h_this_offThen, .ref h_this_paidThen, .int x_this_firstFit, .ref h_this_rows, .int x_this_rowMany, .ref h_this_sorts, .ref h_this_sizes, .ref h_this_number, .ref h_this_holds, .ref h_this_heldOne, .ref h_this_trace, .int x_this_traced, .int x_this_own, .int x_this_isParted]), (h_this_pile, ia G 200 f_this_pile), (h_this_plan, ia G 4 f_this_plan), (h_this_s, ia G 313 f_this_s), (h_this_saved, ia G 325 f_this_saved)] r [(h_this, ob 9 [.ref h_this_s, .ref h_this_kept, .ref h_this_laid, .int x_this_isKept, .ref h_this_pile, .ref h_this_tape, .int x_this_taped, .ref h_this_letters, .int x_this_at, .int x_this_begun, .int x_this_token, .int x_this_value, .int x_this_opened, .int x_this_steps, .ref h_this_code0, .ref h_this_read, .ref h_this_saved, .ref h_this_plan, .ref h_this_bestPlan, .int x_this_most, .int x_this_many, .int x_this_few, .int x_this_everHome, .ref h_this_offThen, .ref h_this_paidThen, .int x_this_firstFit, .ref h_this_rows, .int x_this_rowMany, .ref h_this_sorts, .ref h_this_sizes, .ref h_this_number, .ref h_this_holds, .ref h_this_heldOne, .ref h_this_trace, .int x_this_traced, .int x_this_own, .int x_this_isParted]), (h_this_pile, ia G 200 m_this_pile), (h_this_plan, ia G 4 m_this_plan), (h_this_s, ia G 313 m_this_s), (h_this_saved, ia G 325 m_this_saved)] := by
  induction d with
  | zero =>
    intros
    rename_i hf
    replace hf : (none : Option _) = some _ := hf
    cases hf
  | succ d ih =>
    intros
    rename_i hf
    rw [Nat.succ_mul]
    exact c_X9_playedFrom (self := F_X9_playedFrom d) ih hf
def f_X9_game (p0 : Int32) (f_this_pile : Nat → Int32) (f_this_plan : Nat → Int32) (f_this_s : Nat → Int32) (f_this_saved : Nat → Int32) : Option (Int32 × (Nat → Int32) × (Nat → Int32) × (Nat → Int32) × (Nat → Int32)) := bd1 (f_X9_in1 p0 (1 : Int32) (4 : Int32)) (fun r1 => (if r1 = 0 then some ((-1 : Int32), f_this_pile, f_this_plan, f_this_s, f_this_saved) else bd1 (f_X9_daysOf p0 f_this_s) (fun r4 => bd5 (F_X9_playedFrom 6 (0 : Int32) r4 f_this_pile f_this_plan f_this_s f_this_saved) (fun r6 g7 g8 g9 g10 => some (r6, g7, g8, g9, g10)))))
set_option maxRecDepth 100000 in
set_option maxHeartbeats 4000000 in
theorem c_X9_game {l : Launch} {G : Gt} {h_this h_this_s h_this_kept h_this_laid h_this_pile h_this_tape h_this_letters h_this_code0 h_this_read h_this_saved h_this_plan h_this_bestPlan h_this_offThen h_this_paidThen h_this_rows h_this_sorts h_this_sizes h_this_number h_this_holds h_this_heldOne h_this_trace : Nat} {p0 : Int32} {x_this_isKept : Int32} {x_this_taped : Int32} {x_this_at : Int32} {x_this_begun : Int32} {x_this_token : Int32} {x_this_value : Int32} {x_this_opened : Int32} {x_this_steps : Int32} {x_this_most : Int32} {x_this_many : Int32} {x_this_few : Int32} {x_this_everHome : Int32} {x_this_firstFit : Int32} {x_this_rowMany : Int32} {x_this_traced : Int32} {x_this_own : Int32} {x_this_isParted : Int32} {f_this_pile : Nat → Int32} {f_this_plan : Nat → Int32} {f_this_s : Nat → Int32} {f_this_saved : Nat → Int32} {r : Int32} {m_this_pile : Nat → Int32} {m_this_plan : Nat → Int32} {m_this_s : Nat → Int32} {m_this_saved : Nat → Int32} (hf : f_X9_game p0 f_this_pile f_this_plan f_this_s f_this_saved = some (r, m_this_pile, m_this_plan, m_this_s, m_this_saved)) : mFi l G yX9_game cX9_game 2 .int 43 [.ref h_this, .int p0] [(h_this, ob 9 [.ref h_this_s, .ref h_this_kept, .ref h_this_laid, .int x_this_isKept, .ref h_this_pile, .ref h_this_tape, .int x_this_taped, .ref h_this_letters, .int x_this_at, .int x_this_begun, .int x_this_token, .int x_this_value, .int x_this_opened, .int x_this_steps, .ref h_this_code0, .ref h_this_read, .ref h_this_saved, .ref h_this_plan, .ref h_this_bestPlan, .int x_this_most, .int x_this_many, .int x_this_few, .int x_this_everHome, .ref h_this_offThen, .ref h_this_paidThen, .int x_this_firstFit, .ref h_this_rows, .int x_this_rowMany, .ref h_this_sorts, .ref h_this_sizes, .ref h_this_number, .ref h_this_holds, .ref h_this_heldOne, .ref h_this_trace, .int x_this_traced, .int x_this_own, .int x_this_isParted]), (h_this_pile, ia G 200 f_this_pile), (h_this_plan, ia G 4 f_this_plan), (h_this_s, ia G 313 f_this_s), (h_this_saved, ia G 325 f_this_saved)] r [(h_this, ob 9 [.ref h_this_s, .ref h_this_kept, .ref h_this_laid, .int x_this_isKept, .ref h_this_pile, .ref h_this_tape, .int x_this_taped, .ref h_this_letters, .int x_this_at, .int x_this_begun, .int x_this_token, .int x_this_value, .int x_this_opened, .int x_this_steps, .ref h_this_code0, .ref h_this_read, .ref h_this_saved, .ref h_this_plan, .ref h_this_bestPlan, .int x_this_most, .int x_this_many, .int x_this_few, .int x_this_everHome, .ref h_this_offThen, .ref h_this_paidThen, .int x_this_firstFit, .ref h_this_rows, .int x_this_rowMany, .ref h_this_sorts, .ref h_this_sizes, .ref h_this_number, .ref h_this_holds, .ref h_this_heldOne, .ref h_this_trace, .int x_this_traced, .int x_this_own, .int x_this_isParted]), (h_this_pile, ia G 200 m_this_pile), (h_this_plan, ia G 4 m_this_plan), (h_this_s, ia G 313 m_this_s), (h_this_saved, ia G 325 m_this_saved)] := by
  refine mFi.of (by decide +kernel) (Nat.le_of_ble_eq_true rfl) ?_
  intro p e s m below meth c A C hr hlk h ls hl
  obtain ⟨hx, hb, hml, hown, hts⟩ := id C
  replace hl : lv_has ls 2 [(0, .ref h_this), (1, .int p0)] := hl
  unfold f_X9_game at hf
  refine lv_iload_n hx hb dX9_game_0 rfl (lv_at hl 1 rfl) ?_
  refine lv_iconst (v := (1 : Int32)) hx hb dX9_game_1 rfl ?_
  refine lv_iconst (v := (4 : Int32)) hx hb dX9_game_2 rfl ?_
  replace hf := bd1_inv hf
  obtain ⟨r1, hc2, hf⟩ := hf
  refine r_ciS0 C h (c_X9_in1 hc2) ms_X9_71 rfl [] rfl rfl hl.1 rfl (Nat.le_of_ble_eq_true rfl) (rok (by decide)) dX9_game_3 (fun H locs h => ?_)
  refine lv_if_eq (tgt := 22) hx hb dX9_game_6 rfl (fun c3 => ?_) (fun c3 => ?_)
  · replace hf := ifp c3 hf
    refine lv_iconst (v := (-1 : Int32)) hx hb dX9_game_22 rfl ?_
    cases hf
    exact r_iret C h hr hlk rfl dX9_game_23
  · replace hf := ifn c3 hf
    refine lv_aload_n hx hb dX9_game_9 rfl (lv_at hl 0 rfl) ?_
    refine lv_iconst (v := (0 : Int32)) hx hb dX9_game_10 rfl ?_
    refine lv_aload_n hx hb dX9_game_11 rfl (lv_at hl 0 rfl) ?_
    refine lv_iload_n hx hb dX9_game_12 rfl (lv_at hl 1 rfl) ?_
    replace hf := bd1_inv hf
    obtain ⟨r4, hc5, hf⟩ := hf
    refine r_ciV0 C h (c_X9_daysOf hc5) mv_X9_288 rfl 0 rfl [0, 3] rfl rfl hl.1 rfl (Nat.le_of_ble_eq_true rfl) (rok (by decide)) dX9_game_13 (fun H locs h => ?_)
    replace hf := bd5_inv hf
    obtain ⟨r6, g7, g8, g9, g10, hc11, hf⟩ := hf
    refine r_ciV (ws' := [(h_this, ob 9 [.ref h_this_s, .ref h_this_kept, .ref h_this_laid, .int x_this_isKept, .ref h_this_pile, .ref h_this_tape, .int x_this_taped, .ref h_this_letters, .int x_this_at, .int x_this_begun, .int x_this_token, .int x_this_value, .int x_this_opened, .int x_this_steps, .ref h_this_code0, .ref h_this_read, .ref h_this_saved, .ref h_this_plan, .ref h_this_bestPlan, .int x_this_most, .int x_this_many, .int x_this_few, .int x_this_everHome, .ref h_this_offThen, .ref h_this_paidThen, .int x_this_firstFit, .ref h_this_rows, .int x_this_rowMany, .ref h_this_sorts, .ref h_this_sizes, .ref h_this_number, .ref h_this_holds, .ref h_this_heldOne, .ref h_this_trace, .int x_this_traced, .int x_this_own, .int x_this_isParted]), (h_this_pile, ia G 200 g7), (h_this_plan, ia G 4 g8), (h_this_s, ia G 313 g9), (h_this_saved, ia G 325 g10)]) C h (C_X9_playedFrom 6 hc11) mv_X9_301 rfl 0 rfl [0, 1, 2, 3, 4] rfl rfl [1, 2, 3, 4] [(h_this_pile, ia G 200 g7), (h_this_plan, ia G 4 g8), (h_this_s, ia G 313 g9), (h_this_saved, ia G 325 g10)] rfl rfl (by decide +kernel) rfl hl.1 rfl (Nat.le_of_ble_eq_true rfl) (rok (by decide)) dX9_game_16 (fun H locs h => ?_)
    refine lv_goto (tgt := 23) hx hb dX9_game_19 rfl ?_
    cases hf
    exact r_iret C h hr hlk rfl dX9_game_23
def f_X9_play (p0 : Int32) (f_this_pile : Nat → Int32) (f_this_plan : Nat → Int32) (f_this_s : Nat → Int32) (f_this_saved : Nat → Int32) : Option (Int32 × (Nat → Int32) × (Nat → Int32) × (Nat → Int32) × (Nat → Int32)) := bd1 (f_X9_in1 p0 (1 : Int32) (4 : Int32)) (fun r1 => (if r1 = 0 then some ((-1 : Int32), f_this_pile, f_this_plan, f_this_s, f_this_saved) else bd1 (f_X9_isOver f_this_s) (fun r4 => (if r4 = 0 then bd1 (f_X9_daysOf p0 f_this_s) (fun r7 => bd5 (F_X9_playedFrom 6 (0 : Int32) r7 f_this_pile f_this_plan f_this_s f_this_saved) (fun r9 g10 g11 g12 g13 => (if 0 ≤ r9 then some (g11 0, g10, g11, g12, g13) else some ((-3 : Int32), g10, g11, g12, g13)))) else some ((-3 : Int32), f_this_pile, f_this_plan, f_this_s, f_this_saved)))))
set_option maxRecDepth 100000 in
set_option maxHeartbeats 4000000 in
theorem c_X9_play {l : Launch} {G : Gt} {h_this h_this_s h_this_kept h_this_laid h_this_pile h_this_tape h_this_letters h_this_code0 h_this_read h_this_saved h_this_plan h_this_bestPlan h_this_offThen h_this_paidThen h_this_rows h_this_sorts h_this_sizes h_this_number h_this_holds h_this_heldOne h_this_trace : Nat} {p0 : Int32} {x_this_isKept : Int32} {x_this_taped : Int32} {x_this_at : Int32} {x_this_begun : Int32} {x_this_token : Int32} {x_this_value : Int32} {x_this_opened : Int32} {x_this_steps : Int32} {x_this_most : Int32} {x_this_many : Int32} {x_this_few : Int32} {x_this_everHome : Int32} {x_this_firstFit : Int32} {x_this_rowMany : Int32} {x_this_traced : Int32} {x_this_own : Int32} {x_this_isParted : Int32} {f_this_pile : Nat → Int32} {f_this_plan : Nat → Int32} {f_this_s : Nat → Int32} {f_this_saved : Nat → Int32} {r : Int32} {m_this_pile : Nat → Int32} {m_this_plan : Nat → Int32} {m_this_s : Nat → Int32} {m_this_saved : Nat → Int32} (hf : f_X9_play p0 f_this_pile f_this_plan f_this_s f_this_saved = some (r, m_this_pile, m_this_plan, m_this_s, m_this_saved)) : mFi l G yX9_play cX9_play 3 .int 43 [.ref h_this, .int p0] [(h_this, ob 9 [.ref h_this_s, .ref h_this_kept, .ref h_this_laid, .int x_this_isKept, .ref h_this_pile, .ref h_this_tape, .int x_this_taped, .ref h_this_letters, .int x_this_at, .int x_this_begun, .int x_this_token, .int x_this_value, .int x_this_opened, .int x_this_steps, .ref h_this_code0, .ref h_this_read, .ref h_this_saved, .ref h_this_plan, .ref h_this_bestPlan, .int x_this_most, .int x_this_many, .int x_this_few, .int x_this_everHome, .ref h_this_offThen, .ref h_this_paidThen, .int x_this_firstFit, .ref h_this_rows, .int x_this_rowMany, .ref h_this_sorts, .ref h_this_sizes, .ref h_this_number, .ref h_this_holds, .ref h_this_heldOne, .ref h_this_trace, .int x_this_traced, .int x_this_own, .int x_this_isParted]), (h_this_pile, ia G 200 f_this_pile), (h_this_plan, ia G 4 f_this_plan), (h_this_s, ia G 313 f_this_s), (h_this_saved, ia G 325 f_this_saved)] r [(h_this, ob 9 [.ref h_this_s, .ref h_this_kept, .ref h_this_laid, .int x_this_isKept, .ref h_this_pile, .ref h_this_tape, .int x_this_taped, .ref h_this_letters, .int x_this_at, .int x_this_begun, .int x_this_token, .int x_this_value, .int x_this_opened, .int x_this_steps, .ref h_this_code0, .ref h_this_read, .ref h_this_saved, .ref h_this_plan, .ref h_this_bestPlan, .int x_this_most, .int x_this_many, .int x_this_few, .int x_this_everHome, .ref h_this_offThen, .ref h_this_paidThen, .int x_this_firstFit, .ref h_this_rows, .int x_this_rowMany, .ref h_this_sorts, .ref h_this_sizes, .ref h_this_number, .ref h_this_holds, .ref h_this_heldOne, .ref h_this_trace, .int x_this_traced, .int x_this_own, .int x_this_isParted]), (h_this_pile, ia G 200 m_this_pile), (h_this_plan, ia G 4 m_this_plan), (h_this_s, ia G 313 m_this_s), (h_this_saved, ia G 325 m_this_saved)] := by
  refine mFi.of (by decide +kernel) (Nat.le_of_ble_eq_true rfl) ?_
  intro p e s m below meth c A C hr hlk h ls hl
  obtain ⟨hx, hb, hml, hown, hts⟩ := id C
  replace hl : lv_has ls 3 [(0, .ref h_this), (1, .int p0)] := hl
  unfold f_X9_play at hf
  refine lv_iload_n hx hb dX9_play_0 rfl (lv_at hl 1 rfl) ?_
  refine lv_iconst (v := (1 : Int32)) hx hb dX9_play_1 rfl ?_
  refine lv_iconst (v := (4 : Int32)) hx hb dX9_play_2 rfl ?_
  replace hf := bd1_inv hf
  obtain ⟨r1, hc2, hf⟩ := hf
  refine r_ciS0 C h (c_X9_in1 hc2) ms_X9_71 rfl [] rfl rfl hl.1 rfl (Nat.le_of_ble_eq_true rfl) (rok (by decide)) dX9_play_3 (fun H locs h => ?_)
  refine lv_if_ne (tgt := 11) hx hb dX9_play_6 rfl (fun c3 => ?_) (fun c3 => ?_)
  · replace hf := ifn c3 hf
    refine lv_aload_n hx hb dX9_play_11 rfl (lv_at hl 0 rfl) ?_
    replace hf := bd1_inv hf
    obtain ⟨r4, hc5, hf⟩ := hf
    refine r_ciV0 C h (c_X9_isOver hc5) mv_X9_232 rfl 0 rfl [0, 3] rfl rfl hl.1 rfl (Nat.le_of_ble_eq_true rfl) (rok (by decide)) dX9_play_12 (fun H locs h => ?_)
    refine lv_if_eq (tgt := 21) hx hb dX9_play_15 rfl (fun c6 => ?_) (fun c6 => ?_)
    · replace hf := ifp c6 hf
      refine lv_aload_n hx hb dX9_play_21 rfl (lv_at hl 0 rfl) ?_
      refine lv_iconst (v := (0 : Int32)) hx hb dX9_play_22 rfl ?_
      refine lv_aload_n hx hb dX9_play_23 rfl (lv_at hl 0 rfl) ?_
      refine lv_iload_n hx hb dX9_play_24 rfl (lv_at hl 1 rfl) ?_
      replace hf := bd1_inv hf
      obtain ⟨r7, hc8, hf⟩ := hf
      refine r_ciV0 C h (c_X9_daysOf hc8) mv_X9_288 rfl 0 rfl [0, 3] rfl rfl hl.1 rfl (Nat.le_of_ble_eq_true rfl) (rok (by decide)) dX9_play_25 (fun H locs h => ?_)
      replace hf := bd5_inv hf
      obtain ⟨r9, g10, g11, g12, g13, hc14, hf⟩ := hf
      refine r_ciV (ws' := [(h_this, ob 9 [.ref h_this_s, .ref h_this_kept, .ref h_this_laid, .int x_this_isKept, .ref h_this_pile, .ref h_this_tape, .int x_this_taped, .ref h_this_letters, .int x_this_at, .int x_this_begun, .int x_this_token, .int x_this_value, .int x_this_opened, .int x_this_steps, .ref h_this_code0, .ref h_this_read, .ref h_this_saved, .ref h_this_plan, .ref h_this_bestPlan, .int x_this_most, .int x_this_many, .int x_this_few, .int x_this_everHome, .ref h_this_offThen, .ref h_this_paidThen, .int x_this_firstFit, .ref h_this_rows, .int x_this_rowMany, .ref h_this_sorts, .ref h_this_sizes, .ref h_this_number, .ref h_this_holds, .ref h_this_heldOne, .ref h_this_trace, .int x_this_traced, .int x_this_own, .int x_this_isParted]), (h_this_pile, ia G 200 g10), (h_this_plan, ia G 4 g11), (h_this_s, ia G 313 g12), (h_this_saved, ia G 325 g13)]) C h (C_X9_playedFrom 6 hc14) mv_X9_301 rfl 0 rfl [0, 1, 2, 3, 4] rfl rfl [1, 2, 3, 4] [(h_this_pile, ia G 200 g10), (h_this_plan, ia G 4 g11), (h_this_s, ia G 313 g12), (h_this_saved, ia G 325 g13)] rfl rfl (by decide +kernel) rfl hl.1 rfl (Nat.le_of_ble_eq_true rfl) (rok (by decide)) dX9_play_28 (fun H locs h => ?_)
      refine lv_istore_n (lv' := [(2, .int r9), (0, .ref h_this), (1, .int p0)]) hx hb dX9_play_31 rfl hl (by decide) rfl (fun ls hl => ?_)
      refine lv_iload_n hx hb dX9_play_32 rfl (lv_at hl 0 rfl) ?_
      refine lv_if_ge (tgt := 41) hx hb dX9_play_33 rfl (fun c15 => ?_) (fun c15 => ?_)
      · replace hf := ifp c15 hf
        refine lv_aload_n hx hb dX9_play_41 rfl (lv_at hl 1 rfl) ?_
        refine r_get C h fk_X9_38 0 rfl rfl dX9_play_42 ?_
        refine lv_iconst (v := (0 : Int32)) hx hb dX9_play_45 rfl ?_
        refine r_ialdL C h 2 rfl (vlit rfl) 0 rfl dX9_play_46 ?_
        cases hf
        exact r_iret C h hr hlk rfl dX9_play_47
      · replace hf := ifn c15 hf
        refine lv_bipush (v := (-3 : Int32)) hx hb dX9_play_36 rfl ?_
        refine lv_goto (tgt := 47) hx hb dX9_play_38 rfl ?_
        cases hf
        exact r_iret C h hr hlk rfl dX9_play_47
    · replace hf := ifn c6 hf
      refine lv_bipush (v := (-3 : Int32)) hx hb dX9_play_18 rfl ?_
      cases hf
      exact r_iret C h hr hlk rfl dX9_play_20
  · replace hf := ifp c3 hf
    refine lv_iconst (v := (-1 : Int32)) hx hb dX9_play_9 rfl ?_
    cases hf
    exact r_iret C h hr hlk rfl dX9_play_10
def f_X9_report_b11 (p0 : Int32) (p1 : Int32) (p2 : Int32) (p3 : Int32) (f_this_s : Nat → Int32) (s0 : Int32) : Option (Int32 × (Nat → Int32)) := bd1 (f_X9_in1 p0 (0 : Int32) (15 : Int32)) (fun r2 => (if r2 = 0 then some ((-1 : Int32), f_this_s) else bd1 (f_X9_in1 p1 (0 : Int32) (1 : Int32)) (fun r5 => (if r5 = 0 then some ((-1 : Int32), f_this_s) else bd1 (f_X9_in1 p2 (0 : Int32) s0) (fun r8 => (if r8 = 0 then some ((-1 : Int32), f_this_s) else bd1 (f_X9_in1 p3 p2 s0) (fun r11 => (if r11 = 0 then some ((-1 : Int32), f_this_s) else (if (f_this_s 6) = (6 : Int32) then some ((-2 : Int32), f_this_s) else lt1 ((65 : Int32) + ((4 : Int32) * (f_this_s 6))) (fun (t15 : Int32) => chkI t15 313 (chkI (t15 + (1 : Int32)) 313 (chkI (t15 + (2 : Int32)) 313 (chkI (t15 + (3 : Int32)) 313 (lt1 (((upd (upd (upd (upd f_this_s t15.toNatClampNeg p0) (t15 + (1 : Int32)).toNatClampNeg p1) (t15 + (2 : Int32)).toNatClampNeg p2) (t15 + (3 : Int32)).toNatClampNeg p3) 6) + (1 : Int32)) (fun (t20 : Int32) => some (((upd (upd (upd (upd (upd f_this_s t15.toNatClampNeg p0) (t15 + (1 : Int32)).toNatClampNeg p1) (t15 + (2 : Int32)).toNatClampNeg p2) (t15 + (3 : Int32)).toNatClampNeg p3) 6 t20) 6) - (1 : Int32), upd (upd (upd (upd (upd f_this_s t15.toNatClampNeg p0) (t15 + (1 : Int32)).toNatClampNeg p1) (t15 + (2 : Int32)).toNatClampNeg p2) (t15 + (3 : Int32)).toNatClampNeg p3) 6 t20))))))))))))))))
def f_X9_report (p0 : Int32) (p1 : Int32) (p2 : Int32) (p3 : Int32) (f_this_s : Nat → Int32) : Option (Int32 × (Nat → Int32)) := (if p1 = 0 then f_X9_report_b11 p0 p1 p2 p3 f_this_s (99 : Int32) else f_X9_report_b11 p0 p1 p2 p3 f_this_s (16 : Int32))
set_option maxRecDepth 100000 in
set_option maxHeartbeats 4000000 in
theorem c_X9_report {l : Launch} {G : Gt} {h_this h_this_s h_this_kept h_this_laid h_this_pile h_this_tape h_this_letters h_this_code0 h_this_read h_this_saved h_this_plan h_this_bestPlan h_this_offThen h_this_paidThen h_this_rows h_this_sorts h_this_sizes h_this_number h_this_holds h_this_heldOne h_this_trace : Nat} {p0 : Int32} {p1 : Int32} {p2 : Int32} {p3 : Int32} {x_this_isKept : Int32} {x_this_taped : Int32} {x_this_at : Int32} {x_this_begun : Int32} {x_this_token : Int32} {x_this_value : Int32} {x_this_opened : Int32} {x_this_steps : Int32} {x_this_most : Int32} {x_this_many : Int32} {x_this_few : Int32} {x_this_everHome : Int32} {x_this_firstFit : Int32} {x_this_rowMany : Int32} {x_this_traced : Int32} {x_this_own : Int32} {x_this_isParted : Int32} {f_this_s : Nat → Int32} {r : Int32} {m_this_s : Nat → Int32} (hf : f_X9_report p0 p1 p2 p3 f_this_s = some (r, m_this_s)) : mFi l G yX9_report cX9_report 7 .int 1 [.ref h_this, .int p0, .int p1, .int p2, .int p3] [(h_this, ob 9 [.ref h_this_s, .ref h_this_kept, .ref h_this_laid, .int x_this_isKept, .ref h_this_pile, .ref h_this_tape, .int x_this_taped, .ref h_this_letters, .int x_this_at, .int x_this_begun, .int x_this_token, .int x_this_value, .int x_this_opened, .int x_this_steps, .ref h_this_code0, .ref h_this_read, .ref h_this_saved, .ref h_this_plan, .ref h_this_bestPlan, .int x_this_most, .int x_this_many, .int x_this_few, .int x_this_everHome, .ref h_this_offThen, .ref h_this_paidThen, .int x_this_firstFit, .ref h_this_rows, .int x_this_rowMany, .ref h_this_sorts, .ref h_this_sizes, .ref h_this_number, .ref h_this_holds, .ref h_this_heldOne, .ref h_this_trace, .int x_this_traced, .int x_this_own, .int x_this_isParted]), (h_this_s, ia G 313 f_this_s)] r [(h_this, ob 9 [.ref h_this_s, .ref h_this_kept, .ref h_this_laid, .int x_this_isKept, .ref h_this_pile, .ref h_this_tape, .int x_this_taped, .ref h_this_letters, .int x_this_at, .int x_this_begun, .int x_this_token, .int x_this_value, .int x_this_opened, .int x_this_steps, .ref h_this_code0, .ref h_this_read, .ref h_this_saved, .ref h_this_plan, .ref h_this_bestPlan, .int x_this_most, .int x_this_many, .int x_this_few, .int x_this_everHome, .ref h_this_offThen, .ref h_this_paidThen, .int x_this_firstFit, .ref h_this_rows, .int x_this_rowMany, .ref h_this_sorts, .ref h_this_sizes, .ref h_this_number, .ref h_this_holds, .ref h_this_heldOne, .ref h_this_trace, .int x_this_traced, .int x_this_own, .int x_this_isParted]), (h_this_s, ia G 313 m_this_s)] := by
  refine mFi.of (by decide +kernel) (Nat.le_of_ble_eq_true rfl) ?_
  intro p e s m below meth c A C hr hlk h ls hl
  obtain ⟨hx, hb, hml, hown, hts⟩ := id C
  replace hl : lv_has ls 7 [(0, .ref h_this), (1, .int p0), (2, .int p1), (3, .int p2), (4, .int p3)] := hl
  unfold f_X9_report at hf
  refine with_K G A 7 (fun K hK1 hK2 => ?_)
  have B11 : ∀ (s0 : Int32), f_X9_report_b11 p0 p1 p2 p3 f_this_s s0 = some (r, m_this_s) → K 11 [.int s0] [(h_this, ob 9 [.ref h_this_s, .ref h_this_kept, .ref h_this_laid, .int x_this_isKept, .ref h_this_pile, .ref h_this_tape, .int x_this_taped, .ref h_this_letters, .int x_this_at, .int x_this_begun, .int x_this_token, .int x_this_value, .int x_this_opened, .int x_this_steps, .ref h_this_code0, .ref h_this_read, .ref h_this_saved, .ref h_this_plan, .ref h_this_bestPlan, .int x_this_most, .int x_this_many, .int x_this_few, .int x_this_everHome, .ref h_this_offThen, .ref h_this_paidThen, .int x_this_firstFit, .ref h_this_rows, .int x_this_rowMany, .ref h_this_sorts, .ref h_this_sizes, .ref h_this_number, .ref h_this_holds, .ref h_this_heldOne, .ref h_this_trace, .int x_this_traced, .int x_this_own, .int x_this_isParted]), (h_this_s, ia G 313 f_this_s)] [(0, .ref h_this), (1, .int p0), (2, .int p1), (3, .int p2), (4, .int p3)] := by
    intro s0 hf
    unfold f_X9_report_b11 at hf
    refine hK1 _ _ _ _ (fun H locs ls h hl => ?_)
    refine lv_istore (lv' := [(5, .int s0), (0, .ref h_this), (1, .int p0), (2, .int p1), (3, .int p2), (4, .int p3)]) hx hb dX9_report_11 hl (by decide) rfl (fun ls hl => ?_)
    refine lv_iload_n hx hb dX9_report_13 rfl (lv_at hl 2 rfl) ?_
    refine lv_iconst (v := (0 : Int32)) hx hb dX9_report_14 rfl ?_
    refine lv_bipush (v := (15 : Int32)) hx hb dX9_report_15 rfl ?_
    replace hf := bd1_inv hf
    obtain ⟨r2, hc3, hf⟩ := hf
    refine r_ciS0 C h (c_X9_in1 hc3) ms_X9_71 rfl [] rfl rfl hl.1 rfl (Nat.le_of_ble_eq_true rfl) (rok (by decide)) dX9_report_17 (fun H locs h => ?_)
    refine lv_if_eq (tgt := 53) hx hb dX9_report_20 rfl (fun c4 => ?_) (fun c4 => ?_)
    · replace hf := ifp c4 hf
      refine lv_iconst (v := (-1 : Int32)) hx hb dX9_report_53 rfl ?_
      cases hf
      exact r_iret C h hr hlk rfl dX9_report_54
    · replace hf := ifn c4 hf
      refine lv_iload_n hx hb dX9_report_23 rfl (lv_at hl 3 rfl) ?_
      refine lv_iconst (v := (0 : Int32)) hx hb dX9_report_24 rfl ?_
      refine lv_iconst (v := (1 : Int32)) hx hb dX9_report_25 rfl ?_
      replace hf := bd1_inv hf
      obtain ⟨r5, hc6, hf⟩ := hf
      refine r_ciS0 C h (c_X9_in1 hc6) ms_X9_71 rfl [] rfl rfl hl.1 rfl (Nat.le_of_ble_eq_true rfl) (rok (by decide)) dX9_report_26 (fun H locs h => ?_)
      refine lv_if_eq (tgt := 53) hx hb dX9_report_29 rfl (fun c7 => ?_) (fun c7 => ?_)
      · replace hf := ifp c7 hf
        refine lv_iconst (v := (-1 : Int32)) hx hb dX9_report_53 rfl ?_
        cases hf
        exact r_iret C h hr hlk rfl dX9_report_54
      · replace hf := ifn c7 hf
        refine lv_iload_n hx hb dX9_report_32 rfl (lv_at hl 4 rfl) ?_
        refine lv_iconst (v := (0 : Int32)) hx hb dX9_report_33 rfl ?_
        refine lv_iload hx hb dX9_report_34 (lv_at hl 0 rfl) ?_
        replace hf := bd1_inv hf
        obtain ⟨r8, hc9, hf⟩ := hf
        refine r_ciS0 C h (c_X9_in1 hc9) ms_X9_71 rfl [] rfl rfl hl.1 rfl (Nat.le_of_ble_eq_true rfl) (rok (by decide)) dX9_report_36 (fun H locs h => ?_)
        refine lv_if_eq (tgt := 53) hx hb dX9_report_39 rfl (fun c10 => ?_) (fun c10 => ?_)
        · replace hf := ifp c10 hf
          refine lv_iconst (v := (-1 : Int32)) hx hb dX9_report_53 rfl ?_
          cases hf
          exact r_iret C h hr hlk rfl dX9_report_54
        · replace hf := ifn c10 hf
          refine lv_iload hx hb dX9_report_42 (lv_at hl 5 rfl) ?_
          refine lv_iload_n hx hb dX9_report_44 rfl (lv_at hl 4 rfl) ?_
          refine lv_iload hx hb dX9_report_45 (lv_at hl 0 rfl) ?_
          replace hf := bd1_inv hf
          obtain ⟨r11, hc12, hf⟩ := hf
          refine r_ciS0 C h (c_X9_in1 hc12) ms_X9_71 rfl [] rfl rfl hl.1 rfl (Nat.le_of_ble_eq_true rfl) (rok (by decide)) dX9_report_47 (fun H locs h => ?_)
          refine lv_if_ne (tgt := 55) hx hb dX9_report_50 rfl (fun c13 => ?_) (fun c13 => ?_)
          · replace hf := ifn c13 hf
            refine lv_aload_n hx hb dX9_report_55 rfl (lv_at hl 1 rfl) ?_
            refine r_get C h fk_X9_9 0 rfl rfl dX9_report_56 ?_
            refine lv_bipush (v := (6 : Int32)) hx hb dX9_report_59 rfl ?_
            refine r_ialdL C h 1 rfl (vlit rfl) 6 rfl dX9_report_61 ?_
            refine lv_bipush (v := (6 : Int32)) hx hb dX9_report_62 rfl ?_
            refine lv_icmp_ne (tgt := 70) hx hb dX9_report_64 rfl (fun c14 => ?_) (fun c14 => ?_)
            · replace hf := ifn c14 hf
              refine lv_bipush (v := (65 : Int32)) hx hb dX9_report_70 rfl ?_
              refine lv_iconst (v := (4 : Int32)) hx hb dX9_report_72 rfl ?_
              refine lv_aload_n hx hb dX9_report_73 rfl (lv_at hl 1 rfl) ?_
              refine r_get C h fk_X9_9 0 rfl rfl dX9_report_74 ?_
              refine lv_bipush (v := (6 : Int32)) hx hb dX9_report_77 rfl ?_
              refine r_ialdL C h 1 rfl (vlit rfl) 6 rfl dX9_report_79 ?_
              refine lv_imul hx hb dX9_report_80 ?_
              refine lv_iadd hx hb dX9_report_81 ?_
              refine lv_topi (fun t15 et15 => ?_)
              replace hf := lt1_inv et15 hf
              refine lv_istore (lv' := [(6, .int t15), (5, .int s0), (0, .ref h_this), (1, .int p0), (2, .int p1), (3, .int p2), (4, .int p3)]) hx hb dX9_report_82 hl (by decide) rfl (fun ls hl => ?_)
              refine lv_aload_n hx hb dX9_report_84 rfl (lv_at hl 2 rfl) ?_
              refine r_get C h fk_X9_9 0 rfl rfl dX9_report_85 ?_
              refine lv_iload hx hb dX9_report_88 (lv_at hl 0 rfl) ?_
              refine lv_iload_n hx hb dX9_report_90 rfl (lv_at hl 3 rfl) ?_
              replace hf := chkI_inv hf
              obtain ⟨hi16, hf⟩ := hf
              refine r_iast (ws' := [(h_this, ob 9 [.ref h_this_s, .ref h_this_kept, .ref h_this_laid, .int x_this_isKept, .ref h_this_pile, .ref h_this_tape, .int x_this_taped, .ref h_this_letters, .int x_this_at, .int x_this_begun, .int x_this_token, .int x_this_value, .int x_this_opened, .int x_this_steps, .ref h_this_code0, .ref h_this_read, .ref h_this_saved, .ref h_this_plan, .ref h_this_bestPlan, .int x_this_most, .int x_this_many, .int x_this_few, .int x_this_everHome, .ref h_this_offThen, .ref h_this_paidThen, .int x_this_firstFit, .ref h_this_rows, .int x_this_rowMany, .ref h_this_sorts, .ref h_this_sizes, .ref h_this_number, .ref h_this_holds, .ref h_this_heldOne, .ref h_this_trace, .int x_this_traced, .int x_this_own, .int x_this_isParted]), (h_this_s, ia G 313 (upd f_this_s t15.toNatClampNeg p0))]) C h 1 rfl hi16 dX9_report_91 rfl (fun H locs h => ?_)
              refine lv_aload_n hx hb dX9_report_92 rfl (lv_at hl 2 rfl) ?_
              refine r_get C h fk_X9_9 0 rfl rfl dX9_report_93 ?_
              refine lv_iload hx hb dX9_report_96 (lv_at hl 0 rfl) ?_
              refine lv_iconst (v := (1 : Int32)) hx hb dX9_report_98 rfl ?_
              refine lv_iadd hx hb dX9_report_99 ?_
              refine lv_iload_n hx hb dX9_report_100 rfl (lv_at hl 4 rfl) ?_
              replace hf := chkI_inv hf
              obtain ⟨hi17, hf⟩ := hf
              refine r_iast (ws' := [(h_this, ob 9 [.ref h_this_s, .ref h_this_kept, .ref h_this_laid, .int x_this_isKept, .ref h_this_pile, .ref h_this_tape, .int x_this_taped, .ref h_this_letters, .int x_this_at, .int x_this_begun, .int x_this_token, .int x_this_value, .int x_this_opened, .int x_this_steps, .ref h_this_code0, .ref h_this_read, .ref h_this_saved, .ref h_this_plan, .ref h_this_bestPlan, .int x_this_most, .int x_this_many, .int x_this_few, .int x_this_everHome, .ref h_this_offThen, .ref h_this_paidThen, .int x_this_firstFit, .ref h_this_rows, .int x_this_rowMany, .ref h_this_sorts, .ref h_this_sizes, .ref h_this_number, .ref h_this_holds, .ref h_this_heldOne, .ref h_this_trace, .int x_this_traced, .int x_this_own, .int x_this_isParted]), (h_this_s, ia G 313 (upd (upd f_this_s t15.toNatClampNeg p0) (t15 + (1 : Int32)).toNatClampNeg p1))]) C h 1 rfl hi17 dX9_report_101 rfl (fun H locs h => ?_)
              refine lv_aload_n hx hb dX9_report_102 rfl (lv_at hl 2 rfl) ?_
              refine r_get C h fk_X9_9 0 rfl rfl dX9_report_103 ?_
              refine lv_iload hx hb dX9_report_106 (lv_at hl 0 rfl) ?_
              refine lv_iconst (v := (2 : Int32)) hx hb dX9_report_108 rfl ?_
              refine lv_iadd hx hb dX9_report_109 ?_
              refine lv_iload_n hx hb dX9_report_110 rfl (lv_at hl 5 rfl) ?_
              replace hf := chkI_inv hf
              obtain ⟨hi18, hf⟩ := hf
              refine r_iast (ws' := [(h_this, ob 9 [.ref h_this_s, .ref h_this_kept, .ref h_this_laid, .int x_this_isKept, .ref h_this_pile, .ref h_this_tape, .int x_this_taped, .ref h_this_letters, .int x_this_at, .int x_this_begun, .int x_this_token, .int x_this_value, .int x_this_opened, .int x_this_steps, .ref h_this_code0, .ref h_this_read, .ref h_this_saved, .ref h_this_plan, .ref h_this_bestPlan, .int x_this_most, .int x_this_many, .int x_this_few, .int x_this_everHome, .ref h_this_offThen, .ref h_this_paidThen, .int x_this_firstFit, .ref h_this_rows, .int x_this_rowMany, .ref h_this_sorts, .ref h_this_sizes, .ref h_this_number, .ref h_this_holds, .ref h_this_heldOne, .ref h_this_trace, .int x_this_traced, .int x_this_own, .int x_this_isParted]), (h_this_s, ia G 313 (upd (upd (upd f_this_s t15.toNatClampNeg p0) (t15 + (1 : Int32)).toNatClampNeg p1) (t15 + (2 : Int32)).toNatClampNeg p2))]) C h 1 rfl hi18 dX9_report_111 rfl (fun H locs h => ?_)
              refine lv_aload_n hx hb dX9_report_112 rfl (lv_at hl 2 rfl) ?_
              refine r_get C h fk_X9_9 0 rfl rfl dX9_report_113 ?_
              refine lv_iload hx hb dX9_report_116 (lv_at hl 0 rfl) ?_
              refine lv_iconst (v := (3 : Int32)) hx hb dX9_report_118 rfl ?_
              refine lv_iadd hx hb dX9_report_119 ?_
              refine lv_iload hx hb dX9_report_120 (lv_at hl 6 rfl) ?_
              replace hf := chkI_inv hf
              obtain ⟨hi19, hf⟩ := hf
              refine r_iast (ws' := [(h_this, ob 9 [.ref h_this_s, .ref h_this_kept, .ref h_this_laid, .int x_this_isKept, .ref h_this_pile, .ref h_this_tape, .int x_this_taped, .ref h_this_letters, .int x_this_at, .int x_this_begun, .int x_this_token, .int x_this_value, .int x_this_opened, .int x_this_steps, .ref h_this_code0, .ref h_this_read, .ref h_this_saved, .ref h_this_plan, .ref h_this_bestPlan, .int x_this_most, .int x_this_many, .int x_this_few, .int x_this_everHome, .ref h_this_offThen, .ref h_this_paidThen, .int x_this_firstFit, .ref h_this_rows, .int x_this_rowMany, .ref h_this_sorts, .ref h_this_sizes, .ref h_this_number, .ref h_this_holds, .ref h_this_heldOne, .ref h_this_trace, .int x_this_traced, .int x_this_own, .int x_this_isParted]), (h_this_s, ia G 313 (upd (upd (upd (upd f_this_s t15.toNatClampNeg p0) (t15 + (1 : Int32)).toNatClampNeg p1) (t15 + (2 : Int32)).toNatClampNeg p2) (t15 + (3 : Int32)).toNatClampNeg p3))]) C h 1 rfl hi19 dX9_report_122 rfl (fun H locs h => ?_)
              refine lv_aload_n hx hb dX9_report_123 rfl (lv_at hl 2 rfl) ?_
              refine r_get C h fk_X9_9 0 rfl rfl dX9_report_124 ?_
              refine lv_bipush (v := (6 : Int32)) hx hb dX9_report_127 rfl ?_
              refine lv_dup2_11 hx hb dX9_report_129 rfl rfl ?_
              refine r_ialdL C h 1 rfl (vlit rfl) 6 rfl dX9_report_130 ?_
              refine lv_iconst (v := (1 : Int32)) hx hb dX9_report_131 rfl ?_
              refine lv_iadd hx hb dX9_report_132 ?_
              refine lv_topi (fun t20 et20 => ?_)
              replace hf := lt1_inv et20 hf
              refine r_iastL (ws' := [(h_this, ob 9 [.ref h_this_s, .ref h_this_kept, .ref h_this_laid, .int x_this_isKept, .ref h_this_pile, .ref h_this_tape, .int x_this_taped, .ref h_this_letters, .int x_this_at, .int x_this_begun, .int x_this_token, .int x_this_value, .int x_this_opened, .int x_this_steps, .ref h_this_code0, .ref h_this_read, .ref h_this_saved, .ref h_this_plan, .ref h_this_bestPlan, .int x_this_most, .int x_this_many, .int x_this_few, .int x_this_everHome, .ref h_this_offThen, .ref h_this_paidThen, .int x_this_firstFit, .ref h_this_rows, .int x_this_rowMany, .ref h_this_sorts, .ref h_this_sizes, .ref h_this_number, .ref h_this_holds, .ref h_this_heldOne, .ref h_this_trace, .int x_this_traced, .int x_this_own, .int x_this_isParted]), (h_this_s, ia G 313 (upd (upd (upd (upd (upd f_this_s t15.toNatClampNeg p0) (t15 + (1 : Int32)).toNatClampNeg p1) (t15 + (2 : Int32)).toNatClampNeg p2) (t15 + (3 : Int32)).toNatClampNeg p3) 6 t20))]) C h 1 rfl (vlit rfl) 6 rfl dX9_report_133 rfl (fun H locs h => ?_)
              refine lv_aload_n hx hb dX9_report_134 rfl (lv_at hl 2 rfl) ?_
              refine r_get C h fk_X9_9 0 rfl rfl dX9_report_135 ?_
              refine lv_bipush (v := (6 : Int32)) hx hb dX9_report_138 rfl ?_
              refine r_ialdL C h 1 rfl (vlit rfl) 6 rfl dX9_report_140 ?_
              refine lv_iconst (v := (1 : Int32)) hx hb dX9_report_141 rfl ?_
              refine lv_isub hx hb dX9_report_142 ?_
              cases hf
              exact r_iret C h hr hlk rfl dX9_report_143
            · replace hf := ifp c14 hf
              refine lv_bipush (v := (-2 : Int32)) hx hb dX9_report_67 rfl ?_
              cases hf
              exact r_iret C h hr hlk rfl dX9_report_69
          · replace hf := ifp c13 hf
            refine lv_iconst (v := (-1 : Int32)) hx hb dX9_report_53 rfl ?_
            cases hf
            exact r_iret C h hr hlk rfl dX9_report_54
  refine lv_iload_n hx hb dX9_report_0 rfl (lv_at hl 2 rfl) ?_
  refine lv_if_ne (tgt := 9) hx hb dX9_report_1 rfl (fun c1 => ?_) (fun c1 => ?_)
  · replace hf := ifn c1 hf
    refine lv_bipush (v := (16 : Int32)) hx hb dX9_report_9 rfl ?_
    exact hK2 _ _ _ _ (B11 (16 : Int32) hf) _ _ _ h (lv_sub hl [0, 1, 2, 3, 4] rfl)
  · replace hf := ifp c1 hf
    refine lv_bipush (v := (99 : Int32)) hx hb dX9_report_4 rfl ?_
    refine lv_goto (tgt := 11) hx hb dX9_report_6 rfl ?_
    exact hK2 _ _ _ _ (B11 (99 : Int32) hf) _ _ _ h (lv_sub hl [0, 1, 2, 3, 4] rfl)
def f_X9_forget (f_this_s : Nat → Int32) : Option (Int32 × (Nat → Int32)) := bd2 (f_X9_becomes (6 : Int32) (0 : Int32) f_this_s) (fun r1 g2 => some (r1, g2))
set_option maxRecDepth 100000 in
set_option maxHeartbeats 4000000 in
theorem c_X9_forget {l : Launch} {G : Gt} {h_this h_this_s h_this_kept h_this_laid h_this_pile h_this_tape h_this_letters h_this_code0 h_this_read h_this_saved h_this_plan h_this_bestPlan h_this_offThen h_this_paidThen h_this_rows h_this_sorts h_this_sizes h_this_number h_this_holds h_this_heldOne h_this_trace : Nat} {x_this_isKept : Int32} {x_this_taped : Int32} {x_this_at : Int32} {x_this_begun : Int32} {x_this_token : Int32} {x_this_value : Int32} {x_this_opened : Int32} {x_this_steps : Int32} {x_this_most : Int32} {x_this_many : Int32} {x_this_few : Int32} {x_this_everHome : Int32} {x_this_firstFit : Int32} {x_this_rowMany : Int32} {x_this_traced : Int32} {x_this_own : Int32} {x_this_isParted : Int32} {f_this_s : Nat → Int32} {r : Int32} {m_this_s : Nat → Int32} (hf : f_X9_forget f_this_s = some (r, m_this_s)) : mFi l G yX9_forget cX9_forget 1 .int 1 [.ref h_this] [(h_this, ob 9 [.ref h_this_s, .ref h_this_kept, .ref h_this_laid, .int x_this_isKept, .ref h_this_pile, .ref h_this_tape, .int x_this_taped, .ref h_this_letters, .int x_this_at, .int x_this_begun, .int x_this_token, .int x_this_value, .int x_this_opened, .int x_this_steps, .ref h_this_code0, .ref h_this_read, .ref h_this_saved, .ref h_this_plan, .ref h_this_bestPlan, .int x_this_most, .int x_this_many, .int x_this_few, .int x_this_everHome, .ref h_this_offThen, .ref h_this_paidThen, .int x_this_firstFit, .ref h_this_rows, .int x_this_rowMany, .ref h_this_sorts, .ref h_this_sizes, .ref h_this_number, .ref h_this_holds, .ref h_this_heldOne, .ref h_this_trace, .int x_this_traced, .int x_this_own, .int x_this_isParted]), (h_this_s, ia G 313 f_this_s)] r [(h_this, ob 9 [.ref h_this_s, .ref h_this_kept, .ref h_this_laid, .int x_this_isKept, .ref h_this_pile, .ref h_this_tape, .int x_this_taped, .ref h_this_letters, .int x_this_at, .int x_this_begun, .int x_this_token, .int x_this_value, .int x_this_opened, .int x_this_steps, .ref h_this_code0, .ref h_this_read, .ref h_this_saved, .ref h_this_plan, .ref h_this_bestPlan, .int x_this_most, .int x_this_many, .int x_this_few, .int x_this_everHome, .ref h_this_offThen, .ref h_this_paidThen, .int x_this_firstFit, .ref h_this_rows, .int x_this_rowMany, .ref h_this_sorts, .ref h_this_sizes, .ref h_this_number, .ref h_this_holds, .ref h_this_heldOne, .ref h_this_trace, .int x_this_traced, .int x_this_own, .int x_this_isParted]), (h_this_s, ia G 313 m_this_s)] := by
  refine mFi.of (by decide +kernel) (Nat.le_of_ble_eq_true rfl) ?_
  intro p e s m below meth c A C hr hlk h ls hl
  obtain ⟨hx, hb, hml, hown, hts⟩ := id C
  replace hl : lv_has ls 1 [(0, .ref h_this)] := hl
  unfold f_X9_forget at hf
  refine lv_aload_n hx hb dX9_forget_0 rfl (lv_at hl 0 rfl) ?_
  refine lv_bipush (v := (6 : Int32)) hx hb dX9_forget_1 rfl ?_
  refine lv_iconst (v := (0 : Int32)) hx hb dX9_forget_3 rfl ?_
  replace hf := bd2_inv hf
  obtain ⟨r1, g2, hc3, hf⟩ := hf
  refine r_ciV (ws' := [(h_this, ob 9 [.ref h_this_s, .ref h_this_kept, .ref h_this_laid, .int x_this_isKept, .ref h_this_pile, .ref h_this_tape, .int x_this_taped, .ref h_this_letters, .int x_this_at, .int x_this_begun, .int x_this_token, .int x_this_value, .int x_this_opened, .int x_this_steps, .ref h_this_code0, .ref h_this_read, .ref h_this_saved, .ref h_this_plan, .ref h_this_bestPlan, .int x_this_most, .int x_this_many, .int x_this_few, .int x_this_everHome, .ref h_this_offThen, .ref h_this_paidThen, .int x_this_firstFit, .ref h_this_rows, .int x_this_rowMany, .ref h_this_sorts, .ref h_this_sizes, .ref h_this_number, .ref h_this_holds, .ref h_this_heldOne, .ref h_this_trace, .int x_this_traced, .int x_this_own, .int x_this_isParted]), (h_this_s, ia G 313 g2)]) C h (c_X9_becomes hc3) mv_X9_229 rfl 0 rfl [0, 1] rfl rfl [1] [(h_this_s, ia G 313 g2)] rfl rfl (by decide +kernel) rfl hl.1 rfl (Nat.le_of_ble_eq_true rfl) (rok (by decide)) dX9_forget_4 (fun H locs h => ?_)
  cases hf
  exact r_iret C h hr hlk rfl dX9_forget_7
def f_X9_tellsLone_b72 (rec9 : Int32 → Int32 → Int32 → (Nat → Int32) → (Nat → Int32) → Option ((Nat → Int32) × (Nat → Int32))) (p0 : Int32) (v4 : Int32) (v6 : Int32) (v7 : Int32) (s0 : Int32) (s1 : Int32) (g_this_offThen : Nat → Int32) (g_this_paidThen : Nat → Int32) : Option ((Nat → Int32) × (Nat → Int32)) := lt1 (s0 + s1) (fun (t7 : Int32) => bd1 (f_X9_nearsBy p0 (v7 / (4 : Int32)) (v7 - v7 / (4 : Int32) * (4 : Int32)) v6) (fun r8 => bd1 (f_X9_held (v4 - r8) (99 : Int32)) (fun r10 => lt1 (v6 + (1 : Int32)) (fun (t12 : Int32) => rec9 r10 t7 t12 g_this_offThen g_this_paidThen))))
def f_X9_tellsLone_b71 (rec9 : Int32 → Int32 → Int32 → (Nat → Int32) → (Nat → Int32) → Option ((Nat → Int32) × (Nat → Int32))) (p0 : Int32) (v4 : Int32) (v6 : Int32) (v7 : Int32) (s0 : Int32) (g_this_offThen : Nat → Int32) (g_this_paidThen : Nat → Int32) : Option ((Nat → Int32) × (Nat → Int32)) := f_X9_tellsLone_b72 rec9 p0 v4 v6 v7 s0 (0 : Int32) g_this_offThen g_this_paidThen
def f_X9_tellsLone_L9 (p0 : Int32) (p1 : Int32) (f_this_s : Nat → Int32) : Nat → Int32 → Int32 → Int32 → (Nat → Int32) → (Nat → Int32) → Option ((Nat → Int32) × (Nat → Int32))
  | 0, _, _, _, _, _ => none
  | n + 1, v4, v5, v6, g_this_offThen, g_this_paidThen => (if (16 : Int32) ≤ v6 then some (g_this_offThen, g_this_paidThen) else chkI v6 16 (chkI v6 16 (chkI ((7 : Int32) + v6) 313 (lt1 (f_this_s ((7 : Int32) + v6).toNatClampNeg) (fun (t5 : Int32) => (if v4 ≤ 0 then f_X9_tellsLone_b71 (f_X9_tellsLone_L9 p0 p1 f_this_s n) p0 v4 v6 t5 v5 (upd g_this_offThen v6.toNatClampNeg v4) (upd g_this_paidThen v6.toNatClampNeg v5) else bd1 (f_X9_reachesBy p0 p1 (t5 / (4 : Int32))) (fun r13 => (if r13 < v4 then f_X9_tellsLone_b71 (f_X9_tellsLone_L9 p0 p1 f_this_s n) p0 v4 v6 t5 v5 (upd g_this_offThen v6.toNatClampNeg v4) (upd g_this_paidThen v6.toNatClampNeg v5) else f_X9_tellsLone_b72 (f_X9_tellsLone_L9 p0 p1 f_this_s n) p0 v4 v6 t5 v5 (1 : Int32) (upd g_this_offThen v6.toNatClampNeg v4) (upd g_this_paidThen v6.toNatClampNeg v5)))))))))
def f_X9_tellsLone (p0 : Int32) (p1 : Int32) (p2 : Int32) (f_this_offThen : Nat → Int32) (f_this_paidThen : Nat → Int32) (f_this_s : Nat → Int32) : Option ((Nat → Int32) × (Nat → Int32)) := f_X9_tellsLone_L9 p0 p1 f_this_s 1000 p2 (0 : Int32) (0 : Int32) f_this_offThen f_this_paidThen
set_option maxRecDepth 100000 in
set_option maxHeartbeats 4000000 in
theorem c_X9_tellsLone {l : Launch} {G : Gt} {h_this h_this_s h_this_kept h_this_laid h_this_pile h_this_tape h_this_letters h_this_code0 h_this_read h_this_saved h_this_plan h_this_bestPlan h_this_offThen h_this_paidThen h_this_rows h_this_sorts h_this_sizes h_this_number h_this_holds h_this_heldOne h_this_trace : Nat} {p0 : Int32} {p1 : Int32} {p2 : Int32} {x_this_isKept : Int32} {x_this_taped : Int32} {x_this_at : Int32} {x_this_begun : Int32} {x_this_token : Int32} {x_this_value : Int32} {x_this_opened : Int32} {x_this_steps : Int32} {x_this_most : Int32} {x_this_many : Int32} {x_this_few : Int32} {x_this_everHome : Int32} {x_this_firstFit : Int32} {x_this_rowMany : Int32} {x_this_traced : Int32} {x_this_own : Int32} {x_this_isParted : Int32} {f_this_offThen : Nat → Int32} {f_this_paidThen : Nat → Int32} {f_this_s : Nat → Int32} {m_this_offThen : Nat → Int32} {m_this_paidThen : Nat → Int32} (hf : f_X9_tellsLone p0 p1 p2 f_this_offThen f_this_paidThen f_this_s = some (m_this_offThen, m_this_paidThen)) : mFv l G yX9_tellsLone cX9_tellsLone 8 1 [.ref h_this, .int p0, .int p1, .int p2] [(h_this, ob 9 [.ref h_this_s, .ref h_this_kept, .ref h_this_laid, .int x_this_isKept, .ref h_this_pile, .ref h_this_tape, .int x_this_taped, .ref h_this_letters, .int x_this_at, .int x_this_begun, .int x_this_token, .int x_this_value, .int x_this_opened, .int x_this_steps, .ref h_this_code0, .ref h_this_read, .ref h_this_saved, .ref h_this_plan, .ref h_this_bestPlan, .int x_this_most, .int x_this_many, .int x_this_few, .int x_this_everHome, .ref h_this_offThen, .ref h_this_paidThen, .int x_this_firstFit, .ref h_this_rows, .int x_this_rowMany, .ref h_this_sorts, .ref h_this_sizes, .ref h_this_number, .ref h_this_holds, .ref h_this_heldOne, .ref h_this_trace, .int x_this_traced, .int x_this_own, .int x_this_isParted]), (h_this_offThen, ia G 16 f_this_offThen), (h_this_paidThen, ia G 16 f_this_paidThen), (h_this_s, ia G 313 f_this_s)] [(h_this, ob 9 [.ref h_this_s, .ref h_this_kept, .ref h_this_laid, .int x_this_isKept, .ref h_this_pile, .ref h_this_tape, .int x_this_taped, .ref h_this_letters, .int x_this_at, .int x_this_begun, .int x_this_token, .int x_this_value, .int x_this_opened, .int x_this_steps, .ref h_this_code0, .ref h_this_read, .ref h_this_saved, .ref h_this_plan, .ref h_this_bestPlan, .int x_this_most, .int x_this_many, .int x_this_few, .int x_this_everHome, .ref h_this_offThen, .ref h_this_paidThen, .int x_this_firstFit, .ref h_this_rows, .int x_this_rowMany, .ref h_this_sorts, .ref h_this_sizes, .ref h_this_number, .ref h_this_holds, .ref h_this_heldOne, .ref h_this_trace, .int x_this_traced, .int x_this_own, .int x_this_isParted]), (h_this_offThen, ia G 16 m_this_offThen), (h_this_paidThen, ia G 16 m_this_paidThen), (h_this_s, ia G 313 f_this_s)] := by
  refine mFv.of (by decide +kernel) (Nat.le_of_ble_eq_true rfl) ?_
  intro p e s m below meth c A C hr hlk h ls hl
  obtain ⟨hx, hb, hml, hown, hts⟩ := id C
  replace hl : lv_has ls 8 [(0, .ref h_this), (1, .int p0), (2, .int p1), (3, .int p2)] := hl
  unfold f_X9_tellsLone at hf
  refine with_K G A 8 (fun K hK1 hK2 => ?_)
  have B72 : ∀ (rec9 : Int32 → Int32 → Int32 → (Nat → Int32) → (Nat → Int32) → Option ((Nat → Int32) × (Nat → Int32))) (hrec9 : ∀ (v4 : Int32) (v5 : Int32) (v6 : Int32) (g_this_offThen : Nat → Int32) (g_this_paidThen : Nat → Int32), rec9 v4 v5 v6 g_this_offThen g_this_paidThen = some (m_this_offThen, m_this_paidThen) → K 9 ([] : List Value) [(h_this, ob 9 [.ref h_this_s, .ref h_this_kept, .ref h_this_laid, .int x_this_isKept, .ref h_this_pile, .ref h_this_tape, .int x_this_taped, .ref h_this_letters, .int x_this_at, .int x_this_begun, .int x_this_token, .int x_this_value, .int x_this_opened, .int x_this_steps, .ref h_this_code0, .ref h_this_read, .ref h_this_saved, .ref h_this_plan, .ref h_this_bestPlan, .int x_this_most, .int x_this_many, .int x_this_few, .int x_this_everHome, .ref h_this_offThen, .ref h_this_paidThen, .int x_this_firstFit, .ref h_this_rows, .int x_this_rowMany, .ref h_this_sorts, .ref h_this_sizes, .ref h_this_number, .ref h_this_holds, .ref h_this_heldOne, .ref h_this_trace, .int x_this_traced, .int x_this_own, .int x_this_isParted]), (h_this_offThen, ia G 16 g_this_offThen), (h_this_paidThen, ia G 16 g_this_paidThen), (h_this_s, ia G 313 f_this_s)] [(0, .ref h_this), (1, .int p0), (2, .int p1), (4, .int v4), (5, .int v5), (6, .int v6)]) (v4 : Int32) (v6 : Int32) (v7 : Int32) (s0 : Int32) (s1 : Int32) (g_this_offThen : Nat → Int32) (g_this_paidThen : Nat → Int32), f_X9_tellsLone_b72 rec9 p0 v4 v6 v7 s0 s1 g_this_offThen g_this_paidThen = some (m_this_offThen, m_this_paidThen) → K 72 [.int s1, .int s0] [(h_this, ob 9 [.ref h_this_s, .ref h_this_kept, .ref h_this_laid, .int x_this_isKept, .ref h_this_pile, .ref h_this_tape, .int x_this_taped, .ref h_this_letters, .int x_this_at, .int x_this_begun, .int x_this_token, .int x_this_value, .int x_this_opened, .int x_this_steps, .ref h_this_code0, .ref h_this_read, .ref h_this_saved, .ref h_this_plan, .ref h_this_bestPlan, .int x_this_most, .int x_this_many, .int x_this_few, .int x_this_everHome, .ref h_this_offThen, .ref h_this_paidThen, .int x_this_firstFit, .ref h_this_rows, .int x_this_rowMany, .ref h_this_sorts, .ref h_this_sizes, .ref h_this_number, .ref h_this_holds, .ref h_this_heldOne, .ref h_this_trace, .int x_this_traced, .int x_this_own, .int x_this_isParted]), (h_this_offThen, ia G 16 g_this_offThen), (h_this_paidThen, ia G 16 g_this_paidThen), (h_this_s, ia G 313 f_this_s)] [(0, .ref h_this), (1, .int p0), (2, .int p1), (4, .int v4), (6, .int v6), (7, .int v7)] := by
    intro rec9 hrec9 v4 v6 v7 s0 s1 g_this_offThen g_this_paidThen hf
    unfold f_X9_tellsLone_b72 at hf
    refine hK1 _ _ _ _ (fun H locs ls h hl => ?_)
    refine lv_iadd hx hb dX9_tellsLone_72 ?_
    refine lv_topi (fun t7 et7 => ?_)
    replace hf := lt1_inv et7 hf
    refine lv_istore (lv' := [(5, .int t7), (0, .ref h_this), (1, .int p0), (2, .int p1), (4, .int v4), (6, .int v6), (7, .int v7)]) hx hb dX9_tellsLone_73 hl (by decide) rfl (fun ls hl => ?_)
    refine lv_iload hx hb dX9_tellsLone_75 (lv_at hl 4 rfl) ?_
    refine lv_iload_n hx hb dX9_tellsLone_77 rfl (lv_at hl 2 rfl) ?_
    refine lv_iload hx hb dX9_tellsLone_78 (lv_at hl 6 rfl) ?_
    refine lv_iconst (v := (4 : Int32)) hx hb dX9_tellsLone_80 rfl ?_
    refine lv_idiv hx hb dX9_tellsLone_81 (by decide) ?_
    refine lv_iload hx hb dX9_tellsLone_82 (lv_at hl 6 rfl) ?_
    refine lv_iconst (v := (4 : Int32)) hx hb dX9_tellsLone_84 rfl ?_
    refine lv_irem hx hb dX9_tellsLone_85 (by decide) ?_
    refine lv_iload hx hb dX9_tellsLone_86 (lv_at hl 5 rfl) ?_
    replace hf := bd1_inv hf
    obtain ⟨r8, hc9, hf⟩ := hf
    refine r_ciS0 C h (c_X9_nearsBy hc9) ms_X9_87 rfl [] rfl rfl hl.1 rfl (Nat.le_of_ble_eq_true rfl) (rok (by decide)) dX9_tellsLone_88 (fun H locs h => ?_)
    refine lv_isub hx hb dX9_tellsLone_91 ?_
    refine lv_bipush (v := (99 : Int32)) hx hb dX9_tellsLone_92 rfl ?_
    replace hf := bd1_inv hf
    obtain ⟨r10, hc11, hf⟩ := hf
    refine r_ciS0 C h (c_X9_held hc11) ms_X9_202 rfl [] rfl rfl hl.1 rfl (Nat.le_of_ble_eq_true rfl) (rok (by decide)) dX9_tellsLone_94 (fun H locs h => ?_)
    refine lv_istore (lv' := [(4, .int r10), (5, .int t7), (0, .ref h_this), (1, .int p0), (2, .int p1), (6, .int v6), (7, .int v7)]) hx hb dX9_tellsLone_97 hl (by decide) rfl (fun ls hl => ?_)
    obtain ⟨t12, et12⟩ : ∃ y : Int32, y = v6 + (1 : Int32) := ⟨_, rfl⟩
    replace hf := lt1_inv et12 hf
    refine lv_iinc (v := t12) (lv' := [(6, .int t12), (4, .int r10), (5, .int t7), (0, .ref h_this), (1, .int p0), (2, .int p1), (7, .int v7)]) hx hb dX9_tellsLone_99 hl (k := 5) rfl (by rw [et12]; rfl) (by decide) rfl (fun ls hl => ?_)
    refine lv_goto (tgt := 9) hx hb dX9_tellsLone_102 rfl ?_
    exact hK2 _ _ _ _ (hrec9 r10 t7 t12 g_this_offThen g_this_paidThen hf) _ _ _ h (lv_sub hl [3, 4, 5, 1, 2, 0] rfl)
  have B71 : ∀ (rec9 : Int32 → Int32 → Int32 → (Nat → Int32) → (Nat → Int32) → Option ((Nat → Int32) × (Nat → Int32))) (hrec9 : ∀ (v4 : Int32) (v5 : Int32) (v6 : Int32) (g_this_offThen : Nat → Int32) (g_this_paidThen : Nat → Int32), rec9 v4 v5 v6 g_this_offThen g_this_paidThen = some (m_this_offThen, m_this_paidThen) → K 9 ([] : List Value) [(h_this, ob 9 [.ref h_this_s, .ref h_this_kept, .ref h_this_laid, .int x_this_isKept, .ref h_this_pile, .ref h_this_tape, .int x_this_taped, .ref h_this_letters, .int x_this_at, .int x_this_begun, .int x_this_token, .int x_this_value, .int x_this_opened, .int x_this_steps, .ref h_this_code0, .ref h_this_read, .ref h_this_saved, .ref h_this_plan, .ref h_this_bestPlan, .int x_this_most, .int x_this_many, .int x_this_few, .int x_this_everHome, .ref h_this_offThen, .ref h_this_paidThen, .int x_this_firstFit, .ref h_this_rows, .int x_this_rowMany, .ref h_this_sorts, .ref h_this_sizes, .ref h_this_number, .ref h_this_holds, .ref h_this_heldOne, .ref h_this_trace, .int x_this_traced, .int x_this_own, .int x_this_isParted]), (h_this_offThen, ia G 16 g_this_offThen), (h_this_paidThen, ia G 16 g_this_paidThen), (h_this_s, ia G 313 f_this_s)] [(0, .ref h_this), (1, .int p0), (2, .int p1), (4, .int v4), (5, .int v5), (6, .int v6)]) (v4 : Int32) (v6 : Int32) (v7 : Int32) (s0 : Int32) (g_this_offThen : Nat → Int32) (g_this_paidThen : Nat → Int32), f_X9_tellsLone_b71 rec9 p0 v4 v6 v7 s0 g_this_offThen g_this_paidThen = some (m_this_offThen, m_this_paidThen) → K 71 [.int s0] [(h_this, ob 9 [.ref h_this_s, .ref h_this_kept, .ref h_this_laid, .int x_this_isKept, .ref h_this_pile, .ref h_this_tape, .int x_this_taped, .ref h_this_letters, .int x_this_at, .int x_this_begun, .int x_this_token, .int x_this_value, .int x_this_opened, .int x_this_steps, .ref h_this_code0, .ref h_this_read, .ref h_this_saved, .ref h_this_plan, .ref h_this_bestPlan, .int x_this_most, .int x_this_many, .int x_this_few, .int x_this_everHome, .ref h_this_offThen, .ref h_this_paidThen, .int x_this_firstFit, .ref h_this_rows, .int x_this_rowMany, .ref h_this_sorts, .ref h_this_sizes, .ref h_this_number, .ref h_this_holds, .ref h_this_heldOne, .ref h_this_trace, .int x_this_traced, .int x_this_own, .int x_this_isParted]), (h_this_offThen, ia G 16 g_this_offThen), (h_this_paidThen, ia G 16 g_this_paidThen), (h_this_s, ia G 313 f_this_s)] [(0, .ref h_this), (1, .int p0), (2, .int p1), (4, .int v4), (6, .int v6), (7, .int v7)] := by
    intro rec9 hrec9 v4 v6 v7 s0 g_this_offThen g_this_paidThen hf
    unfold f_X9_tellsLone_b71 at hf
    refine hK1 _ _ _ _ (fun H locs ls h hl => ?_)
    refine lv_iconst (v := (0 : Int32)) hx hb dX9_tellsLone_71 rfl ?_
    exact hK2 _ _ _ _ (B72 _ hrec9 v4 v6 v7 s0 (0 : Int32) g_this_offThen g_this_paidThen hf) _ _ _ h (lv_sub hl [0, 1, 2, 3, 4, 5] rfl)
  have L9 : ∀ (n : Nat) (v4 : Int32) (v5 : Int32) (v6 : Int32) (g_this_offThen : Nat → Int32) (g_this_paidThen : Nat → Int32), f_X9_tellsLone_L9 p0 p1 f_this_s n v4 v5 v6 g_this_offThen g_this_paidThen = some (m_this_offThen, m_this_paidThen) → K 9 ([] : List Value) [(h_this, ob 9 [.ref h_this_s, .ref h_this_kept, .ref h_this_laid, .int x_this_isKept, .ref h_this_pile, .ref h_this_tape, .int x_this_taped, .ref h_this_letters, .int x_this_at, .int x_this_begun, .int x_this_token, .int x_this_value, .int x_this_opened, .int x_this_steps, .ref h_this_code0, .ref h_this_read, .ref h_this_saved, .ref h_this_plan, .ref h_this_bestPlan, .int x_this_most, .int x_this_many, .int x_this_few, .int x_this_everHome, .ref h_this_offThen, .ref h_this_paidThen, .int x_this_firstFit, .ref h_this_rows, .int x_this_rowMany, .ref h_this_sorts, .ref h_this_sizes, .ref h_this_number, .ref h_this_holds, .ref h_this_heldOne, .ref h_this_trace, .int x_this_traced, .int x_this_own, .int x_this_isParted]), (h_this_offThen, ia G 16 g_this_offThen), (h_this_paidThen, ia G 16 g_this_paidThen), (h_this_s, ia G 313 f_this_s)] [(0, .ref h_this), (1, .int p0), (2, .int p1), (4, .int v4), (5, .int v5), (6, .int v6)] := by
    intro n
    induction n with
    | zero =>
      intro v4 v5 v6 g_this_offThen g_this_paidThen hf
      replace hf : (none : Option _) = some _ := hf
      cases hf
    | succ n ih =>
      intro v4 v5 v6 g_this_offThen g_this_paidThen hf
      rw [f_X9_tellsLone_L9] at hf
      refine hK1 _ _ _ _ (fun H locs ls h hl => ?_)
      refine lv_iload hx hb dX9_tellsLone_9 (lv_at hl 5 rfl) ?_
      refine lv_bipush (v := (16 : Int32)) hx hb dX9_tellsLone_11 rfl ?_
      refine lv_icmp_ge (tgt := 105) hx hb dX9_tellsLone_13 rfl (fun c1 => ?_) (fun c1 => ?_)
      · replace hf := ifp c1 hf
        cases hf
        exact r_vret C h hr hlk dX9_tellsLone_105
      · replace hf := ifn c1 hf
        refine lv_aload_n hx hb dX9_tellsLone_16 rfl (lv_at hl 0 rfl) ?_
        refine r_get C h fk_X9_44 0 rfl rfl dX9_tellsLone_17 ?_
        refine lv_iload hx hb dX9_tellsLone_20 (lv_at hl 5 rfl) ?_
        refine lv_iload hx hb dX9_tellsLone_22 (lv_at hl 3 rfl) ?_
        replace hf := chkI_inv hf
        obtain ⟨hi2, hf⟩ := hf
        refine r_iast (ws' := [(h_this, ob 9 [.ref h_this_s, .ref h_this_kept, .ref h_this_laid, .int x_this_isKept, .ref h_this_pile, .ref h_this_tape, .int x_this_taped, .ref h_this_letters, .int x_this_at, .int x_this_begun, .int x_this_token, .int x_this_value, .int x_this_opened, .int x_this_steps, .ref h_this_code0, .ref h_this_read, .ref h_this_saved, .ref h_this_plan, .ref h_this_bestPlan, .int x_this_most, .int x_this_many, .int x_this_few, .int x_this_everHome, .ref h_this_offThen, .ref h_this_paidThen, .int x_this_firstFit, .ref h_this_rows, .int x_this_rowMany, .ref h_this_sorts, .ref h_this_sizes, .ref h_this_number, .ref h_this_holds, .ref h_this_heldOne, .ref h_this_trace, .int x_this_traced, .int x_this_own, .int x_this_isParted]), (h_this_offThen, ia G 16 (upd g_this_offThen v6.toNatClampNeg v4)), (h_this_paidThen, ia G 16 g_this_paidThen), (h_this_s, ia G 313 f_this_s)]) C h 1 rfl hi2 dX9_tellsLone_24 rfl (fun H locs h => ?_)
        refine lv_aload_n hx hb dX9_tellsLone_25 rfl (lv_at hl 0 rfl) ?_
        refine r_get C h fk_X9_47 0 rfl rfl dX9_tellsLone_26 ?_
        refine lv_iload hx hb dX9_tellsLone_29 (lv_at hl 5 rfl) ?_
        refine lv_iload hx hb dX9_tellsLone_31 (lv_at hl 4 rfl) ?_
        replace hf := chkI_inv hf
        obtain ⟨hi3, hf⟩ := hf
        refine r_iast (ws' := [(h_this, ob 9 [.ref h_this_s, .ref h_this_kept, .ref h_this_laid, .int x_this_isKept, .ref h_this_pile, .ref h_this_tape, .int x_this_taped, .ref h_this_letters, .int x_this_at, .int x_this_begun, .int x_this_token, .int x_this_value, .int x_this_opened, .int x_this_steps, .ref h_this_code0, .ref h_this_read, .ref h_this_saved, .ref h_this_plan, .ref h_this_bestPlan, .int x_this_most, .int x_this_many, .int x_this_few, .int x_this_everHome, .ref h_this_offThen, .ref h_this_paidThen, .int x_this_firstFit, .ref h_this_rows, .int x_this_rowMany, .ref h_this_sorts, .ref h_this_sizes, .ref h_this_number, .ref h_this_holds, .ref h_this_heldOne, .ref h_this_trace, .int x_this_traced, .int x_this_own, .int x_this_isParted]), (h_this_offThen, ia G 16 (upd g_this_offThen v6.toNatClampNeg v4)), (h_this_paidThen, ia G 16 (upd g_this_paidThen v6.toNatClampNeg v5)), (h_this_s, ia G 313 f_this_s)]) C h 2 rfl hi3 dX9_tellsLone_33 rfl (fun H locs h => ?_)
        refine lv_aload_n hx hb dX9_tellsLone_34 rfl (lv_at hl 0 rfl) ?_
        refine r_get C h fk_X9_9 0 rfl rfl dX9_tellsLone_35 ?_
        refine lv_bipush (v := (7 : Int32)) hx hb dX9_tellsLone_38 rfl ?_
        refine lv_iload hx hb dX9_tellsLone_40 (lv_at hl 5 rfl) ?_
        refine lv_iadd hx hb dX9_tellsLone_42 ?_
        replace hf := chkI_inv hf
        obtain ⟨hi4, hf⟩ := hf
        refine r_iald C h 3 rfl hi4 dX9_tellsLone_43 ?_
        refine lv_topi (fun t5 et5 => ?_)
        replace hf := lt1_inv et5 hf
        refine lv_istore (lv' := [(7, .int t5), (0, .ref h_this), (1, .int p0), (2, .int p1), (4, .int v4), (5, .int v5), (6, .int v6)]) hx hb dX9_tellsLone_44 hl (by decide) rfl (fun ls hl => ?_)
        refine lv_iload hx hb dX9_tellsLone_46 (lv_at hl 5 rfl) ?_
        refine lv_iload hx hb dX9_tellsLone_48 (lv_at hl 4 rfl) ?_
        refine lv_if_le (tgt := 71) hx hb dX9_tellsLone_50 rfl (fun c6 => ?_) (fun c6 => ?_)
        · replace hf := ifp c6 hf
          exact hK2 _ _ _ _ (B71 _ ih v4 v6 t5 v5 (upd g_this_offThen v6.toNatClampNeg v4) (upd g_this_paidThen v6.toNatClampNeg v5) hf) _ _ _ h (lv_sub hl [1, 2, 3, 4, 6, 0] rfl)
        · replace hf := ifn c6 hf
          refine lv_iload hx hb dX9_tellsLone_53 (lv_at hl 4 rfl) ?_
          refine lv_iload_n hx hb dX9_tellsLone_55 rfl (lv_at hl 2 rfl) ?_
          refine lv_iload_n hx hb dX9_tellsLone_56 rfl (lv_at hl 3 rfl) ?_
          refine lv_iload hx hb dX9_tellsLone_57 (lv_at hl 0 rfl) ?_
          refine lv_iconst (v := (4 : Int32)) hx hb dX9_tellsLone_59 rfl ?_
          refine lv_idiv hx hb dX9_tellsLone_60 (by decide) ?_
          replace hf := bd1_inv hf
          obtain ⟨r13, hc14, hf⟩ := hf
          refine r_ciS0 C h (c_X9_reachesBy hc14) ms_X9_91 rfl [] rfl rfl hl.1 rfl (Nat.le_of_ble_eq_true rfl) (rok (by decide)) dX9_tellsLone_61 (fun H locs h => ?_)
          refine lv_icmp_gt (tgt := 71) hx hb dX9_tellsLone_64 rfl (fun c15 => ?_) (fun c15 => ?_)
          · replace hf := ifp c15 hf
            exact hK2 _ _ _ _ (B71 _ ih v4 v6 t5 v5 (upd g_this_offThen v6.toNatClampNeg v4) (upd g_this_paidThen v6.toNatClampNeg v5) hf) _ _ _ h (lv_sub hl [1, 2, 3, 4, 6, 0] rfl)
          · replace hf := ifn c15 hf
            refine lv_iconst (v := (1 : Int32)) hx hb dX9_tellsLone_67 rfl ?_
            refine lv_goto (tgt := 72) hx hb dX9_tellsLone_68 rfl ?_
            exact hK2 _ _ _ _ (B72 _ ih v4 v6 t5 v5 (1 : Int32) (upd g_this_offThen v6.toNatClampNeg v4) (upd g_this_paidThen v6.toNatClampNeg v5) hf) _ _ _ h (lv_sub hl [1, 2, 3, 4, 6, 0] rfl)
  refine lv_iload_n hx hb dX9_tellsLone_0 rfl (lv_at hl 3 rfl) ?_
  refine lv_istore (lv' := [(4, .int p2), (0, .ref h_this), (1, .int p0), (2, .int p1), (3, .int p2)]) hx hb dX9_tellsLone_1 hl (by decide) rfl (fun ls hl => ?_)
  refine lv_iconst (v := (0 : Int32)) hx hb dX9_tellsLone_3 rfl ?_
  refine lv_istore (lv' := [(5, .int (0 : Int32)), (4, .int p2), (0, .ref h_this), (1, .int p0), (2, .int p1), (3, .int p2)]) hx hb dX9_tellsLone_4 hl (by decide) rfl (fun ls hl => ?_)
  refine lv_iconst (v := (0 : Int32)) hx hb dX9_tellsLone_6 rfl ?_
  refine lv_istore (lv' := [(6, .int (0 : Int32)), (5, .int (0 : Int32)), (4, .int p2), (0, .ref h_this), (1, .int p0), (2, .int p1), (3, .int p2)]) hx hb dX9_tellsLone_7 hl (by decide) rfl (fun ls hl => ?_)
  exact hK2 _ _ _ _ (L9 1000 p2 (0 : Int32) (0 : Int32) f_this_offThen f_this_paidThen hf) _ _ _ h (lv_sub hl [3, 4, 5, 2, 1, 0] rfl)
