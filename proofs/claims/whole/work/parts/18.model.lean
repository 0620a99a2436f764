def f_X9_alterRow (p0 : Int32) (p1 : Int32) (p2 : Int32) (x_this_rowMany : Int32) (f_this_rows : Nat → Int32) : Option (Int32 × (Nat → Int32)) := bd1 (f_X9_isRow p0 p1 x_this_rowMany) (fun r1 => (if r1 = 0 then some ((-9 : Int32), f_this_rows) else chkI (((3 : Int32) * p0) + p1) 12 (lt1 (f_this_rows (((3 : Int32) * p0) + p1).toNatClampNeg) (fun (t5 : Int32) => chkI (((3 : Int32) * p0) + p1) 12 (some (t5, upd f_this_rows (((3 : Int32) * p0) + p1).toNatClampNeg p2))))))
set_option maxRecDepth 100000 in
set_option maxHeartbeats 4000000 in
theorem c_X9_alterRow {l : Launch} {G : Gt} {h_this h_this_s h_this_kept h_this_laid h_this_pile h_this_tape h_this_letters h_this_code0 h_this_read h_this_saved h_this_plan h_this_bestPlan h_this_offThen h_this_paidThen h_this_rows h_this_sorts h_this_sizes h_this_number h_this_holds h_this_heldOne h_this_trace : Nat} {p0 : Int32} {p1 : Int32} {p2 : Int32} {x_this_isKept : Int32} {x_this_taped : Int32} {x_this_at : Int32} {x_this_begun : Int32} {x_this_token : Int32} {x_this_value : Int32} {x_this_opened : Int32} {x_this_steps : Int32} {x_this_most : Int32} {x_this_many : Int32} {x_this_few : Int32} {x_this_everHome : Int32} {x_this_firstFit : Int32} {x_this_rowMany : Int32} {x_this_traced : Int32} {x_this_own : Int32} {x_this_isParted : Int32} {f_this_rows : Nat → Int32} {r : Int32} {m_this_rows : Nat → Int32} (hf : f_X9_alterRow p0 p1 p2 x_this_rowMany f_this_rows = some (r, m_this_rows)) : mFi l G yX9_alterRow cX9_alterRow 5 .int 2 [.ref h_this, .int p0, .int p1, .int p2] [(h_this, ob 9 [.ref h_this_s, .ref h_this_kept, .ref h_this_laid, .int x_this_isKept, .ref h_this_pile, .ref h_this_tape, .int x_this_taped, .ref h_this_letters, .int x_this_at, .int x_this_begun, .int x_this_token, .int x_this_value, .int x_this_opened, .int x_this_steps, .ref h_this_code0, .ref h_this_read, .ref h_this_saved, .ref h_this_plan, .ref h_this_bestPlan, .int x_this_most, .int x_this_many, .int x_this_few, .int x_this_everHome, .ref h_this_offThen, .ref h_this_paidThen, .int x_this_firstFit, .ref h_this_rows, .int x_this_rowMany, .ref h_this_sorts, .ref h_this_sizes, .ref h_this_number, .ref h_this_holds, .ref h_this_heldOne, .ref h_this_trace, .int x_this_traced, .int x_this_own, .int x_this_isParted]), (h_this_rows, ia G 12 f_this_rows)] r [(h_this, ob 9 [.ref h_this_s, .ref h_this_kept, .ref h_this_laid, .int x_this_isKept, .ref h_this_pile, .ref h_this_tape, .int x_this_taped, .ref h_this_letters, .int x_this_at, .int x_this_begun, .int x_this_token, .int x_this_value, .int x_this_opened, .int x_this_steps, .ref h_this_code0, .ref h_this_read, .ref h_this_saved, .ref h_this_plan, .ref h_this_bestPlan, .int x_this_most, .int x_this_many, .int x_this_few, .int x_this_everHome, .ref h_this_offThen, .ref h_this_paidThen, .int x_this_firstFit, .ref h_this_rows, .int x_this_rowMany, .ref h_this_sorts, .ref h_this_sizes, .ref h_this_number, .ref h_this_holds, .ref h_this_heldOne, .ref h_this_trace, .int x_this_traced, .int x_this_own, .int x_this_isParted]), (h_this_rows, ia G 12 m_this_rows)] := by
  refine mFi.of (by decide +kernel) (Nat.le_of_ble_eq_true rfl) ?_
  intro p e s m below meth c A C hr hlk h ls hl
  obtain ⟨hx, hb, hml, hown, hts⟩ := id C
  replace hl : lv_has ls 5 [(0, .ref h_this), (1, .int p0), (2, .int p1), (3, .int p2)] := hl
  unfold f_X9_alterRow at hf
  refine lv_aload_n hx hb dX9_alterRow_0 rfl (lv_at hl 0 rfl) ?_
  refine lv_iload_n hx hb dX9_alterRow_1 rfl (lv_at hl 1 rfl) ?_
  refine lv_iload_n hx hb dX9_alterRow_2 rfl (lv_at hl 2 rfl) ?_
  replace hf := bd1_inv hf
  obtain ⟨r1, hc2, hf⟩ := hf
  refine r_ciV0 C h (c_X9_isRow hc2) mv_X9_323 rfl 0 rfl [0] rfl rfl hl.1 rfl (Nat.le_of_ble_eq_true rfl) (rok (by decide)) dX9_alterRow_3 (fun H locs h => ?_)
  refine lv_if_ne (tgt := 12) hx hb dX9_alterRow_6 rfl (fun c3 => ?_) (fun c3 => ?_)
  · replace hf := ifn c3 hf
    refine lv_aload_n hx hb dX9_alterRow_12 rfl (lv_at hl 0 rfl) ?_
    refine r_get C h fk_X9_50 0 rfl rfl dX9_alterRow_13 ?_
    refine lv_iconst (v := (3 : Int32)) hx hb dX9_alterRow_16 rfl ?_
    refine lv_iload_n hx hb dX9_alterRow_17 rfl (lv_at hl 1 rfl) ?_
    refine lv_imul hx hb dX9_alterRow_18 ?_
    refine lv_iload_n hx hb dX9_alterRow_19 rfl (lv_at hl 2 rfl) ?_
    refine lv_iadd hx hb dX9_alterRow_20 ?_
    replace hf := chkI_inv hf
    obtain ⟨hi4, hf⟩ := hf
    refine r_iald C h 1 rfl hi4 dX9_alterRow_21 ?_
    refine lv_topi (fun t5 et5 => ?_)
    replace hf := lt1_inv et5 hf
    refine lv_istore (lv' := [(4, .int t5), (0, .ref h_this), (1, .int p0), (2, .int p1), (3, .int p2)]) hx hb dX9_alterRow_22 hl (by decide) rfl (fun ls hl => ?_)
    refine lv_aload_n hx hb dX9_alterRow_24 rfl (lv_at hl 1 rfl) ?_
    refine r_get C h fk_X9_50 0 rfl rfl dX9_alterRow_25 ?_
    refine lv_iconst (v := (3 : Int32)) hx hb dX9_alterRow_28 rfl ?_
    refine lv_iload_n hx hb dX9_alterRow_29 rfl (lv_at hl 2 rfl) ?_
    refine lv_imul hx hb dX9_alterRow_30 ?_
    refine lv_iload_n hx hb dX9_alterRow_31 rfl (lv_at hl 3 rfl) ?_
    refine lv_iadd hx hb dX9_alterRow_32 ?_
    refine lv_iload_n hx hb dX9_alterRow_33 rfl (lv_at hl 4 rfl) ?_
    replace hf := chkI_inv hf
    obtain ⟨hi6, hf⟩ := hf
    refine r_iast (ws' := [(h_this, ob 9 [.ref h_this_s, .ref h_this_kept, .ref h_this_laid, .int x_this_isKept, .ref h_this_pile, .ref h_this_tape, .int x_this_taped, .ref h_this_letters, .int x_this_at, .int x_this_begun, .int x_this_token, .int x_this_value, .int x_this_opened, .int x_this_steps, .ref h_this_code0, .ref h_this_read, .ref h_this_saved, .ref h_this_plan, .ref h_this_bestPlan, .int x_this_most, .int x_this_many, .int x_this_few, .int x_this_everHome, .ref h_this_offThen, .ref h_this_paidThen, .int x_this_firstFit, .ref h_this_rows, .int x_this_rowMany, .ref h_this_sorts, .ref h_this_sizes, .ref h_this_number, .ref h_this_holds, .ref h_this_heldOne, .ref h_this_trace, .int x_this_traced, .int x_this_own, .int x_this_isParted]), (h_this_rows, ia G 12 (upd f_this_rows (((3 : Int32) * p0) + p1).toNatClampNeg p2))]) C h 1 rfl hi6 dX9_alterRow_34 rfl (fun H locs h => ?_)
    refine lv_iload hx hb dX9_alterRow_35 (lv_at hl 0 rfl) ?_
    cases hf
    exact r_iret C h hr hlk rfl dX9_alterRow_37
  · replace hf := ifp c3 hf
    refine lv_bipush (v := (-9 : Int32)) hx hb dX9_alterRow_9 rfl ?_
    cases hf
    exact r_iret C h hr hlk rfl dX9_alterRow_11
def f_X9_isAct (p0 : Int32) (f_this_s : Nat → Int32) : Option (Int32) := bd1 (f_X9_in1 p0 (0 : Int32) (f_this_s 4)) (fun r1 => chkB r1 (some r1))
set_option maxRecDepth 100000 in
set_option maxHeartbeats 4000000 in
theorem c_X9_isAct {l : Launch} {G : Gt} {h_this h_this_s h_this_kept h_this_laid h_this_pile h_this_tape h_this_letters h_this_code0 h_this_read h_this_saved h_this_plan h_this_bestPlan h_this_offThen h_this_paidThen h_this_rows h_this_sorts h_this_sizes h_this_number h_this_holds h_this_heldOne h_this_trace : Nat} {p0 : Int32} {x_this_isKept : Int32} {x_this_taped : Int32} {x_this_at : Int32} {x_this_begun : Int32} {x_this_token : Int32} {x_this_value : Int32} {x_this_opened : Int32} {x_this_steps : Int32} {x_this_most : Int32} {x_this_many : Int32} {x_this_few : Int32} {x_this_everHome : Int32} {x_this_firstFit : Int32} {x_this_rowMany : Int32} {x_this_traced : Int32} {x_this_own : Int32} {x_this_isParted : Int32} {f_this_s : Nat → Int32} {r : Int32} (hf : f_X9_isAct p0 f_this_s = some r) : mFi l G yX9_isAct cX9_isAct 2 .boolean 1 [.ref h_this, .int p0] [(h_this, ob 9 [.ref h_this_s, .ref h_this_kept, .ref h_this_laid, .int x_this_isKept, .ref h_this_pile, .ref h_this_tape, .int x_this_taped, .ref h_this_letters, .int x_this_at, .int x_this_begun, .int x_this_token, .int x_this_value, .int x_this_opened, .int x_this_steps, .ref h_this_code0, .ref h_this_read, .ref h_this_saved, .ref h_this_plan, .ref h_this_bestPlan, .int x_this_most, .int x_this_many, .int x_this_few, .int x_this_everHome, .ref h_this_offThen, .ref h_this_paidThen, .int x_this_firstFit, .ref h_this_rows, .int x_this_rowMany, .ref h_this_sorts, .ref h_this_sizes, .ref h_this_number, .ref h_this_holds, .ref h_this_heldOne, .ref h_this_trace, .int x_this_traced, .int x_this_own, .int x_this_isParted]), (h_this_s, ia G 313 f_this_s)] r [(h_this, ob 9 [.ref h_this_s, .ref h_this_kept, .ref h_this_laid, .int x_this_isKept, .ref h_this_pile, .ref h_this_tape, .int x_this_taped, .ref h_this_letters, .int x_this_at, .int x_this_begun, .int x_this_token, .int x_this_value, .int x_this_opened, .int x_this_steps, .ref h_this_code0, .ref h_this_read, .ref h_this_saved, .ref h_this_plan, .ref h_this_bestPlan, .int x_this_most, .int x_this_many, .int x_this_few, .int x_this_everHome, .ref h_this_offThen, .ref h_this_paidThen, .int x_this_firstFit, .ref h_this_rows, .int x_this_rowMany, .ref h_this_sorts, .ref h_this_sizes, .ref h_this_number, .ref h_this_holds, .ref h_this_heldOne, .ref h_this_trace, .int x_this_traced, .int x_this_own, .int x_this_isParted]), (h_this_s, ia G 313 f_this_s)] := by
  refine mFi.of (by decide +kernel) (Nat.le_of_ble_eq_true rfl) ?_
  intro p e s m below meth c A C hr hlk h ls hl
  obtain ⟨hx, hb, hml, hown, hts⟩ := id C
  replace hl : lv_has ls 2 [(0, .ref h_this), (1, .int p0)] := hl
  unfold f_X9_isAct at hf
  refine lv_iload_n hx hb dX9_isAct_0 rfl (lv_at hl 1 rfl) ?_
  refine lv_iconst (v := (0 : Int32)) hx hb dX9_isAct_1 rfl ?_
  refine lv_aload_n hx hb dX9_isAct_2 rfl (lv_at hl 0 rfl) ?_
  refine r_get C h fk_X9_9 0 rfl rfl dX9_isAct_3 ?_
  refine lv_iconst (v := (4 : Int32)) hx hb dX9_isAct_6 rfl ?_
  refine r_ialdL C h 1 rfl (vlit rfl) 4 rfl dX9_isAct_7 ?_
  replace hf := bd1_inv hf
  obtain ⟨r1, hc2, hf⟩ := hf
  refine r_ciS0 C h (c_X9_in1 hc2) ms_X9_71 rfl [] rfl rfl hl.1 rfl (Nat.le_of_ble_eq_true rfl) (rok (by decide)) dX9_isAct_8 (fun H locs h => ?_)
  replace hf := chkB_inv hf
  obtain ⟨hb3, hf⟩ := hf
  cases hf
  exact r_iret C h hr hlk hb3 dX9_isAct_11
def f_X9_judge_b112 (rec8 : Int32 → Int32 → (Nat → Int32) → (Nat → Int32) → (Nat → Int32) → Option (Int32 × (Nat → Int32) × (Nat → Int32) × (Nat → Int32))) (v2 : Int32) (s0 : Int32) (g_this_laid : Nat → Int32) (g_this_pile : Nat → Int32) (g_this_s : Nat → Int32) : Option (Int32 × (Nat → Int32) × (Nat → Int32) × (Nat → Int32)) := (if s0 = 0 then lt1 ((1 : Int32) + v2) (fun (t16 : Int32) => lt1 (v2 + (1 : Int32)) (fun (t17 : Int32) => rec8 t16 t17 g_this_laid g_this_pile g_this_s)) else lt1 (v2 + (1 : Int32)) (fun (t18 : Int32) => rec8 (0 : Int32) t18 g_this_laid g_this_pile g_this_s))
def f_X9_judge_b111 (rec8 : Int32 → Int32 → (Nat → Int32) → (Nat → Int32) → (Nat → Int32) → Option (Int32 × (Nat → Int32) × (Nat → Int32) × (Nat → Int32))) (v2 : Int32) (g_this_laid : Nat → Int32) (g_this_pile : Nat → Int32) (g_this_s : Nat → Int32) : Option (Int32 × (Nat → Int32) × (Nat → Int32) × (Nat → Int32)) := f_X9_judge_b112 rec8 v2 (0 : Int32) g_this_laid g_this_pile g_this_s
def f_X9_judge_b68 (rec8 : Int32 → Int32 → (Nat → Int32) → (Nat → Int32) → (Nat → Int32) → Option (Int32 × (Nat → Int32) × (Nat → Int32) × (Nat → Int32))) (f_this_rows : Nat → Int32) (v2 : Int32) (v3 : Int32) (s0 : Int32) (g_this_laid : Nat → Int32) (g_this_pile : Nat → Int32) (g_this_s : Nat → Int32) : Option (Int32 × (Nat → Int32) × (Nat → Int32) × (Nat → Int32)) := (if v3 = 0 then f_X9_judge_b111 rec8 v2 g_this_laid g_this_pile g_this_s else chkI (((3 : Int32) * v2) + (1 : Int32)) 12 ((if s0 = (f_this_rows (((3 : Int32) * v2) + (1 : Int32)).toNatClampNeg) then bd1 (f_X9_those (4 : Int32) g_this_s) (fun r21 => chkI (((3 : Int32) * v2) + (2 : Int32)) 12 ((if r21 = (f_this_rows (((3 : Int32) * v2) + (2 : Int32)).toNatClampNeg) then f_X9_judge_b112 rec8 v2 (1 : Int32) g_this_laid g_this_pile g_this_s else f_X9_judge_b111 rec8 v2 g_this_laid g_this_pile g_this_s))) else f_X9_judge_b111 rec8 v2 g_this_laid g_this_pile g_this_s)))
def f_X9_judge_b47 (rec8 : Int32 → Int32 → (Nat → Int32) → (Nat → Int32) → (Nat → Int32) → Option (Int32 × (Nat → Int32) × (Nat → Int32) × (Nat → Int32))) (f_this_rows : Nat → Int32) (v2 : Int32) (s0 : Int32) (g_this_laid : Nat → Int32) (g_this_pile : Nat → Int32) (g_this_s : Nat → Int32) : Option (Int32 × (Nat → Int32) × (Nat → Int32) × (Nat → Int32)) := (if s0 = 0 then f_X9_judge_b68 rec8 f_this_rows v2 s0 (0 : Int32) g_this_laid g_this_pile g_this_s else chkI ((3 : Int32) * v2) 12 (bd3 (f_X9_goesBy (f_this_rows ((3 : Int32) * v2).toNatClampNeg) g_this_pile g_this_s) (fun r26 g27 g28 => f_X9_judge_b68 rec8 f_this_rows v2 s0 r26 g_this_laid g27 g28)))
def f_X9_judge_b46 (rec8 : Int32 → Int32 → (Nat → Int32) → (Nat → Int32) → (Nat → Int32) → Option (Int32 × (Nat → Int32) × (Nat → Int32) × (Nat → Int32))) (f_this_rows : Nat → Int32) (v2 : Int32) (g_this_laid : Nat → Int32) (g_this_pile : Nat → Int32) (g_this_s : Nat → Int32) : Option (Int32 × (Nat → Int32) × (Nat → Int32) × (Nat → Int32)) := f_X9_judge_b47 rec8 f_this_rows v2 (0 : Int32) g_this_laid g_this_pile g_this_s
def f_X9_judge_L8 (x_this_rowMany : Int32) (f_this_rows : Nat → Int32) : Nat → Int32 → Int32 → (Nat → Int32) → (Nat → Int32) → (Nat → Int32) → Option (Int32 × (Nat → Int32) × (Nat → Int32) × (Nat → Int32))
  | 0, _, _, _, _, _ => none
  | n + 1, v1, v2, g_this_laid, g_this_pile, g_this_s => (if x_this_rowMany ≤ v2 then bd1 (f_X9_layBack g_this_laid g_this_s) (fun g4 => some (v1, g_this_laid, g_this_pile, g4)) else (if v1 = 0 then chkI ((3 : Int32) * v2) 12 (bd1 (f_X9_isAct (f_this_rows ((3 : Int32) * v2).toNatClampNeg) g_this_s) (fun r10 => (if r10 = 0 then f_X9_judge_b46 (f_X9_judge_L8 x_this_rowMany f_this_rows n) f_this_rows v2 g_this_laid g_this_pile g_this_s else bd1 (f_X9_isOver g_this_s) (fun r30 => (if r30 = 0 then f_X9_judge_b47 (f_X9_judge_L8 x_this_rowMany f_this_rows n) f_this_rows v2 (1 : Int32) g_this_laid g_this_pile g_this_s else f_X9_judge_b46 (f_X9_judge_L8 x_this_rowMany f_this_rows n) f_this_rows v2 g_this_laid g_this_pile g_this_s))))) else bd1 (f_X9_layBack g_this_laid g_this_s) (fun g7 => some (v1, g_this_laid, g_this_pile, g7))))
def f_X9_judge (x_this_rowMany : Int32) (f_this_laid : Nat → Int32) (f_this_pile : Nat → Int32) (f_this_rows : Nat → Int32) (f_this_s : Nat → Int32) : Option (Int32 × (Nat → Int32) × (Nat → Int32) × (Nat → Int32)) := bd1 (f_X9_layDown f_this_laid f_this_s) (fun g1 => f_X9_judge_L8 x_this_rowMany f_this_rows 1000 (0 : Int32) (0 : Int32) g1 f_this_pile f_this_s)
set_option maxRecDepth 100000 in
set_option maxHeartbeats 4000000 in
theorem c_X9_judge {l : Launch} {G : Gt} {h_this h_this_s h_this_kept h_this_laid h_this_pile h_this_tape h_this_letters h_this_code0 h_this_read h_this_saved h_this_plan h_this_bestPlan h_this_offThen h_this_paidThen h_this_rows h_this_sorts h_this_sizes h_this_number h_this_holds h_this_heldOne h_this_trace : Nat} {x_this_isKept : Int32} {x_this_taped : Int32} {x_this_at : Int32} {x_this_begun : Int32} {x_this_token : Int32} {x_this_value : Int32} {x_this_opened : Int32} {x_this_steps : Int32} {x_this_most : Int32} {x_this_many : Int32} {x_this_few : Int32} {x_this_everHome : Int32} {x_this_firstFit : Int32} {x_this_rowMany : Int32} {x_this_traced : Int32} {x_this_own : Int32} {x_this_isParted : Int32} {f_this_laid : Nat → Int32} {f_this_pile : Nat → Int32} {f_this_rows : Nat → Int32} {f_this_s : Nat → Int32} {r : Int32} {m_this_laid : Nat → Int32} {m_this_pile : Nat → Int32} {m_this_s : Nat → Int32} (hf : f_X9_judge x_this_rowMany f_this_laid f_this_pile f_this_rows f_this_s = some (r, m_this_laid, m_this_pile, m_this_s)) : mFi l G yX9_judge cX9_judge 6 .int 7 [.ref h_this] [(h_this, ob 9 [.ref h_this_s, .ref h_this_kept, .ref h_this_laid, .int x_this_isKept, .ref h_this_pile, .ref h_this_tape, .int x_this_taped, .ref h_this_letters, .int x_this_at, .int x_this_begun, .int x_this_token, .int x_this_value, .int x_this_opened, .int x_this_steps, .ref h_this_code0, .ref h_this_read, .ref h_this_saved, .ref h_this_plan, .ref h_this_bestPlan, .int x_this_most, .int x_this_many, .int x_this_few, .int x_this_everHome, .ref h_this_offThen, .ref h_this_paidThen, .int x_this_firstFit, .ref h_this_rows, .int x_this_rowMany, .ref h_this_sorts, .ref h_this_sizes, .ref h_this_number, .ref h_this_holds, .ref h_this_heldOne, .ref h_this_trace, .int x_this_traced, .int x_this_own, .int x_this_isParted]), (h_this_laid, ia G 65 f_this_laid), (h_this_pile, ia G 200 f_this_pile), (h_this_rows, ia G 12 f_this_rows), (h_this_s, ia G 313 f_this_s)] r [(h_this, ob 9 [.ref h_this_s, .ref h_this_kept, .ref h_this_laid, .int x_this_isKept, .ref h_this_pile, .ref h_this_tape, .int x_this_taped, .ref h_this_letters, .int x_this_at, .int x_this_begun, .int x_this_token, .int x_this_value, .int x_this_opened, .int x_this_steps, .ref h_this_code0, .ref h_this_read, .ref h_this_saved, .ref h_this_plan, .ref h_this_bestPlan, .int x_this_most, .int x_this_many, .int x_this_few, .int x_this_everHome, .ref h_this_offThen, .ref h_this_paidThen, .int x_this_firstFit, .ref h_this_rows, .int x_this_rowMany, .ref h_this_sorts, .ref h_this_sizes, .ref h_this_number, .ref h_this_holds, .ref h_this_heldOne, .ref h_this_trace, .int x_this_traced, .int x_this_own, .int x_this_isParted]), (h_this_laid, ia G 65 m_this_laid), (h_this_pile, ia G 200 m_this_pile), (h_this_rows, ia G 12 f_this_rows), (h_this_s, ia G 313 m_this_s)] := by
  refine mFi.of (by decide +kernel) (Nat.le_of_ble_eq_true rfl) ?_
  intro p e s m below meth c A C hr hlk h ls hl
  obtain ⟨hx, hb, hml, hown, hts⟩ := id C
  replace hl : lv_has ls 6 [(0, .ref h_this)] := hl
  unfold f_X9_judge at hf
  refine with_K G A 6 (fun K hK1 hK2 => ?_)
  have B112 : ∀ (rec8 : Int32 → Int32 → (Nat → Int32) → (Nat → Int32) → (Nat → Int32) → Option (Int32 × (Nat → Int32) × (Nat → Int32) × (Nat → Int32))) (hrec8 : ∀ (v1 : Int32) (v2 : Int32) (g_this_laid : Nat → Int32) (g_this_pile : Nat → Int32) (g_this_s : Nat → Int32), rec8 v1 v2 g_this_laid g_this_pile g_this_s = some (r, m_this_laid, m_this_pile, m_this_s) → K 8 ([] : List Value) [(h_this, ob 9 [.ref h_this_s, .ref h_this_kept, .ref h_this_laid, .int x_this_isKept, .ref h_this_pile, .ref h_this_tape, .int x_this_taped, .ref h_this_letters, .int x_this_at, .int x_this_begun, .int x_this_token, .int x_this_value, .int x_this_opened, .int x_this_steps, .ref h_this_code0, .ref h_this_read, .ref h_this_saved, .ref h_this_plan, .ref h_this_bestPlan, .int x_this_most, .int x_this_many, .int x_this_few, .int x_this_everHome, .ref h_this_offThen, .ref h_this_paidThen, .int x_this_firstFit, .ref h_this_rows, .int x_this_rowMany, .ref h_this_sorts, .ref h_this_sizes, .ref h_this_number, .ref h_this_holds, .ref h_this_heldOne, .ref h_this_trace, .int x_this_traced, .int x_this_own, .int x_this_isParted]), (h_this_laid, ia G 65 g_this_laid), (h_this_pile, ia G 200 g_this_pile), (h_this_rows, ia G 12 f_this_rows), (h_this_s, ia G 313 g_this_s)] [(0, .ref h_this), (1, .int v1), (2, .int v2)]) (v2 : Int32) (s0 : Int32) (g_this_laid : Nat → Int32) (g_this_pile : Nat → Int32) (g_this_s : Nat → Int32), f_X9_judge_b112 rec8 v2 s0 g_this_laid g_this_pile g_this_s = some (r, m_this_laid, m_this_pile, m_this_s) → K 112 [.int s0] [(h_this, ob 9 [.ref h_this_s, .ref h_this_kept, .ref h_this_laid, .int x_this_isKept, .ref h_this_pile, .ref h_this_tape, .int x_this_taped, .ref h_this_letters, .int x_this_at, .int x_this_begun, .int x_this_token, .int x_this_value, .int x_this_opened, .int x_this_steps, .ref h_this_code0, .ref h_this_read, .ref h_this_saved, .ref h_this_plan, .ref h_this_bestPlan, .int x_this_most, .int x_this_many, .int x_this_few, .int x_this_everHome, .ref h_this_offThen, .ref h_this_paidThen, .int x_this_firstFit, .ref h_this_rows, .int x_this_rowMany, .ref h_this_sorts, .ref h_this_sizes, .ref h_this_number, .ref h_this_holds, .ref h_this_heldOne, .ref h_this_trace, .int x_this_traced, .int x_this_own, .int x_this_isParted]), (h_this_laid, ia G 65 g_this_laid), (h_this_pile, ia G 200 g_this_pile), (h_this_rows, ia G 12 f_this_rows), (h_this_s, ia G 313 g_this_s)] [(0, .ref h_this), (2, .int v2)] := by
    intro rec8 hrec8 v2 s0 g_this_laid g_this_pile g_this_s hf
    unfold f_X9_judge_b112 at hf
    refine hK1 _ _ _ _ (fun H locs ls h hl => ?_)
    refine lv_istore (lv' := [(5, .int s0), (0, .ref h_this), (2, .int v2)]) hx hb dX9_judge_112 hl (by decide) rfl (fun ls hl => ?_)
    refine lv_iload hx hb dX9_judge_114 (lv_at hl 0 rfl) ?_
    refine lv_if_eq (tgt := 123) hx hb dX9_judge_116 rfl (fun c15 => ?_) (fun c15 => ?_)
    · replace hf := ifp c15 hf
      refine lv_iconst (v := (1 : Int32)) hx hb dX9_judge_123 rfl ?_
      refine lv_iload_n hx hb dX9_judge_124 rfl (lv_at hl 2 rfl) ?_
      refine lv_iadd hx hb dX9_judge_125 ?_
      refine lv_topi (fun t16 et16 => ?_)
      replace hf := lt1_inv et16 hf
      refine lv_istore_n (lv' := [(1, .int t16), (5, .int s0), (0, .ref h_this), (2, .int v2)]) hx hb dX9_judge_126 rfl hl (by decide) rfl (fun ls hl => ?_)
      obtain ⟨t17, et17⟩ : ∃ y : Int32, y = v2 + (1 : Int32) := ⟨_, rfl⟩
      replace hf := lt1_inv et17 hf
      refine lv_iinc (v := t17) (lv' := [(2, .int t17), (1, .int t16), (5, .int s0), (0, .ref h_this)]) hx hb dX9_judge_127 hl (k := 3) rfl (by rw [et17]; rfl) (by decide) rfl (fun ls hl => ?_)
      refine lv_goto (tgt := 8) hx hb dX9_judge_130 rfl ?_
      exact hK2 _ _ _ _ (hrec8 t16 t17 g_this_laid g_this_pile g_this_s hf) _ _ _ h (lv_sub hl [3, 1, 0] rfl)
    · replace hf := ifn c15 hf
      refine lv_iconst (v := (0 : Int32)) hx hb dX9_judge_119 rfl ?_
      refine lv_goto (tgt := 126) hx hb dX9_judge_120 rfl ?_
      refine lv_istore_n (lv' := [(1, .int (0 : Int32)), (5, .int s0), (0, .ref h_this), (2, .int v2)]) hx hb dX9_judge_126 rfl hl (by decide) rfl (fun ls hl => ?_)
      obtain ⟨t18, et18⟩ : ∃ y : Int32, y = v2 + (1 : Int32) := ⟨_, rfl⟩
      replace hf := lt1_inv et18 hf
      refine lv_iinc (v := t18) (lv' := [(2, .int t18), (1, .int (0 : Int32)), (5, .int s0), (0, .ref h_this)]) hx hb dX9_judge_127 hl (k := 3) rfl (by rw [et18]; rfl) (by decide) rfl (fun ls hl => ?_)
      refine lv_goto (tgt := 8) hx hb dX9_judge_130 rfl ?_
      exact hK2 _ _ _ _ (hrec8 (0 : Int32) t18 g_this_laid g_this_pile g_this_s hf) _ _ _ h (lv_sub hl [3, 1, 0] rfl)
  have B111 : ∀ (rec8 : Int32 → Int32 → (Nat → Int32) → (Nat → Int32) → (Nat → Int32) → Option (Int32 × (Nat → Int32) × (Nat → Int32) × (Nat → Int32))) (hrec8 : ∀ (v1 : Int32) (v2 : Int32) (g_this_laid : Nat → Int32) (g_this_pile : Nat → Int32) (g_this_s : Nat → Int32), rec8 v1 v2 g_this_laid g_this_pile g_this_s = some (r, m_this_laid, m_this_pile, m_this_s) → K 8 ([] : List Value) [(h_this, ob 9 [.ref h_this_s, .ref h_this_kept, .ref h_this_laid, .int x_this_isKept, .ref h_this_pile, .ref h_this_tape, .int x_this_taped, .ref h_this_letters, .int x_this_at, .int x_this_begun, .int x_this_token, .int x_this_value, .int x_this_opened, .int x_this_steps, .ref h_this_code0, .ref h_this_read, .ref h_this_saved, .ref h_this_plan, .ref h_this_bestPlan, .int x_this_most, .int x_this_many, .int x_this_few, .int x_this_everHome, .ref h_this_offThen, .ref h_this_paidThen, .int x_this_firstFit, .ref h_this_rows, .int x_this_rowMany, .ref h_this_sorts, .ref h_this_sizes, .ref h_this_number, .ref h_this_holds, .ref h_this_heldOne, .ref h_this_trace, .int x_this_traced, .int x_this_own, .int x_this_isParted]), (h_this_laid, ia G 65 g_this_laid), (h_this_pile, ia G 200 g_this_pile), (h_this_rows, ia G 12 f_this_rows), (h_this_s, ia G 313 g_this_s)] [(0, .ref h_this), (1, .int v1), (2, .int v2)]) (v2 : Int32) (g_this_laid : Nat → Int32) (g_this_pile : Nat → Int32) (g_this_s : Nat → Int32), f_X9_judge_b111 rec8 v2 g_this_laid g_this_pile g_this_s = some (r, m_this_laid, m_this_pile, m_this_s) → K 111 ([] : List Value) [(h_this, ob 9 [.ref h_this_s, .ref h_this_kept, .ref h_this_laid, .int x_this_isKept, .ref h_this_pile, .ref h_this_tape, .int x_this_taped, .ref h_this_letters, .int x_this_at, .int x_this_begun, .int x_this_token, .int x_this_value, .int x_this_opened, .int x_this_steps, .ref h_this_code0, .ref h_this_read, .ref h_this_saved, .ref h_this_plan, .ref h_this_bestPlan, .int x_this_most, .int x_this_many, .int x_this_few, .int x_this_everHome, .ref h_this_offThen, .ref h_this_paidThen, .int x_this_firstFit, .ref h_this_rows, .int x_this_rowMany, .ref h_this_sorts, .ref h_this_sizes, .ref h_this_number, .ref h_this_holds, .ref h_this_heldOne, .ref h_this_trace, .int x_this_traced, .int x_this_own, .int x_this_isParted]), (h_this_laid, ia G 65 g_this_laid), (h_this_pile, ia G 200 g_this_pile), (h_this_rows, ia G 12 f_this_rows), (h_this_s, ia G 313 g_this_s)] [(0, .ref h_this), (2, .int v2)] := by
    intro rec8 hrec8 v2 g_this_laid g_this_pile g_this_s hf
    unfold f_X9_judge_b111 at hf
    refine hK1 _ _ _ _ (fun H locs ls h hl => ?_)
    refine lv_iconst (v := (0 : Int32)) hx hb dX9_judge_111 rfl ?_
    exact hK2 _ _ _ _ (B112 _ hrec8 v2 (0 : Int32) g_this_laid g_this_pile g_this_s hf) _ _ _ h (lv_sub hl [0, 1] rfl)
  have B68 : ∀ (rec8 : Int32 → Int32 → (Nat → Int32) → (Nat → Int32) → (Nat → Int32) → Option (Int32 × (Nat → Int32) × (Nat → Int32) × (Nat → Int32))) (hrec8 : ∀ (v1 : Int32) (v2 : Int32) (g_this_laid : Nat → Int32) (g_this_pile : Nat → Int32) (g_this_s : Nat → Int32), rec8 v1 v2 g_this_laid g_this_pile g_this_s = some (r, m_this_laid, m_this_pile, m_this_s) → K 8 ([] : List Value) [(h_this, ob 9 [.ref h_this_s, .ref h_this_kept, .ref h_this_laid, .int x_this_isKept, .ref h_this_pile, .ref h_this_tape, .int x_this_taped, .ref h_this_letters, .int x_this_at, .int x_this_begun, .int x_this_token, .int x_this_value, .int x_this_opened, .int x_this_steps, .ref h_this_code0, .ref h_this_read, .ref h_this_saved, .ref h_this_plan, .ref h_this_bestPlan, .int x_this_most, .int x_this_many, .int x_this_few, .int x_this_everHome, .ref h_this_offThen, .ref h_this_paidThen, .int x_this_firstFit, .ref h_this_rows, .int x_this_rowMany, .ref h_this_sorts, .ref h_this_sizes, .ref h_this_number, .ref h_this_holds, .ref h_this_heldOne, .ref h_this_trace, .int x_this_traced, .int x_this_own, .int x_this_isParted]), (h_this_laid, ia G 65 g_this_laid), (h_this_pile, ia G 200 g_this_pile), (h_this_rows, ia G 12 f_this_rows), (h_this_s, ia G 313 g_this_s)] [(0, .ref h_this), (1, .int v1), (2, .int v2)]) (v2 : Int32) (v3 : Int32) (s0 : Int32) (g_this_laid : Nat → Int32) (g_this_pile : Nat → Int32) (g_this_s : Nat → Int32), f_X9_judge_b68 rec8 f_this_rows v2 v3 s0 g_this_laid g_this_pile g_this_s = some (r, m_this_laid, m_this_pile, m_this_s) → K 68 [.int s0] [(h_this, ob 9 [.ref h_this_s, .ref h_this_kept, .ref h_this_laid, .int x_this_isKept, .ref h_this_pile, .ref h_this_tape, .int x_this_taped, .ref h_this_letters, .int x_this_at, .int x_this_begun, .int x_this_token, .int x_this_value, .int x_this_opened, .int x_this_steps, .ref h_this_code0, .ref h_this_read, .ref h_this_saved, .ref h_this_plan, .ref h_this_bestPlan, .int x_this_most, .int x_this_many, .int x_this_few, .int x_this_everHome, .ref h_this_offThen, .ref h_this_paidThen, .int x_this_firstFit, .ref h_this_rows, .int x_this_rowMany, .ref h_this_sorts, .ref h_this_sizes, .ref h_this_number, .ref h_this_holds, .ref h_this_heldOne, .ref h_this_trace, .int x_this_traced, .int x_this_own, .int x_this_isParted]), (h_this_laid, ia G 65 g_this_laid), (h_this_pile, ia G 200 g_this_pile), (h_this_rows, ia G 12 f_this_rows), (h_this_s, ia G 313 g_this_s)] [(0, .ref h_this), (2, .int v2), (3, .int v3)] := by
    intro rec8 hrec8 v2 v3 s0 g_this_laid g_this_pile g_this_s hf
    unfold f_X9_judge_b68 at hf
    refine hK1 _ _ _ _ (fun H locs ls h hl => ?_)
    refine lv_istore (lv' := [(4, .int s0), (0, .ref h_this), (2, .int v2), (3, .int v3)]) hx hb dX9_judge_68 hl (by decide) rfl (fun ls hl => ?_)
    refine lv_iload_n hx hb dX9_judge_70 rfl (lv_at hl 3 rfl) ?_
    refine lv_if_eq (tgt := 111) hx hb dX9_judge_71 rfl (fun c14 => ?_) (fun c14 => ?_)
    · replace hf := ifp c14 hf
      exact hK2 _ _ _ _ (B111 _ hrec8 v2 g_this_laid g_this_pile g_this_s hf) _ _ _ h (lv_sub hl [1, 2] rfl)
    · replace hf := ifn c14 hf
      refine lv_iload hx hb dX9_judge_74 (lv_at hl 0 rfl) ?_
      refine lv_aload_n hx hb dX9_judge_76 rfl (lv_at hl 1 rfl) ?_
      refine r_get C h fk_X9_50 0 rfl rfl dX9_judge_77 ?_
      refine lv_iconst (v := (3 : Int32)) hx hb dX9_judge_80 rfl ?_
      refine lv_iload_n hx hb dX9_judge_81 rfl (lv_at hl 2 rfl) ?_
      refine lv_imul hx hb dX9_judge_82 ?_
      refine lv_iconst (v := (1 : Int32)) hx hb dX9_judge_83 rfl ?_
      refine lv_iadd hx hb dX9_judge_84 ?_
      replace hf := chkI_inv hf
      obtain ⟨hi19, hf⟩ := hf
      refine r_iald C h 3 rfl hi19 dX9_judge_85 ?_
      refine lv_icmp_ne (tgt := 111) hx hb dX9_judge_86 rfl (fun c20 => ?_) (fun c20 => ?_)
      · replace hf := ifn c20 hf
        exact hK2 _ _ _ _ (B111 _ hrec8 v2 g_this_laid g_this_pile g_this_s hf) _ _ _ h (lv_sub hl [1, 2] rfl)
      · replace hf := ifp c20 hf
        refine lv_aload_n hx hb dX9_judge_89 rfl (lv_at hl 1 rfl) ?_
        refine lv_iconst (v := (4 : Int32)) hx hb dX9_judge_90 rfl ?_
        replace hf := bd1_inv hf
        obtain ⟨r21, hc22, hf⟩ := hf
        refine r_ciV0 C h (c_X9_those hc22) mv_X9_235 rfl 0 rfl [0, 4] rfl rfl hl.1 rfl (Nat.le_of_ble_eq_true rfl) (rok (by decide)) dX9_judge_91 (fun H locs h => ?_)
        refine lv_aload_n hx hb dX9_judge_94 rfl (lv_at hl 1 rfl) ?_
        refine r_get C h fk_X9_50 0 rfl rfl dX9_judge_95 ?_
        refine lv_iconst (v := (3 : Int32)) hx hb dX9_judge_98 rfl ?_
        refine lv_iload_n hx hb dX9_judge_99 rfl (lv_at hl 2 rfl) ?_
        refine lv_imul hx hb dX9_judge_100 ?_
        refine lv_iconst (v := (2 : Int32)) hx hb dX9_judge_101 rfl ?_
        refine lv_iadd hx hb dX9_judge_102 ?_
        replace hf := chkI_inv hf
        obtain ⟨hi23, hf⟩ := hf
        refine r_iald C h 3 rfl hi23 dX9_judge_103 ?_
        refine lv_icmp_ne (tgt := 111) hx hb dX9_judge_104 rfl (fun c24 => ?_) (fun c24 => ?_)
        · replace hf := ifn c24 hf
          exact hK2 _ _ _ _ (B111 _ hrec8 v2 g_this_laid g_this_pile g_this_s hf) _ _ _ h (lv_sub hl [1, 2] rfl)
        · replace hf := ifp c24 hf
          refine lv_iconst (v := (1 : Int32)) hx hb dX9_judge_107 rfl ?_
          refine lv_goto (tgt := 112) hx hb dX9_judge_108 rfl ?_
          exact hK2 _ _ _ _ (B112 _ hrec8 v2 (1 : Int32) g_this_laid g_this_pile g_this_s hf) _ _ _ h (lv_sub hl [1, 2] rfl)
  have B47 : ∀ (rec8 : Int32 → Int32 → (Nat → Int32) → (Nat → Int32) → (Nat → Int32) → Option (Int32 × (Nat → Int32) × (Nat → Int32) × (Nat → Int32))) (hrec8 : ∀ (v1 : Int32) (v2 : Int32) (g_this_laid : Nat → Int32) (g_this_pile : Nat → Int32) (g_this_s : Nat → Int32), rec8 v1 v2 g_this_laid g_this_pile g_this_s = some (r, m_this_laid, m_this_pile, m_this_s) → K 8 ([] : List Value) [(h_this, ob 9 [.ref h_this_s, .ref h_this_kept, .ref h_this_laid, .int x_this_isKept, .ref h_this_pile, .ref h_this_tape, .int x_this_taped, .ref h_this_letters, .int x_this_at, .int x_this_begun, .int x_this_token, .int x_this_value, .int x_this_opened, .int x_this_steps, .ref h_this_code0, .ref h_this_read, .ref h_this_saved, .ref h_this_plan, .ref h_this_bestPlan, .int x_this_most, .int x_this_many, .int x_this_few, .int x_this_everHome, .ref h_this_offThen, .ref h_this_paidThen, .int x_this_firstFit, .ref h_this_rows, .int x_this_rowMany, .ref h_this_sorts, .ref h_this_sizes, .ref h_this_number, .ref h_this_holds, .ref h_this_heldOne, .ref h_this_trace, .int x_this_traced, .int x_this_own, .int x_this_isParted]), (h_this_laid, ia G 65 g_this_laid), (h_this_pile, ia G 200 g_this_pile), (h_this_rows, ia G 12 f_this_rows), (h_this_s, ia G 313 g_this_s)] [(0, .ref h_this), (1, .int v1), (2, .int v2)]) (v2 : Int32) (s0 : Int32) (g_this_laid : Nat → Int32) (g_this_pile : Nat → Int32) (g_this_s : Nat → Int32), f_X9_judge_b47 rec8 f_this_rows v2 s0 g_this_laid g_this_pile g_this_s = some (r, m_this_laid, m_this_pile, m_this_s) → K 47 [.int s0] [(h_this, ob 9 [.ref h_this_s, .ref h_this_kept, .ref h_this_laid, .int x_this_isKept, .ref h_this_pile, .ref h_this_tape, .int x_this_taped, .ref h_this_letters, .int x_this_at, .int x_this_begun, .int x_this_token, .int x_this_value, .int x_this_opened, .int x_this_steps, .ref h_this_code0, .ref h_this_read, .ref h_this_saved, .ref h_this_plan, .ref h_this_bestPlan, .int x_this_most, .int x_this_many, .int x_this_few, .int x_this_everHome, .ref h_this_offThen, .ref h_this_paidThen, .int x_this_firstFit, .ref h_this_rows, .int x_this_rowMany, .ref h_this_sorts, .ref h_this_sizes, .ref h_this_number, .ref h_this_holds, .ref h_this_heldOne, .ref h_this_trace, .int x_this_traced, .int x_this_own, .int x_this_isParted]), (h_this_laid, ia G 65 g_this_laid), (h_this_pile, ia G 200 g_this_pile), (h_this_rows, ia G 12 f_this_rows), (h_this_s, ia G 313 g_this_s)] [(0, .ref h_this), (2, .int v2)] := by
    intro rec8 hrec8 v2 s0 g_this_laid g_this_pile g_this_s hf
    unfold f_X9_judge_b47 at hf
    refine hK1 _ _ _ _ (fun H locs ls h hl => ?_)
    refine lv_istore_n (lv' := [(3, .int s0), (0, .ref h_this), (2, .int v2)]) hx hb dX9_judge_47 rfl hl (by decide) rfl (fun ls hl => ?_)
    refine lv_iload_n hx hb dX9_judge_48 rfl (lv_at hl 0 rfl) ?_
    refine lv_if_eq (tgt := 67) hx hb dX9_judge_49 rfl (fun c13 => ?_) (fun c13 => ?_)
    · replace hf := ifp c13 hf
      refine lv_iconst (v := (0 : Int32)) hx hb dX9_judge_67 rfl ?_
      exact hK2 _ _ _ _ (B68 _ hrec8 v2 s0 (0 : Int32) g_this_laid g_this_pile g_this_s hf) _ _ _ h (lv_sub hl [1, 2, 0] rfl)
    · replace hf := ifn c13 hf
      refine lv_aload_n hx hb dX9_judge_52 rfl (lv_at hl 1 rfl) ?_
      refine lv_aload_n hx hb dX9_judge_53 rfl (lv_at hl 1 rfl) ?_
      refine r_get C h fk_X9_50 0 rfl rfl dX9_judge_54 ?_
      refine lv_iconst (v := (3 : Int32)) hx hb dX9_judge_57 rfl ?_
      refine lv_iload_n hx hb dX9_judge_58 rfl (lv_at hl 2 rfl) ?_
      refine lv_imul hx hb dX9_judge_59 ?_
      replace hf := chkI_inv hf
      obtain ⟨hi25, hf⟩ := hf
      refine r_iald C h 3 rfl hi25 dX9_judge_60 ?_
      replace hf := bd3_inv hf
      obtain ⟨r26, g27, g28, hc29, hf⟩ := hf
      refine r_ciV (ws' := [(h_this, ob 9 [.ref h_this_s, .ref h_this_kept, .ref h_this_laid, .int x_this_isKept, .ref h_this_pile, .ref h_this_tape, .int x_this_taped, .ref h_this_letters, .int x_this_at, .int x_this_begun, .int x_this_token, .int x_this_value, .int x_this_opened, .int x_this_steps, .ref h_this_code0, .ref h_this_read, .ref h_this_saved, .ref h_this_plan, .ref h_this_bestPlan, .int x_this_most, .int x_this_many, .int x_this_few, .int x_this_everHome, .ref h_this_offThen, .ref h_this_paidThen, .int x_this_firstFit, .ref h_this_rows, .int x_this_rowMany, .ref h_this_sorts, .ref h_this_sizes, .ref h_this_number, .ref h_this_holds, .ref h_this_heldOne, .ref h_this_trace, .int x_this_traced, .int x_this_own, .int x_this_isParted]), (h_this_laid, ia G 65 g_this_laid), (h_this_pile, ia G 200 g27), (h_this_rows, ia G 12 f_this_rows), (h_this_s, ia G 313 g28)]) C h (c_X9_goesBy hc29) mv_X9_238 rfl 0 rfl [0, 2, 4] rfl rfl rfl rfl rfl hl.1 rfl (Nat.le_of_ble_eq_true rfl) (rok (by decide)) dX9_judge_61 (fun H locs h => ?_)
      refine lv_goto (tgt := 68) hx hb dX9_judge_64 rfl ?_
      exact hK2 _ _ _ _ (B68 _ hrec8 v2 s0 r26 g_this_laid g27 g28 hf) _ _ _ h (lv_sub hl [1, 2, 0] rfl)
  have B46 : ∀ (rec8 : Int32 → Int32 → (Nat → Int32) → (Nat → Int32) → (Nat → Int32) → Option (Int32 × (Nat → Int32) × (Nat → Int32) × (Nat → Int32))) (hrec8 : ∀ (v1 : Int32) (v2 : Int32) (g_this_laid : Nat → Int32) (g_this_pile : Nat → Int32) (g_this_s : Nat → Int32), rec8 v1 v2 g_this_laid g_this_pile g_this_s = some (r, m_this_laid, m_this_pile, m_this_s) → K 8 ([] : List Value) [(h_this, ob 9 [.ref h_this_s, .ref h_this_kept, .ref h_this_laid, .int x_this_isKept, .ref h_this_pile, .ref h_this_tape, .int x_this_taped, .ref h_this_letters, .int x_this_at, .int x_this_begun, .int x_this_token, .int x_this_value, .int x_this_opened, .int x_this_steps, .ref h_this_code0, .ref h_this_read, .ref h_this_saved, .ref h_this_plan, .ref h_this_bestPlan, .int x_this_most, .int x_this_many, .int x_this_few, .int x_this_everHome, .ref h_this_offThen, .ref h_this_paidThen, .int x_this_firstFit, .ref h_this_rows, .int x_this_rowMany, .ref h_this_sorts, .ref h_this_sizes, .ref h_this_number, .ref h_this_holds, .ref h_this_heldOne, .ref h_this_trace, .int x_this_traced, .int x_this_own, .int x_this_isParted]), (h_this_laid, ia G 65 g_this_laid), (h_this_pile, ia G 200 g_this_pile), (h_this_rows, ia G 12 f_this_rows), (h_this_s, ia G 313 g_this_s)] [(0, .ref h_this), (1, .int v1), (2, .int v2)]) (v2 : Int32) (g_this_laid : Nat → Int32) (g_this_pile : Nat → Int32) (g_this_s : Nat → Int32), f_X9_judge_b46 rec8 f_this_rows v2 g_this_laid g_this_pile g_this_s = some (r, m_this_laid, m_this_pile, m_this_s) → K 46 ([] : List Value) [(h_this, ob 9 [.ref h_this_s, .ref h_this_kept, .ref h_this_laid, .int x_this_isKept, .ref h_this_pile, .ref h_this_tape, .int x_this_taped, .ref h_this_letters, .int x_this_at, .int x_this_begun, .int x_this_token, .int x_this_value, .int x_this_opened, .int x_this_steps, .ref h_this_code0, .ref h_this_read, .ref h_this_saved, .ref h_this_plan, .ref h_this_bestPlan, .int x_this_most, .int x_this_many, .int x_this_few, .int x_this_everHome, .ref h_this_offThen, .ref h_this_paidThen, .int x_this_firstFit, .ref h_this_rows, .int x_this_rowMany, .ref h_this_sorts, .ref h_this_sizes, .ref h_this_number, .ref h_this_holds, .ref h_this_heldOne, .ref h_this_trace, .int x_this_traced, .int x_this_own, .int x_this_isParted]), (h_this_laid, ia G 65 g_this_laid), (h_this_pile, ia G 200 g_this_pile), (h_this_rows, ia G 12 f_this_rows), (h_this_s, ia G 313 g_this_s)] [(0, .ref h_this), (2, .int v2)] := by
    intro rec8 hrec8 v2 g_this_laid g_this_pile g_this_s hf
    unfold f_X9_judge_b46 at hf
    refine hK1 _ _ _ _ (fun H locs ls h hl => ?_)
    refine lv_iconst (v := (0 : Int32)) hx hb dX9_judge_46 rfl ?_
    exact hK2 _ _ _ _ (B47 _ hrec8 v2 (0 : Int32) g_this_laid g_this_pile g_this_s hf) _ _ _ h (lv_sub hl [0, 1] rfl)
  have L8 : ∀ (n : Nat) (v1 : Int32) (v2 : Int32) (g_this_laid : Nat → Int32) (g_this_pile : Nat → Int32) (g_this_s : Nat → Int32), f_X9_judge_L8 x_this_rowMany f_this_rows n v1 v2 g_this_laid g_this_pile g_this_s = some (r, m_this_laid, m_this_pile, m_this_s) → K 8 ([] : List Value) [(h_this, ob 9 [.ref h_this_s, .ref h_this_kept, .ref h_this_laid, .int x_this_isKept, .ref h_this_pile, .ref h_this_tape, .int x_this_taped, .ref h_this_letters, .int x_this_at, .int x_this_begun, .int x_this_token, .int x_this_value, .int x_this_opened, .int x_this_steps, .ref h_this_code0, .ref h_this_read, .ref h_this_saved, .ref h_this_plan, .ref h_this_bestPlan, .int x_this_most, .int x_this_many, .int x_this_few, .int x_this_everHome, .ref h_this_offThen, .ref h_this_paidThen, .int x_this_firstFit, .ref h_this_rows, .int x_this_rowMany, .ref h_this_sorts, .ref h_this_sizes, .ref h_this_number, .ref h_this_holds, .ref h_this_heldOne, .ref h_this_trace, .int x_this_traced, .int x_this_own, .int x_this_isParted]), (h_this_laid, ia G 65 g_this_laid), (h_this_pile, ia G 200 g_this_pile), (h_this_rows, ia G 12 f_this_rows), (h_this_s, ia G 313 g_this_s)] [(0, .ref h_this), (1, .int v1), (2, .int v2)] := by
    intro n
    induction n with
    | zero =>
      intro v1 v2 g_this_laid g_this_pile g_this_s hf
      replace hf : (none : Option _) = some _ := hf
      cases hf
    | succ n ih =>
      intro v1 v2 g_this_laid g_this_pile g_this_s hf
      rw [f_X9_judge_L8] at hf
      refine hK1 _ _ _ _ (fun H locs ls h hl => ?_)
      refine lv_iload_n hx hb dX9_judge_8 rfl (lv_at hl 2 rfl) ?_
      refine lv_aload_n hx hb dX9_judge_9 rfl (lv_at hl 0 rfl) ?_
      refine r_get C h fk_X9_320 0 rfl rfl dX9_judge_10 ?_
      refine lv_icmp_ge (tgt := 133) hx hb dX9_judge_13 rfl (fun c3 => ?_) (fun c3 => ?_)
      · replace hf := ifp c3 hf
        refine lv_aload_n hx hb dX9_judge_133 rfl (lv_at hl 0 rfl) ?_
        replace hf := bd1_inv hf
        obtain ⟨g4, hc5, hf⟩ := hf
        refine r_cvV (ws' := [(h_this, ob 9 [.ref h_this_s, .ref h_this_kept, .ref h_this_laid, .int x_this_isKept, .ref h_this_pile, .ref h_this_tape, .int x_this_taped, .ref h_this_letters, .int x_this_at, .int x_this_begun, .int x_this_token, .int x_this_value, .int x_this_opened, .int x_this_steps, .ref h_this_code0, .ref h_this_read, .ref h_this_saved, .ref h_this_plan, .ref h_this_bestPlan, .int x_this_most, .int x_this_many, .int x_this_few, .int x_this_everHome, .ref h_this_offThen, .ref h_this_paidThen, .int x_this_firstFit, .ref h_this_rows, .int x_this_rowMany, .ref h_this_sorts, .ref h_this_sizes, .ref h_this_number, .ref h_this_holds, .ref h_this_heldOne, .ref h_this_trace, .int x_this_traced, .int x_this_own, .int x_this_isParted]), (h_this_laid, ia G 65 g_this_laid), (h_this_pile, ia G 200 g_this_pile), (h_this_rows, ia G 12 f_this_rows), (h_this_s, ia G 313 g4)]) C h (c_X9_layBack hc5) mv_X9_247 rfl 0 rfl [0, 1, 4] rfl rfl rfl rfl rfl hl.1 rfl (Nat.le_of_ble_eq_true rfl) (rok (by decide)) dX9_judge_134 (fun H locs h => ?_)
        refine lv_iload_n hx hb dX9_judge_137 rfl (lv_at hl 1 rfl) ?_
        cases hf
        exact r_iret C h hr hlk rfl dX9_judge_138
      · replace hf := ifn c3 hf
        refine lv_iload_n hx hb dX9_judge_16 rfl (lv_at hl 1 rfl) ?_
        refine lv_if_ne (tgt := 133) hx hb dX9_judge_17 rfl (fun c6 => ?_) (fun c6 => ?_)
        · replace hf := ifn c6 hf
          refine lv_aload_n hx hb dX9_judge_133 rfl (lv_at hl 0 rfl) ?_
          replace hf := bd1_inv hf
          obtain ⟨g7, hc8, hf⟩ := hf
          refine r_cvV (ws' := [(h_this, ob 9 [.ref h_this_s, .ref h_this_kept, .ref h_this_laid, .int x_this_isKept, .ref h_this_pile, .ref h_this_tape, .int x_this_taped, .ref h_this_letters, .int x_this_at, .int x_this_begun, .int x_this_token, .int x_this_value, .int x_this_opened, .int x_this_steps, .ref h_this_code0, .ref h_this_read, .ref h_this_saved, .ref h_this_plan, .ref h_this_bestPlan, .int x_this_most, .int x_this_many, .int x_this_few, .int x_this_everHome, .ref h_this_offThen, .ref h_this_paidThen, .int x_this_firstFit, .ref h_this_rows, .int x_this_rowMany, .ref h_this_sorts, .ref h_this_sizes, .ref h_this_number, .ref h_this_holds, .ref h_this_heldOne, .ref h_this_trace, .int x_this_traced, .int x_this_own, .int x_this_isParted]), (h_this_laid, ia G 65 g_this_laid), (h_this_pile, ia G 200 g_this_pile), (h_this_rows, ia G 12 f_this_rows), (h_this_s, ia G 313 g7)]) C h (c_X9_layBack hc8) mv_X9_247 rfl 0 rfl [0, 1, 4] rfl rfl rfl rfl rfl hl.1 rfl (Nat.le_of_ble_eq_true rfl) (rok (by decide)) dX9_judge_134 (fun H locs h => ?_)
          refine lv_iload_n hx hb dX9_judge_137 rfl (lv_at hl 1 rfl) ?_
          cases hf
          exact r_iret C h hr hlk rfl dX9_judge_138
        · replace hf := ifp c6 hf
          refine lv_aload_n hx hb dX9_judge_20 rfl (lv_at hl 0 rfl) ?_
          refine lv_aload_n hx hb dX9_judge_21 rfl (lv_at hl 0 rfl) ?_
          refine r_get C h fk_X9_50 0 rfl rfl dX9_judge_22 ?_
          refine lv_iconst (v := (3 : Int32)) hx hb dX9_judge_25 rfl ?_
          refine lv_iload_n hx hb dX9_judge_26 rfl (lv_at hl 2 rfl) ?_
          refine lv_imul hx hb dX9_judge_27 ?_
          replace hf := chkI_inv hf
          obtain ⟨hi9, hf⟩ := hf
          refine r_iald C h 3 rfl hi9 dX9_judge_28 ?_
          replace hf := bd1_inv hf
          obtain ⟨r10, hc11, hf⟩ := hf
          refine r_ciV0 C h (c_X9_isAct hc11) mv_X9_326 rfl 0 rfl [0, 4] rfl rfl hl.1 rfl (Nat.le_of_ble_eq_true rfl) (rok (by decide)) dX9_judge_29 (fun H locs h => ?_)
          refine lv_if_eq (tgt := 46) hx hb dX9_judge_32 rfl (fun c12 => ?_) (fun c12 => ?_)
          · replace hf := ifp c12 hf
            exact hK2 _ _ _ _ (B46 _ ih v2 g_this_laid g_this_pile g_this_s hf) _ _ _ h (lv_sub hl [0, 2] rfl)
          · replace hf := ifn c12 hf
            refine lv_aload_n hx hb dX9_judge_35 rfl (lv_at hl 0 rfl) ?_
            replace hf := bd1_inv hf
            obtain ⟨r30, hc31, hf⟩ := hf
            refine r_ciV0 C h (c_X9_isOver hc31) mv_X9_232 rfl 0 rfl [0, 4] rfl rfl hl.1 rfl (Nat.le_of_ble_eq_true rfl) (rok (by decide)) dX9_judge_36 (fun H locs h => ?_)
            refine lv_if_ne (tgt := 46) hx hb dX9_judge_39 rfl (fun c32 => ?_) (fun c32 => ?_)
            · replace hf := ifn c32 hf
              exact hK2 _ _ _ _ (B46 _ ih v2 g_this_laid g_this_pile g_this_s hf) _ _ _ h (lv_sub hl [0, 2] rfl)
            · replace hf := ifp c32 hf
              refine lv_iconst (v := (1 : Int32)) hx hb dX9_judge_42 rfl ?_
              refine lv_goto (tgt := 47) hx hb dX9_judge_43 rfl ?_
              exact hK2 _ _ _ _ (B47 _ ih v2 (1 : Int32) g_this_laid g_this_pile g_this_s hf) _ _ _ h (lv_sub hl [0, 2] rfl)
  refine lv_aload_n hx hb dX9_judge_0 rfl (lv_at hl 0 rfl) ?_
  replace hf := bd1_inv hf
  obtain ⟨g1, hc2, hf⟩ := hf
  refine r_cvV (ws' := [(h_this, ob 9 [.ref h_this_s, .ref h_this_kept, .ref h_this_laid, .int x_this_isKept, .ref h_this_pile, .ref h_this_tape, .int x_this_taped, .ref h_this_letters, .int x_this_at, .int x_this_begun, .int x_this_token, .int x_this_value, .int x_this_opened, .int x_this_steps, .ref h_this_code0, .ref h_this_read, .ref h_this_saved, .ref h_this_plan, .ref h_this_bestPlan, .int x_this_most, .int x_this_many, .int x_this_few, .int x_this_everHome, .ref h_this_offThen, .ref h_this_paidThen, .int x_this_firstFit, .ref h_this_rows, .int x_this_rowMany, .ref h_this_sorts, .ref h_this_sizes, .ref h_this_number, .ref h_this_holds, .ref h_this_heldOne, .ref h_this_trace, .int x_this_traced, .int x_this_own, .int x_this_isParted]), (h_this_laid, ia G 65 g1), (h_this_pile, ia G 200 f_this_pile), (h_this_rows, ia G 12 f_this_rows), (h_this_s, ia G 313 f_this_s)]) C h (c_X9_layDown hc2) mv_X9_241 rfl 0 rfl [0, 1, 4] rfl rfl rfl rfl rfl hl.1 rfl (Nat.le_of_ble_eq_true rfl) (rok (by decide)) dX9_judge_1 (fun H locs h => ?_)
  refine lv_iconst (v := (0 : Int32)) hx hb dX9_judge_4 rfl ?_
  refine lv_istore_n (lv' := [(1, .int (0 : Int32)), (0, .ref h_this)]) hx hb dX9_judge_5 rfl hl (by decide) rfl (fun ls hl => ?_)
  refine lv_iconst (v := (0 : Int32)) hx hb dX9_judge_6 rfl ?_
  refine lv_istore_n (lv' := [(2, .int (0 : Int32)), (1, .int (0 : Int32)), (0, .ref h_this)]) hx hb dX9_judge_7 rfl hl (by decide) rfl (fun ls hl => ?_)
  exact hK2 _ _ _ _ (L8 1000 (0 : Int32) (0 : Int32) g1 f_this_pile f_this_s hf) _ _ _ h (lv_sub hl [2, 1, 0] rfl)
def f_X9_isSheet (p0 : Int32) : Option (Int32) := bd1 (f_X9_in1 p0 (0 : Int32) (3 : Int32)) (fun r1 => chkB r1 (some r1))
set_option maxRecDepth 100000 in
set_option maxHeartbeats 4000000 in
theorem c_X9_isSheet {l : Launch} {G : Gt} {p0 : Int32} {r : Int32} (hf : f_X9_isSheet p0 = some r) : mFi l G yX9_isSheet cX9_isSheet 1 .boolean 1 [.int p0] ([] : va_W) r ([] : va_W) := by
  refine mFi.of (by decide +kernel) (Nat.le_of_ble_eq_true rfl) ?_
  intro p e s m below meth c A C hr hlk h ls hl
  obtain ⟨hx, hb, hml, hown, hts⟩ := id C
  replace hl : lv_has ls 1 [(0, .int p0)] := hl
  unfold f_X9_isSheet at hf
  refine lv_iload_n hx hb dX9_isSheet_0 rfl (lv_at hl 0 rfl) ?_
  refine lv_iconst (v := (0 : Int32)) hx hb dX9_isSheet_1 rfl ?_
  refine lv_iconst (v := (3 : Int32)) hx hb dX9_isSheet_2 rfl ?_
  replace hf := bd1_inv hf
  obtain ⟨r1, hc2, hf⟩ := hf
  refine r_ciS0 C h (c_X9_in1 hc2) ms_X9_71 rfl [] rfl rfl hl.1 rfl (Nat.le_of_ble_eq_true rfl) (rok (by decide)) dX9_isSheet_3 (fun H locs h => ?_)
  replace hf := chkB_inv hf
  obtain ⟨hb3, hf⟩ := hf
  cases hf
  exact r_iret C h hr hlk hb3 dX9_isSheet_6
def f_X9_sheet_L64 (p0 : Int32) : Nat → Int32 → (Nat → Int32) → (Nat → Int32) → (Nat → Int32) → Option (Int32 × (Nat → Int32) × (Nat → Int32) × (Nat → Int32))
  | 0, _, _, _, _ => none
  | n + 1, v4, g_this_number, g_this_sizes, g_this_sorts => (if (40 : Int32) ≤ v4 then some ((1 : Int32), g_this_number, g_this_sizes, g_this_sorts) else chkI (((40 : Int32) * p0) + v4) 160 (lt1 (v4 + (1 : Int32)) (fun (t14 : Int32) => (f_X9_sheet_L64 p0 n) t14 (upd g_this_number (((40 : Int32) * p0) + v4).toNatClampNeg (0 : Int32)) g_this_sizes g_this_sorts)))
def f_X9_sheet_b60 (p0 : Int32) (f_this_number : Nat → Int32) (f_this_sizes : Nat → Int32) (s1 : Int32) (s2 : Int32) (g_this_sorts : Nat → Int32) : Option (Int32 × (Nat → Int32) × (Nat → Int32) × (Nat → Int32)) := chkI s1 4 (f_X9_sheet_L64 p0 1000 (0 : Int32) f_this_number (upd f_this_sizes s1.toNatClampNeg s2) g_this_sorts)
def f_X9_sheet_b39 (p0 : Int32) (p1 : Int32) (p2 : Int32) (f_this_number : Nat → Int32) (f_this_sizes : Nat → Int32) (f_this_sorts : Nat → Int32) : Option (Int32 × (Nat → Int32) × (Nat → Int32) × (Nat → Int32)) := chkI p0 4 ((if 0 ≤ p1 then f_X9_sheet_b60 p0 f_this_number f_this_sizes p0 p2 (upd f_this_sorts p0.toNatClampNeg p1) else f_X9_sheet_b60 p0 f_this_number f_this_sizes p0 (0 : Int32) (upd f_this_sorts p0.toNatClampNeg p1)))
def f_X9_sheet_b28 (p0 : Int32) (p1 : Int32) (p2 : Int32) (f_this_number : Nat → Int32) (f_this_sizes : Nat → Int32) (f_this_sorts : Nat → Int32) : Option (Int32 × (Nat → Int32) × (Nat → Int32) × (Nat → Int32)) := (if p1 < 0 then f_X9_sheet_b39 p0 p1 p2 f_this_number f_this_sizes f_this_sorts else (if 0 ≤ p2 then f_X9_sheet_b39 p0 p1 p2 f_this_number f_this_sizes f_this_sorts else some ((-14 : Int32), f_this_number, f_this_sizes, f_this_sorts)))
def f_X9_sheet (p0 : Int32) (p1 : Int32) (p2 : Int32) (f_this_number : Nat → Int32) (f_this_sizes : Nat → Int32) (f_this_sorts : Nat → Int32) : Option (Int32 × (Nat → Int32) × (Nat → Int32) × (Nat → Int32)) := bd1 (f_X9_isSheet p0) (fun r1 => (if r1 = 0 then some ((-1 : Int32), f_this_number, f_this_sizes, f_this_sorts) else bd1 (f_X9_in1 p1 (-1 : Int32) (4 : Int32)) (fun r4 => (if r4 = 0 then some ((-1 : Int32), f_this_number, f_this_sizes, f_this_sorts) else (if p1 < 0 then f_X9_sheet_b28 p0 p1 p2 f_this_number f_this_sizes f_this_sorts else (if p2 ≤ (40 : Int32) then f_X9_sheet_b28 p0 p1 p2 f_this_number f_this_sizes f_this_sorts else some ((-1 : Int32), f_this_number, f_this_sizes, f_this_sorts)))))))
set_option maxRecDepth 100000 in
set_option maxHeartbeats 4000000 in
theorem c_X9_sheet {l : Launch} {G : Gt} {h_this h_this_s h_this_kept h_this_laid h_this_pile h_this_tape h_this_letters h_this_code0 h_this_read h_this_saved h_this_plan h_this_bestPlan h_this_offThen h_this_paidThen h_this_rows h_this_sorts h_this_sizes h_this_number h_this_holds h_this_heldOne h_this_trace : Nat} {p0 : Int32} {p1 : Int32} {p2 : Int32} {x_this_isKept : Int32} {x_this_taped : Int32} {x_this_at : Int32} {x_this_begun : Int32} {x_this_token : Int32} {x_this_value : Int32} {x_this_opened : Int32} {x_this_steps : Int32} {x_this_most : Int32} {x_this_many : Int32} {x_this_few : Int32} {x_this_everHome : Int32} {x_this_firstFit : Int32} {x_this_rowMany : Int32} {x_this_traced : Int32} {x_this_own : Int32} {x_this_isParted : Int32} {f_this_number : Nat → Int32} {f_this_sizes : Nat → Int32} {f_this_sorts : Nat → Int32} {r : Int32} {m_this_number : Nat → Int32} {m_this_sizes : Nat → Int32} {m_this_sorts : Nat → Int32} (hf : f_X9_sheet p0 p1 p2 f_this_number f_this_sizes f_this_sorts = some (r, m_this_number, m_this_sizes, m_this_sorts)) : mFi l G yX9_sheet cX9_sheet 5 .int 2 [.ref h_this, .int p0, .int p1, .int p2] [(h_this, ob 9 [.ref h_this_s, .ref h_this_kept, .ref h_this_laid, .int x_this_isKept, .ref h_this_pile, .ref h_this_tape, .int x_this_taped, .ref h_this_letters, .int x_this_at, .int x_this_begun, .int x_this_token, .int x_this_value, .int x_this_opened, .int x_this_steps, .ref h_this_code0, .ref h_this_read, .ref h_this_saved, .ref h_this_plan, .ref h_this_bestPlan, .int x_this_most, .int x_this_many, .int x_this_few, .int x_this_everHome, .ref h_this_offThen, .ref h_this_paidThen, .int x_this_firstFit, .ref h_this_rows, .int x_this_rowMany, .ref h_this_sorts, .ref h_this_sizes, .ref h_this_number, .ref h_this_holds, .ref h_this_heldOne, .ref h_this_trace, .int x_this_traced, .int x_this_own, .int x_this_isParted]), (h_this_number, ia G 160 f_this_number), (h_this_sizes, ia G 4 f_this_sizes), (h_this_sorts, ia G 4 f_this_sorts)] r [(h_this, ob 9 [.ref h_this_s, .ref h_this_kept, .ref h_this_laid, .int x_this_isKept, .ref h_this_pile, .ref h_this_tape, .int x_this_taped, .ref h_this_letters, .int x_this_at, .int x_this_begun, .int x_this_token, .int x_this_value, .int x_this_opened, .int x_this_steps, .ref h_this_code0, .ref h_this_read, .ref h_this_saved, .ref h_this_plan, .ref h_this_bestPlan, .int x_this_most, .int x_this_many, .int x_this_few, .int x_this_everHome, .ref h_this_offThen, .ref h_this_paidThen, .int x_this_firstFit, .ref h_this_rows, .int x_this_rowMany, .ref h_this_sorts, .ref h_this_sizes, .ref h_this_number, .ref h_this_holds, .ref h_this_heldOne, .ref h_this_trace, .int x_this_traced, .int x_this_own, .int x_this_isParted]), (h_this_number, ia G 160 m_this_number), (h_this_sizes, ia G 4 m_this_sizes), (h_this_sorts, ia G 4 m_this_sorts)] := by
  refine mFi.of (by decide +kernel) (Nat.le_of_ble_eq_true rfl) ?_
  intro p e s m below meth c A C hr hlk h ls hl
  obtain ⟨hx, hb, hml, hown, hts⟩ := id C
  replace hl : lv_has ls 5 [(0, .ref h_this), (1, .int p0), (2, .int p1), (3, .int p2)] := hl
  unfold f_X9_sheet at hf
  refine with_K G A 5 (fun K hK1 hK2 => ?_)
  have L64 : ∀ (n : Nat) (v4 : Int32) (g_this_number : Nat → Int32) (g_this_sizes : Nat → Int32) (g_this_sorts : Nat → Int32), f_X9_sheet_L64 p0 n v4 g_this_number g_this_sizes g_this_sorts = some (r, m_this_number, m_this_sizes, m_this_sorts) → K 64 ([] : List Value) [(h_this, ob 9 [.ref h_this_s, .ref h_this_kept, .ref h_this_laid, .int x_this_isKept, .ref h_this_pile, .ref h_this_tape, .int x_this_taped, .ref h_this_letters, .int x_this_at, .int x_this_begun, .int x_this_token, .int x_this_value, .int x_this_opened, .int x_this_steps, .ref h_this_code0, .ref h_this_read, .ref h_this_saved, .ref h_this_plan, .ref h_this_bestPlan, .int x_this_most, .int x_this_many, .int x_this_few, .int x_this_everHome, .ref h_this_offThen, .ref h_this_paidThen, .int x_this_firstFit, .ref h_this_rows, .int x_this_rowMany, .ref h_this_sorts, .ref h_this_sizes, .ref h_this_number, .ref h_this_holds, .ref h_this_heldOne, .ref h_this_trace, .int x_this_traced, .int x_this_own, .int x_this_isParted]), (h_this_number, ia G 160 g_this_number), (h_this_sizes, ia G 4 g_this_sizes), (h_this_sorts, ia G 4 g_this_sorts)] [(0, .ref h_this), (1, .int p0), (4, .int v4)] := by
    intro n
    induction n with
    | zero =>
      intro v4 g_this_number g_this_sizes g_this_sorts hf
      replace hf : (none : Option _) = some _ := hf
      cases hf
    | succ n ih =>
      intro v4 g_this_number g_this_sizes g_this_sorts hf
      rw [f_X9_sheet_L64] at hf
      refine hK1 _ _ _ _ (fun H locs ls h hl => ?_)
      refine lv_iload hx hb dX9_sheet_64 (lv_at hl 2 rfl) ?_
      refine lv_bipush (v := (40 : Int32)) hx hb dX9_sheet_66 rfl ?_
      refine lv_icmp_ge (tgt := 90) hx hb dX9_sheet_68 rfl (fun c12 => ?_) (fun c12 => ?_)
      · replace hf := ifp c12 hf
        refine lv_iconst (v := (1 : Int32)) hx hb dX9_sheet_90 rfl ?_
        cases hf
        exact r_iret C h hr hlk rfl dX9_sheet_91
      · replace hf := ifn c12 hf
        refine lv_aload_n hx hb dX9_sheet_71 rfl (lv_at hl 0 rfl) ?_
        refine r_get C h fk_X9_59 0 rfl rfl dX9_sheet_72 ?_
        refine lv_bipush (v := (40 : Int32)) hx hb dX9_sheet_75 rfl ?_
        refine lv_iload_n hx hb dX9_sheet_77 rfl (lv_at hl 1 rfl) ?_
        refine lv_imul hx hb dX9_sheet_78 ?_
        refine lv_iload hx hb dX9_sheet_79 (lv_at hl 2 rfl) ?_
        refine lv_iadd hx hb dX9_sheet_81 ?_
        refine lv_iconst (v := (0 : Int32)) hx hb dX9_sheet_82 rfl ?_
        replace hf := chkI_inv hf
        obtain ⟨hi13, hf⟩ := hf
        refine r_iast (ws' := [(h_this, ob 9 [.ref h_this_s, .ref h_this_kept, .ref h_this_laid, .int x_this_isKept, .ref h_this_pile, .ref h_this_tape, .int x_this_taped, .ref h_this_letters, .int x_this_at, .int x_this_begun, .int x_this_token, .int x_this_value, .int x_this_opened, .int x_this_steps, .ref h_this_code0, .ref h_this_read, .ref h_this_saved, .ref h_this_plan, .ref h_this_bestPlan, .int x_this_most, .int x_this_many, .int x_this_few, .int x_this_everHome, .ref h_this_offThen, .ref h_this_paidThen, .int x_this_firstFit, .ref h_this_rows, .int x_this_rowMany, .ref h_this_sorts, .ref h_this_sizes, .ref h_this_number, .ref h_this_holds, .ref h_this_heldOne, .ref h_this_trace, .int x_this_traced, .int x_this_own, .int x_this_isParted]), (h_this_number, ia G 160 (upd g_this_number (((40 : Int32) * p0) + v4).toNatClampNeg (0 : Int32))), (h_this_sizes, ia G 4 g_this_sizes), (h_this_sorts, ia G 4 g_this_sorts)]) C h 1 rfl hi13 dX9_sheet_83 rfl (fun H locs h => ?_)
        obtain ⟨t14, et14⟩ : ∃ y : Int32, y = v4 + (1 : Int32) := ⟨_, rfl⟩
        replace hf := lt1_inv et14 hf
        refine lv_iinc (v := t14) (lv' := [(4, .int t14), (0, .ref h_this), (1, .int p0)]) hx hb dX9_sheet_84 hl (k := 2) rfl (by rw [et14]; rfl) (by decide) rfl (fun ls hl => ?_)
        refine lv_goto (tgt := 64) hx hb dX9_sheet_87 rfl ?_
        exact hK2 _ _ _ _ (ih t14 (upd g_this_number (((40 : Int32) * p0) + v4).toNatClampNeg (0 : Int32)) g_this_sizes g_this_sorts hf) _ _ _ h (lv_sub hl [1, 2, 0] rfl)
  have B60 : ∀ (s1 : Int32) (s2 : Int32) (g_this_sorts : Nat → Int32), f_X9_sheet_b60 p0 f_this_number f_this_sizes s1 s2 g_this_sorts = some (r, m_this_number, m_this_sizes, m_this_sorts) → K 60 [.int s2, .int s1, .ref h_this_sizes] [(h_this, ob 9 [.ref h_this_s, .ref h_this_kept, .ref h_this_laid, .int x_this_isKept, .ref h_this_pile, .ref h_this_tape, .int x_this_taped, .ref h_this_letters, .int x_this_at, .int x_this_begun, .int x_this_token, .int x_this_value, .int x_this_opened, .int x_this_steps, .ref h_this_code0, .ref h_this_read, .ref h_this_saved, .ref h_this_plan, .ref h_this_bestPlan, .int x_this_most, .int x_this_many, .int x_this_few, .int x_this_everHome, .ref h_this_offThen, .ref h_this_paidThen, .int x_this_firstFit, .ref h_this_rows, .int x_this_rowMany, .ref h_this_sorts, .ref h_this_sizes, .ref h_this_number, .ref h_this_holds, .ref h_this_heldOne, .ref h_this_trace, .int x_this_traced, .int x_this_own, .int x_this_isParted]), (h_this_number, ia G 160 f_this_number), (h_this_sizes, ia G 4 f_this_sizes), (h_this_sorts, ia G 4 g_this_sorts)] [(0, .ref h_this), (1, .int p0)] := by
    intro s1 s2 g_this_sorts hf
    unfold f_X9_sheet_b60 at hf
    refine hK1 _ _ _ _ (fun H locs ls h hl => ?_)
    replace hf := chkI_inv hf
    obtain ⟨hi11, hf⟩ := hf
    refine r_iast (ws' := [(h_this, ob 9 [.ref h_this_s, .ref h_this_kept, .ref h_this_laid, .int x_this_isKept, .ref h_this_pile, .ref h_this_tape, .int x_this_taped, .ref h_this_letters, .int x_this_at, .int x_this_begun, .int x_this_token, .int x_this_value, .int x_this_opened, .int x_this_steps, .ref h_this_code0, .ref h_this_read, .ref h_this_saved, .ref h_this_plan, .ref h_this_bestPlan, .int x_this_most, .int x_this_many, .int x_this_few, .int x_this_everHome, .ref h_this_offThen, .ref h_this_paidThen, .int x_this_firstFit, .ref h_this_rows, .int x_this_rowMany, .ref h_this_sorts, .ref h_this_sizes, .ref h_this_number, .ref h_this_holds, .ref h_this_heldOne, .ref h_this_trace, .int x_this_traced, .int x_this_own, .int x_this_isParted]), (h_this_number, ia G 160 f_this_number), (h_this_sizes, ia G 4 (upd f_this_sizes s1.toNatClampNeg s2)), (h_this_sorts, ia G 4 g_this_sorts)]) C h 2 rfl hi11 dX9_sheet_60 rfl (fun H locs h => ?_)
    refine lv_iconst (v := (0 : Int32)) hx hb dX9_sheet_61 rfl ?_
    refine lv_istore (lv' := [(4, .int (0 : Int32)), (0, .ref h_this), (1, .int p0)]) hx hb dX9_sheet_62 hl (by decide) rfl (fun ls hl => ?_)
    exact hK2 _ _ _ _ (L64 1000 (0 : Int32) f_this_number (upd f_this_sizes s1.toNatClampNeg s2) g_this_sorts hf) _ _ _ h (lv_sub hl [1, 2, 0] rfl)
  have B39 : f_X9_sheet_b39 p0 p1 p2 f_this_number f_this_sizes f_this_sorts = some (r, m_this_number, m_this_sizes, m_this_sorts) → K 39 ([] : List Value) [(h_this, ob 9 [.ref h_this_s, .ref h_this_kept, .ref h_this_laid, .int x_this_isKept, .ref h_this_pile, .ref h_this_tape, .int x_this_taped, .ref h_this_letters, .int x_this_at, .int x_this_begun, .int x_this_token, .int x_this_value, .int x_this_opened, .int x_this_steps, .ref h_this_code0, .ref h_this_read, .ref h_this_saved, .ref h_this_plan, .ref h_this_bestPlan, .int x_this_most, .int x_this_many, .int x_this_few, .int x_this_everHome, .ref h_this_offThen, .ref h_this_paidThen, .int x_this_firstFit, .ref h_this_rows, .int x_this_rowMany, .ref h_this_sorts, .ref h_this_sizes, .ref h_this_number, .ref h_this_holds, .ref h_this_heldOne, .ref h_this_trace, .int x_this_traced, .int x_this_own, .int x_this_isParted]), (h_this_number, ia G 160 f_this_number), (h_this_sizes, ia G 4 f_this_sizes), (h_this_sorts, ia G 4 f_this_sorts)] [(0, .ref h_this), (1, .int p0), (2, .int p1), (3, .int p2)] := by
    intro hf
    unfold f_X9_sheet_b39 at hf
    refine hK1 _ _ _ _ (fun H locs ls h hl => ?_)
    refine lv_aload_n hx hb dX9_sheet_39 rfl (lv_at hl 0 rfl) ?_
    refine r_get C h fk_X9_53 0 rfl rfl dX9_sheet_40 ?_
    refine lv_iload_n hx hb dX9_sheet_43 rfl (lv_at hl 1 rfl) ?_
    refine lv_iload_n hx hb dX9_sheet_44 rfl (lv_at hl 2 rfl) ?_
    replace hf := chkI_inv hf
    obtain ⟨hi9, hf⟩ := hf
    refine r_iast (ws' := [(h_this, ob 9 [.ref h_this_s, .ref h_this_kept, .ref h_this_laid, .int x_this_isKept, .ref h_this_pile, .ref h_this_tape, .int x_this_taped, .ref h_this_letters, .int x_this_at, .int x_this_begun, .int x_this_token, .int x_this_value, .int x_this_opened, .int x_this_steps, .ref h_this_code0, .ref h_this_read, .ref h_this_saved, .ref h_this_plan, .ref h_this_bestPlan, .int x_this_most, .int x_this_many, .int x_this_few, .int x_this_everHome, .ref h_this_offThen, .ref h_this_paidThen, .int x_this_firstFit, .ref h_this_rows, .int x_this_rowMany, .ref h_this_sorts, .ref h_this_sizes, .ref h_this_number, .ref h_this_holds, .ref h_this_heldOne, .ref h_this_trace, .int x_this_traced, .int x_this_own, .int x_this_isParted]), (h_this_number, ia G 160 f_this_number), (h_this_sizes, ia G 4 f_this_sizes), (h_this_sorts, ia G 4 (upd f_this_sorts p0.toNatClampNeg p1))]) C h 3 rfl hi9 dX9_sheet_45 rfl (fun H locs h => ?_)
    refine lv_aload_n hx hb dX9_sheet_46 rfl (lv_at hl 0 rfl) ?_
    refine r_get C h fk_X9_56 0 rfl rfl dX9_sheet_47 ?_
    refine lv_iload_n hx hb dX9_sheet_50 rfl (lv_at hl 1 rfl) ?_
    refine lv_iload_n hx hb dX9_sheet_51 rfl (lv_at hl 2 rfl) ?_
    refine lv_if_ge (tgt := 59) hx hb dX9_sheet_52 rfl (fun c10 => ?_) (fun c10 => ?_)
    · replace hf := ifp c10 hf
      refine lv_iload_n hx hb dX9_sheet_59 rfl (lv_at hl 3 rfl) ?_
      exact hK2 _ _ _ _ (B60 p0 p2 (upd f_this_sorts p0.toNatClampNeg p1) hf) _ _ _ h (lv_sub hl [0, 1] rfl)
    · replace hf := ifn c10 hf
      refine lv_iconst (v := (0 : Int32)) hx hb dX9_sheet_55 rfl ?_
      refine lv_goto (tgt := 60) hx hb dX9_sheet_56 rfl ?_
      exact hK2 _ _ _ _ (B60 p0 (0 : Int32) (upd f_this_sorts p0.toNatClampNeg p1) hf) _ _ _ h (lv_sub hl [0, 1] rfl)
  have B28 : f_X9_sheet_b28 p0 p1 p2 f_this_number f_this_sizes f_this_sorts = some (r, m_this_number, m_this_sizes, m_this_sorts) → K 28 ([] : List Value) [(h_this, ob 9 [.ref h_this_s, .ref h_this_kept, .ref h_this_laid, .int x_this_isKept, .ref h_this_pile, .ref h_this_tape, .int x_this_taped, .ref h_this_letters, .int x_this_at, .int x_this_begun, .int x_this_token, .int x_this_value, .int x_this_opened, .int x_this_steps, .ref h_this_code0, .ref h_this_read, .ref h_this_saved, .ref h_this_plan, .ref h_this_bestPlan, .int x_this_most, .int x_this_many, .int x_this_few, .int x_this_everHome, .ref h_this_offThen, .ref h_this_paidThen, .int x_this_firstFit, .ref h_this_rows, .int x_this_rowMany, .ref h_this_sorts, .ref h_this_sizes, .ref h_this_number, .ref h_this_holds, .ref h_this_heldOne, .ref h_this_trace, .int x_this_traced, .int x_this_own, .int x_this_isParted]), (h_this_number, ia G 160 f_this_number), (h_this_sizes, ia G 4 f_this_sizes), (h_this_sorts, ia G 4 f_this_sorts)] [(0, .ref h_this), (1, .int p0), (2, .int p1), (3, .int p2)] := by
    intro hf
    unfold f_X9_sheet_b28 at hf
    refine hK1 _ _ _ _ (fun H locs ls h hl => ?_)
    refine lv_iload_n hx hb dX9_sheet_28 rfl (lv_at hl 2 rfl) ?_
    refine lv_if_lt (tgt := 39) hx hb dX9_sheet_29 rfl (fun c8 => ?_) (fun c8 => ?_)
    · replace hf := ifp c8 hf
      exact hK2 _ _ _ _ (B39 hf) _ _ _ h (lv_sub hl [0, 1, 2, 3] rfl)
    · replace hf := ifn c8 hf
      refine lv_iload_n hx hb dX9_sheet_32 rfl (lv_at hl 3 rfl) ?_
      refine lv_if_ge (tgt := 39) hx hb dX9_sheet_33 rfl (fun c15 => ?_) (fun c15 => ?_)
      · replace hf := ifp c15 hf
        exact hK2 _ _ _ _ (B39 hf) _ _ _ h (lv_sub hl [0, 1, 2, 3] rfl)
      · replace hf := ifn c15 hf
        refine lv_bipush (v := (-14 : Int32)) hx hb dX9_sheet_36 rfl ?_
        cases hf
        exact r_iret C h hr hlk rfl dX9_sheet_38
  refine lv_iload_n hx hb dX9_sheet_0 rfl (lv_at hl 1 rfl) ?_
  replace hf := bd1_inv hf
  obtain ⟨r1, hc2, hf⟩ := hf
  refine r_ciS0 C h (c_X9_isSheet hc2) ms_X9_329 rfl [] rfl rfl hl.1 rfl (Nat.le_of_ble_eq_true rfl) (rok (by decide)) dX9_sheet_1 (fun H locs h => ?_)
  refine lv_if_eq (tgt := 26) hx hb dX9_sheet_4 rfl (fun c3 => ?_) (fun c3 => ?_)
  · replace hf := ifp c3 hf
    refine lv_iconst (v := (-1 : Int32)) hx hb dX9_sheet_26 rfl ?_
    cases hf
    exact r_iret C h hr hlk rfl dX9_sheet_27
  · replace hf := ifn c3 hf
    refine lv_iload_n hx hb dX9_sheet_7 rfl (lv_at hl 2 rfl) ?_
    refine lv_iconst (v := (-1 : Int32)) hx hb dX9_sheet_8 rfl ?_
    refine lv_iconst (v := (4 : Int32)) hx hb dX9_sheet_9 rfl ?_
    replace hf := bd1_inv hf
    obtain ⟨r4, hc5, hf⟩ := hf
    refine r_ciS0 C h (c_X9_in1 hc5) ms_X9_71 rfl [] rfl rfl hl.1 rfl (Nat.le_of_ble_eq_true rfl) (rok (by decide)) dX9_sheet_10 (fun H locs h => ?_)
    refine lv_if_eq (tgt := 26) hx hb dX9_sheet_13 rfl (fun c6 => ?_) (fun c6 => ?_)
    · replace hf := ifp c6 hf
      refine lv_iconst (v := (-1 : Int32)) hx hb dX9_sheet_26 rfl ?_
      cases hf
      exact r_iret C h hr hlk rfl dX9_sheet_27
    · replace hf := ifn c6 hf
      refine lv_iload_n hx hb dX9_sheet_16 rfl (lv_at hl 2 rfl) ?_
      refine lv_if_lt (tgt := 28) hx hb dX9_sheet_17 rfl (fun c7 => ?_) (fun c7 => ?_)
      · replace hf := ifp c7 hf
        exact hK2 _ _ _ _ (B28 hf) _ _ _ h (lv_sub hl [0, 1, 2, 3] rfl)
      · replace hf := ifn c7 hf
        refine lv_iload_n hx hb dX9_sheet_20 rfl (lv_at hl 3 rfl) ?_
        refine lv_bipush (v := (40 : Int32)) hx hb dX9_sheet_21 rfl ?_
        refine lv_icmp_le (tgt := 28) hx hb dX9_sheet_23 rfl (fun c16 => ?_) (fun c16 => ?_)
        · replace hf := ifp c16 hf
          exact hK2 _ _ _ _ (B28 hf) _ _ _ h (lv_sub hl [0, 1, 2, 3] rfl)
        · replace hf := ifn c16 hf
          refine lv_iconst (v := (-1 : Int32)) hx hb dX9_sheet_26 rfl ?_
          cases hf
          exact r_iret C h hr hlk rfl dX9_sheet_27
def f_X9_narrowed (p0 : Int32) (p1 : Int32) : Option (Int32) := (if p1 = 0 then some (p0.toInt8.toInt32) else (if p1 = (1 : Int32) then some (p0.toInt16.toInt32) else (if p1 = (4 : Int32) then (if p0 = 0 then some (0 : Int32) else some (1 : Int32)) else some p0)))
set_option maxRecDepth 100000 in
set_option maxHeartbeats 4000000 in
theorem c_X9_narrowed {l : Launch} {G : Gt} {p0 : Int32} {p1 : Int32} {r : Int32} (hf : f_X9_narrowed p0 p1 = some r) : mFi l G yX9_narrowed cX9_narrowed 2 .int 0 [.int p0, .int p1] ([] : va_W) r ([] : va_W) := by
  refine mFi.of (by decide +kernel) (Nat.le_of_ble_eq_true rfl) ?_
  intro p e s m below meth c A C hr hlk h ls hl
  obtain ⟨hx, hb, hml, hown, hts⟩ := id C
  replace hl : lv_has ls 2 [(0, .int p0), (1, .int p1)] := hl
  unfold f_X9_narrowed at hf
  refine lv_iload_n hx hb dX9_narrowed_0 rfl (lv_at hl 1 rfl) ?_
  refine lv_if_ne (tgt := 9) hx hb dX9_narrowed_1 rfl (fun c1 => ?_) (fun c1 => ?_)
  · replace hf := ifn c1 hf
    refine lv_iload_n hx hb dX9_narrowed_9 rfl (lv_at hl 1 rfl) ?_
    refine lv_iconst (v := (1 : Int32)) hx hb dX9_narrowed_10 rfl ?_
    refine lv_icmp_ne (tgt := 19) hx hb dX9_narrowed_11 rfl (fun c2 => ?_) (fun c2 => ?_)
    · replace hf := ifn c2 hf
      refine lv_iload_n hx hb dX9_narrowed_19 rfl (lv_at hl 1 rfl) ?_
      refine lv_iconst (v := (4 : Int32)) hx hb dX9_narrowed_20 rfl ?_
      refine lv_icmp_ne (tgt := 36) hx hb dX9_narrowed_21 rfl (fun c3 => ?_) (fun c3 => ?_)
      · replace hf := ifn c3 hf
        refine lv_iload_n hx hb dX9_narrowed_36 rfl (lv_at hl 0 rfl) ?_
        cases hf
        exact r_iret C h hr hlk rfl dX9_narrowed_37
      · replace hf := ifp c3 hf
        refine lv_iload_n hx hb dX9_narrowed_24 rfl (lv_at hl 0 rfl) ?_
        refine lv_if_eq (tgt := 32) hx hb dX9_narrowed_25 rfl (fun c4 => ?_) (fun c4 => ?_)
        · replace hf := ifp c4 hf
          refine lv_iconst (v := (0 : Int32)) hx hb dX9_narrowed_32 rfl ?_
          refine lv_goto (tgt := 37) hx hb dX9_narrowed_33 rfl ?_
          cases hf
          exact r_iret C h hr hlk rfl dX9_narrowed_37
        · replace hf := ifn c4 hf
          refine lv_iconst (v := (1 : Int32)) hx hb dX9_narrowed_28 rfl ?_
          refine lv_goto (tgt := 37) hx hb dX9_narrowed_29 rfl ?_
          cases hf
          exact r_iret C h hr hlk rfl dX9_narrowed_37
    · replace hf := ifp c2 hf
      refine lv_iload_n hx hb dX9_narrowed_14 rfl (lv_at hl 0 rfl) ?_
      refine lv_i2s hx hb dX9_narrowed_15 rfl ?_
      refine lv_goto (tgt := 37) hx hb dX9_narrowed_16 rfl ?_
      cases hf
      exact r_iret C h hr hlk rfl dX9_narrowed_37
  · replace hf := ifp c1 hf
    refine lv_iload_n hx hb dX9_narrowed_4 rfl (lv_at hl 0 rfl) ?_
    refine lv_i2b hx hb dX9_narrowed_5 rfl ?_
    refine lv_goto (tgt := 37) hx hb dX9_narrowed_6 rfl ?_
    cases hf
    exact r_iret C h hr hlk rfl dX9_narrowed_37
def f_X9_write (p0 : Int32) (p1 : Int32) (p2 : Int32) (f_this_number : Nat → Int32) (f_this_sizes : Nat → Int32) (f_this_sorts : Nat → Int32) : Option (Int32 × (Nat → Int32)) := bd1 (f_X9_isSheet p0) (fun r1 => (if r1 = 0 then some ((-1 : Int32), f_this_number) else chkI p0 4 ((if 0 ≤ (f_this_sorts p0.toNatClampNeg) then chkI p0 4 (bd1 (f_X9_in1 p1 (0 : Int32) ((f_this_sizes p0.toNatClampNeg) - (1 : Int32))) (fun r7 => (if r7 = 0 then some ((-12 : Int32), f_this_number) else chkI p0 4 (bd1 (f_X9_narrowed p2 (f_this_sorts p0.toNatClampNeg)) (fun r11 => chkI (((40 : Int32) * p0) + p1) 160 (some ((1 : Int32), upd f_this_number (((40 : Int32) * p0) + p1).toNatClampNeg r11))))))) else some ((-11 : Int32), f_this_number)))))
set_option maxRecDepth 100000 in
set_option maxHeartbeats 4000000 in
theorem c_X9_write {l : Launch} {G : Gt} {h_this h_this_s h_this_kept h_this_laid h_this_pile h_this_tape h_this_letters h_this_code0 h_this_read h_this_saved h_this_plan h_this_bestPlan h_this_offThen h_this_paidThen h_this_rows h_this_sorts h_this_sizes h_this_number h_this_holds h_this_heldOne h_this_trace : Nat} {p0 : Int32} {p1 : Int32} {p2 : Int32} {x_this_isKept : Int32} {x_this_taped : Int32} {x_this_at : Int32} {x_this_begun : Int32} {x_this_token : Int32} {x_this_value : Int32} {x_this_opened : Int32} {x_this_steps : Int32} {x_this_most : Int32} {x_this_many : Int32} {x_this_few : Int32} {x_this_everHome : Int32} {x_this_firstFit : Int32} {x_this_rowMany : Int32} {x_this_traced : Int32} {x_this_own : Int32} {x_this_isParted : Int32} {f_this_number : Nat → Int32} {f_this_sizes : Nat → Int32} {f_this_sorts : Nat → Int32} {r : Int32} {m_this_number : Nat → Int32} (hf : f_X9_write p0 p1 p2 f_this_number f_this_sizes f_this_sorts = some (r, m_this_number)) : mFi l G yX9_write cX9_write 4 .int 2 [.ref h_this, .int p0, .int p1, .int p2] [(h_this, ob 9 [.ref h_this_s, .ref h_this_kept, .ref h_this_laid, .int x_this_isKept, .ref h_this_pile, .ref h_this_tape, .int x_this_taped, .ref h_this_letters, .int x_this_at, .int x_this_begun, .int x_this_token, .int x_this_value, .int x_this_opened, .int x_this_steps, .ref h_this_code0, .ref h_this_read, .ref h_this_saved, .ref h_this_plan, .ref h_this_bestPlan, .int x_this_most, .int x_this_many, .int x_this_few, .int x_this_everHome, .ref h_this_offThen, .ref h_this_paidThen, .int x_this_firstFit, .ref h_this_rows, .int x_this_rowMany, .ref h_this_sorts, .ref h_this_sizes, .ref h_this_number, .ref h_this_holds, .ref h_this_heldOne, .ref h_this_trace, .int x_this_traced, .int x_this_own, .int x_this_isParted]), (h_this_number, ia G 160 f_this_number), (h_this_sizes, ia G 4 f_this_sizes), (h_this_sorts, ia G 4 f_this_sorts)] r [(h_this, ob 9 [.ref h_this_s, .ref h_this_kept, .ref h_this_laid, .int x_this_isKept, .ref h_this_pile, .ref h_this_tape, .int x_this_taped, .ref h_this_letters, .int x_this_at, .int x_this_begun, .int x_this_token, .int x_this_value, .int x_this_opened, .int x_this_steps, .ref h_this_code0, .ref h_this_read, .ref h_this_saved, .ref h_this_plan, .ref h_this_bestPlan, .int x_this_most, .int x_this_many, .int x_this_few, .int x_this_everHome, .ref h_this_offThen, .ref h_this_paidThen, .int x_this_firstFit, .ref h_this_rows, .int x_this_rowMany, .ref h_this_sorts, .ref h_this_sizes, .ref h_this_number, .ref h_this_holds, .ref h_this_heldOne, .ref h_this_trace, .int x_this_traced, .int x_this_own, .int x_this_isParted]), (h_this_number, ia G 160 m_this_number), (h_this_sizes, ia G 4 f_this_sizes), (h_this_sorts, ia G 4 f_this_sorts)] := by
  refine mFi.of (by decide +kernel) (Nat.le_of_ble_eq_true rfl) ?_
  intro p e s m below meth c A C hr hlk h ls hl
  obtain ⟨hx, hb, hml, hown, hts⟩ := id C
  replace hl : lv_has ls 4 [(0, .ref h_this), (1, .int p0), (2, .int p1), (3, .int p2)] := hl
  unfold f_X9_write at hf
  refine lv_iload_n hx hb dX9_write_0 rfl (lv_at hl 1 rfl) ?_
  replace hf := bd1_inv hf
  obtain ⟨r1, hc2, hf⟩ := hf
  refine r_ciS0 C h (c_X9_isSheet hc2) ms_X9_329 rfl [] rfl rfl hl.1 rfl (Nat.le_of_ble_eq_true rfl) (rok (by decide)) dX9_write_1 (fun H locs h => ?_)
  refine lv_if_ne (tgt := 9) hx hb dX9_write_4 rfl (fun c3 => ?_) (fun c3 => ?_)
  · replace hf := ifn c3 hf
    refine lv_aload_n hx hb dX9_write_9 rfl (lv_at hl 0 rfl) ?_
    refine r_get C h fk_X9_53 0 rfl rfl dX9_write_10 ?_
    refine lv_iload_n hx hb dX9_write_13 rfl (lv_at hl 1 rfl) ?_
    replace hf := chkI_inv hf
    obtain ⟨hi4, hf⟩ := hf
    refine r_iald C h 3 rfl hi4 dX9_write_14 ?_
    refine lv_if_ge (tgt := 21) hx hb dX9_write_15 rfl (fun c5 => ?_) (fun c5 => ?_)
    · replace hf := ifp c5 hf
      refine lv_iload_n hx hb dX9_write_21 rfl (lv_at hl 2 rfl) ?_
      refine lv_iconst (v := (0 : Int32)) hx hb dX9_write_22 rfl ?_
      refine lv_aload_n hx hb dX9_write_23 rfl (lv_at hl 0 rfl) ?_
      refine r_get C h fk_X9_56 0 rfl rfl dX9_write_24 ?_
      refine lv_iload_n hx hb dX9_write_27 rfl (lv_at hl 1 rfl) ?_
      replace hf := chkI_inv hf
      obtain ⟨hi6, hf⟩ := hf
      refine r_iald C h 2 rfl hi6 dX9_write_28 ?_
      refine lv_iconst (v := (1 : Int32)) hx hb dX9_write_29 rfl ?_
      refine lv_isub hx hb dX9_write_30 ?_
      replace hf := bd1_inv hf
      obtain ⟨r7, hc8, hf⟩ := hf
      refine r_ciS0 C h (c_X9_in1 hc8) ms_X9_71 rfl [] rfl rfl hl.1 rfl (Nat.le_of_ble_eq_true rfl) (rok (by decide)) dX9_write_31 (fun H locs h => ?_)
      refine lv_if_ne (tgt := 40) hx hb dX9_write_34 rfl (fun c9 => ?_) (fun c9 => ?_)
      · replace hf := ifn c9 hf
        refine lv_aload_n hx hb dX9_write_40 rfl (lv_at hl 0 rfl) ?_
        refine r_get C h fk_X9_59 0 rfl rfl dX9_write_41 ?_
        refine lv_bipush (v := (40 : Int32)) hx hb dX9_write_44 rfl ?_
        refine lv_iload_n hx hb dX9_write_46 rfl (lv_at hl 1 rfl) ?_
        refine lv_imul hx hb dX9_write_47 ?_
        refine lv_iload_n hx hb dX9_write_48 rfl (lv_at hl 2 rfl) ?_
        refine lv_iadd hx hb dX9_write_49 ?_
        refine lv_iload_n hx hb dX9_write_50 rfl (lv_at hl 3 rfl) ?_
        refine lv_aload_n hx hb dX9_write_51 rfl (lv_at hl 0 rfl) ?_
        refine r_get C h fk_X9_53 0 rfl rfl dX9_write_52 ?_
        refine lv_iload_n hx hb dX9_write_55 rfl (lv_at hl 1 rfl) ?_
        replace hf := chkI_inv hf
        obtain ⟨hi10, hf⟩ := hf
        refine r_iald C h 3 rfl hi10 dX9_write_56 ?_
        replace hf := bd1_inv hf
        obtain ⟨r11, hc12, hf⟩ := hf
        refine r_ciS0 C h (c_X9_narrowed hc12) ms_X9_332 rfl [] rfl rfl hl.1 rfl (Nat.le_of_ble_eq_true rfl) (rok (by decide)) dX9_write_57 (fun H locs h => ?_)
        replace hf := chkI_inv hf
        obtain ⟨hi13, hf⟩ := hf
        refine r_iast (ws' := [(h_this, ob 9 [.ref h_this_s, .ref h_this_kept, .ref h_this_laid, .int x_this_isKept, .ref h_this_pile, .ref h_this_tape, .int x_this_taped, .ref h_this_letters, .int x_this_at, .int x_this_begun, .int x_this_token, .int x_this_value, .int x_this_opened, .int x_this_steps, .ref h_this_code0, .ref h_this_read, .ref h_this_saved, .ref h_this_plan, .ref h_this_bestPlan, .int x_this_most, .int x_this_many, .int x_this_few, .int x_this_everHome, .ref h_this_offThen, .ref h_this_paidThen, .int x_this_firstFit, .ref h_this_rows, .int x_this_rowMany, .ref h_this_sorts, .ref h_this_sizes, .ref h_this_number, .ref h_this_holds, .ref h_this_heldOne, .ref h_this_trace, .int x_this_traced, .int x_this_own, .int x_this_isParted]), (h_this_number, ia G 160 (upd f_this_number (((40 : Int32) * p0) + p1).toNatClampNeg r11)), (h_this_sizes, ia G 4 f_this_sizes), (h_this_sorts, ia G 4 f_this_sorts)]) C h 1 rfl hi13 dX9_write_60 rfl (fun H locs h => ?_)
        refine lv_iconst (v := (1 : Int32)) hx hb dX9_write_61 rfl ?_
        cases hf
        exact r_iret C h hr hlk rfl dX9_write_62
      · replace hf := ifp c9 hf
        refine lv_bipush (v := (-12 : Int32)) hx hb dX9_write_37 rfl ?_
        cases hf
        exact r_iret C h hr hlk rfl dX9_write_39
    · replace hf := ifn c5 hf
      refine lv_bipush (v := (-11 : Int32)) hx hb dX9_write_18 rfl ?_
      cases hf
      exact r_iret C h hr hlk rfl dX9_write_20
  · replace hf := ifp c3 hf
    refine lv_iconst (v := (-1 : Int32)) hx hb dX9_write_7 rfl ?_
    cases hf
    exact r_iret C h hr hlk rfl dX9_write_8
def f_X9_lacks (p0 : Int32) (p1 : Int32) (f_this_sorts : Nat → Int32) : Option (Int32) := chkI p0 4 ((if 0 ≤ (f_this_sorts p0.toNatClampNeg) then chkI p0 4 ((if (f_this_sorts p0.toNatClampNeg) = p1 then some (0 : Int32) else some (-13 : Int32))) else some (-11 : Int32)))
set_option maxRecDepth 100000 in
set_option maxHeartbeats 4000000 in
theorem c_X9_lacks {l : Launch} {G : Gt} {h_this h_this_s h_this_kept h_this_laid h_this_pile h_this_tape h_this_letters h_this_code0 h_this_read h_this_saved h_this_plan h_this_bestPlan h_this_offThen h_this_paidThen h_this_rows h_this_sorts h_this_sizes h_this_number h_this_holds h_this_heldOne h_this_trace : Nat} {p0 : Int32} {p1 : Int32} {x_this_isKept : Int32} {x_this_taped : Int32} {x_this_at : Int32} {x_this_begun : Int32} {x_this_token : Int32} {x_this_value : Int32} {x_this_opened : Int32} {x_this_steps : Int32} {x_this_most : Int32} {x_this_many : Int32} {x_this_few : Int32} {x_this_everHome : Int32} {x_this_firstFit : Int32} {x_this_rowMany : Int32} {x_this_traced : Int32} {x_this_own : Int32} {x_this_isParted : Int32} {f_this_sorts : Nat → Int32} {r : Int32} (hf : f_X9_lacks p0 p1 f_this_sorts = some r) : mFi l G yX9_lacks cX9_lacks 3 .int 0 [.ref h_this, .int p0, .int p1] [(h_this, ob 9 [.ref h_this_s, .ref h_this_kept, .ref h_this_laid, .int x_this_isKept, .ref h_this_pile, .ref h_this_tape, .int x_this_taped, .ref h_this_letters, .int x_this_at, .int x_this_begun, .int x_this_token, .int x_this_value, .int x_this_opened, .int x_this_steps, .ref h_this_code0, .ref h_this_read, .ref h_this_saved, .ref h_this_plan, .ref h_this_bestPlan, .int x_this_most, .int x_this_many, .int x_this_few, .int x_this_everHome, .ref h_this_offThen, .ref h_this_paidThen, .int x_this_firstFit, .ref h_this_rows, .int x_this_rowMany, .ref h_this_sorts, .ref h_this_sizes, .ref h_this_number, .ref h_this_holds, .ref h_this_heldOne, .ref h_this_trace, .int x_this_traced, .int x_this_own, .int x_this_isParted]), (h_this_sorts, ia G 4 f_this_sorts)] r [(h_this, ob 9 [.ref h_this_s, .ref h_this_kept, .ref h_this_laid, .int x_this_isKept, .ref h_this_pile, .ref h_this_tape, .int x_this_taped, .ref h_this_letters, .int x_this_at, .int x_this_begun, .int x_this_token, .int x_this_value, .int x_this_opened, .int x_this_steps, .ref h_this_code0, .ref h_this_read, .ref h_this_saved, .ref h_this_plan, .ref h_this_bestPlan, .int x_this_most, .int x_this_many, .int x_this_few, .int x_this_everHome, .ref h_this_offThen, .ref h_this_paidThen, .int x_this_firstFit, .ref h_this_rows, .int x_this_rowMany, .ref h_this_sorts, .ref h_this_sizes, .ref h_this_number, .ref h_this_holds, .ref h_this_heldOne, .ref h_this_trace, .int x_this_traced, .int x_this_own, .int x_this_isParted]), (h_this_sorts, ia G 4 f_this_sorts)] := by
  refine mFi.of (by decide +kernel) (Nat.le_of_ble_eq_true rfl) ?_
  intro p e s m below meth c A C hr hlk h ls hl
  obtain ⟨hx, hb, hml, hown, hts⟩ := id C
  replace hl : lv_has ls 3 [(0, .ref h_this), (1, .int p0), (2, .int p1)] := hl
  unfold f_X9_lacks at hf
  refine lv_aload_n hx hb dX9_lacks_0 rfl (lv_at hl 0 rfl) ?_
  refine r_get C h fk_X9_53 0 rfl rfl dX9_lacks_1 ?_
  refine lv_iload_n hx hb dX9_lacks_4 rfl (lv_at hl 1 rfl) ?_
  replace hf := chkI_inv hf
  obtain ⟨hi1, hf⟩ := hf
  refine r_iald C h 1 rfl hi1 dX9_lacks_5 ?_
  refine lv_if_ge (tgt := 14) hx hb dX9_lacks_6 rfl (fun c2 => ?_) (fun c2 => ?_)
  · replace hf := ifp c2 hf
    refine lv_aload_n hx hb dX9_lacks_14 rfl (lv_at hl 0 rfl) ?_
    refine r_get C h fk_X9_53 0 rfl rfl dX9_lacks_15 ?_
    refine lv_iload_n hx hb dX9_lacks_18 rfl (lv_at hl 1 rfl) ?_
    replace hf := chkI_inv hf
    obtain ⟨hi3, hf⟩ := hf
    refine r_iald C h 1 rfl hi3 dX9_lacks_19 ?_
    refine lv_iload_n hx hb dX9_lacks_20 rfl (lv_at hl 2 rfl) ?_
    refine lv_icmp_eq (tgt := 29) hx hb dX9_lacks_21 rfl (fun c4 => ?_) (fun c4 => ?_)
    · replace hf := ifp c4 hf
      refine lv_iconst (v := (0 : Int32)) hx hb dX9_lacks_29 rfl ?_
      cases hf
      exact r_iret C h hr hlk rfl dX9_lacks_30
    · replace hf := ifn c4 hf
      refine lv_bipush (v := (-13 : Int32)) hx hb dX9_lacks_24 rfl ?_
      refine lv_goto (tgt := 30) hx hb dX9_lacks_26 rfl ?_
      cases hf
      exact r_iret C h hr hlk rfl dX9_lacks_30
  · replace hf := ifn c2 hf
    refine lv_bipush (v := (-11 : Int32)) hx hb dX9_lacks_9 rfl ?_
    refine lv_goto (tgt := 30) hx hb dX9_lacks_11 rfl ?_
    cases hf
    exact r_iret C h hr hlk rfl dX9_lacks_30
def f_X9_item (p0 : Int32) (p1 : Int32) (p2 : Int32) (f_this_number : Nat → Int32) (f_this_sizes : Nat → Int32) (f_this_sorts : Nat → Int32) : Option (Int32) := bd1 (f_X9_isSheet p0) (fun r1 => (if r1 = 0 then some (-1 : Int32) else bd1 (f_X9_in1 p1 (0 : Int32) (4 : Int32)) (fun r4 => (if r4 = 0 then some (-1 : Int32) else bd1 (f_X9_lacks p0 p1 f_this_sorts) (fun r7 => (if r7 = 0 then chkI p0 4 (bd1 (f_X9_in1 p2 (0 : Int32) ((f_this_sizes p0.toNatClampNeg) - (1 : Int32))) (fun r11 => (if r11 = 0 then some (-12 : Int32) else chkI (((40 : Int32) * p0) + p2) 160 (some (f_this_number (((40 : Int32) * p0) + p2).toNatClampNeg))))) else some r7))))))
set_option maxRecDepth 100000 in
set_option maxHeartbeats 4000000 in
theorem c_X9_item {l : Launch} {G : Gt} {h_this h_this_s h_this_kept h_this_laid h_this_pile h_this_tape h_this_letters h_this_code0 h_this_read h_this_saved h_this_plan h_this_bestPlan h_this_offThen h_this_paidThen h_this_rows h_this_sorts h_this_sizes h_this_number h_this_holds h_this_heldOne h_this_trace : Nat} {p0 : Int32} {p1 : Int32} {p2 : Int32} {x_this_isKept : Int32} {x_this_taped : Int32} {x_this_at : Int32} {x_this_begun : Int32} {x_this_token : Int32} {x_this_value : Int32} {x_this_opened : Int32} {x_this_steps : Int32} {x_this_most : Int32} {x_this_many : Int32} {x_this_few : Int32} {x_this_everHome : Int32} {x_this_firstFit : Int32} {x_this_rowMany : Int32} {x_this_traced : Int32} {x_this_own : Int32} {x_this_isParted : Int32} {f_this_number : Nat → Int32} {f_this_sizes : Nat → Int32} {f_this_sorts : Nat → Int32} {r : Int32} (hf : f_X9_item p0 p1 p2 f_this_number f_this_sizes f_this_sorts = some r) : mFi l G yX9_item cX9_item 5 .int 2 [.ref h_this, .int p0, .int p1, .int p2] [(h_this, ob 9 [.ref h_this_s, .ref h_this_kept, .ref h_this_laid, .int x_this_isKept, .ref h_this_pile, .ref h_this_tape, .int x_this_taped, .ref h_this_letters, .int x_this_at, .int x_this_begun, .int x_this_token, .int x_this_value, .int x_this_opened, .int x_this_steps, .ref h_this_code0, .ref h_this_read, .ref h_this_saved, .ref h_this_plan, .ref h_this_bestPlan, .int x_this_most, .int x_this_many, .int x_this_few, .int x_this_everHome, .ref h_this_offThen, .ref h_this_paidThen, .int x_this_firstFit, .ref h_this_rows, .int x_this_rowMany, .ref h_this_sorts, .ref h_this_sizes, .ref h_this_number, .ref h_this_holds, .ref h_this_heldOne, .ref h_this_trace, .int x_this_traced, .int x_this_own, .int x_this_isParted]), (h_this_number, ia G 160 f_this_number), (h_this_sizes, ia G 4 f_this_sizes), (h_this_sorts, ia G 4 f_this_sorts)] r [(h_this, ob 9 [.ref h_this_s, .ref h_this_kept, .ref h_this_laid, .int x_this_isKept, .ref h_this_pile, .ref h_this_tape, .int x_this_taped, .ref h_this_letters, .int x_this_at, .int x_this_begun, .int x_this_token, .int x_this_value, .int x_this_opened, .int x_this_steps, .ref h_this_code0, .ref h_this_read, .ref h_this_saved, .ref h_this_plan, .ref h_this_bestPlan, .int x_this_most, .int x_this_many, .int x_this_few, .int x_this_everHome, .ref h_this_offThen, .ref h_this_paidThen, .int x_this_firstFit, .ref h_this_rows, .int x_this_rowMany, .ref h_this_sorts, .ref h_this_sizes, .ref h_this_number, .ref h_this_holds, .ref h_this_heldOne, .ref h_this_trace, .int x_this_traced, .int x_this_own, .int x_this_isParted]), (h_this_number, ia G 160 f_this_number), (h_this_sizes, ia G 4 f_this_sizes), (h_this_sorts, ia G 4 f_this_sorts)] := by
  refine mFi.of (by decide +kernel) (Nat.le_of_ble_eq_true rfl) ?_
  intro p e s m below meth c A C hr hlk h ls hl
  obtain ⟨hx, hb, hml, hown, hts⟩ := id C
  replace hl : lv_has ls 5 [(0, .ref h_this), (1, .int p0), (2, .int p1), (3, .int p2)] := hl
  unfold f_X9_item at hf
  refine lv_iload_n hx hb dX9_item_0 rfl (lv_at hl 1 rfl) ?_
  replace hf := bd1_inv hf
  obtain ⟨r1, hc2, hf⟩ := hf
  refine r_ciS0 C h (c_X9_isSheet hc2) ms_X9_329 rfl [] rfl rfl hl.1 rfl (Nat.le_of_ble_eq_true rfl) (rok (by decide)) dX9_item_1 (fun H locs h => ?_)
  refine lv_if_eq (tgt := 16) hx hb dX9_item_4 rfl (fun c3 => ?_) (fun c3 => ?_)
  · replace hf := ifp c3 hf
    refine lv_iconst (v := (-1 : Int32)) hx hb dX9_item_16 rfl ?_
    cases hf
    exact r_iret C h hr hlk rfl dX9_item_17
  · replace hf := ifn c3 hf
    refine lv_iload_n hx hb dX9_item_7 rfl (lv_at hl 2 rfl) ?_
    refine lv_iconst (v := (0 : Int32)) hx hb dX9_item_8 rfl ?_
    refine lv_iconst (v := (4 : Int32)) hx hb dX9_item_9 rfl ?_
    replace hf := bd1_inv hf
    obtain ⟨r4, hc5, hf⟩ := hf
    refine r_ciS0 C h (c_X9_in1 hc5) ms_X9_71 rfl [] rfl rfl hl.1 rfl (Nat.le_of_ble_eq_true rfl) (rok (by decide)) dX9_item_10 (fun H locs h => ?_)
    refine lv_if_ne (tgt := 18) hx hb dX9_item_13 rfl (fun c6 => ?_) (fun c6 => ?_)
    · replace hf := ifn c6 hf
      refine lv_aload_n hx hb dX9_item_18 rfl (lv_at hl 0 rfl) ?_
      refine lv_iload_n hx hb dX9_item_19 rfl (lv_at hl 1 rfl) ?_
      refine lv_iload_n hx hb dX9_item_20 rfl (lv_at hl 2 rfl) ?_
      replace hf := bd1_inv hf
      obtain ⟨r7, hc8, hf⟩ := hf
      refine r_ciV0 C h (c_X9_lacks hc8) mv_X9_335 rfl 0 rfl [0, 3] rfl rfl hl.1 rfl (Nat.le_of_ble_eq_true rfl) (rok (by decide)) dX9_item_21 (fun H locs h => ?_)
      refine lv_istore (lv' := [(4, .int r7), (0, .ref h_this), (1, .int p0), (2, .int p1), (3, .int p2)]) hx hb dX9_item_24 hl (by decide) rfl (fun ls hl => ?_)
      refine lv_iload hx hb dX9_item_26 (lv_at hl 0 rfl) ?_
      refine lv_if_eq (tgt := 36) hx hb dX9_item_28 rfl (fun c9 => ?_) (fun c9 => ?_)
      · replace hf := ifp c9 hf
        refine lv_iload_n hx hb dX9_item_36 rfl (lv_at hl 4 rfl) ?_
        refine lv_iconst (v := (0 : Int32)) hx hb dX9_item_37 rfl ?_
        refine lv_aload_n hx hb dX9_item_38 rfl (lv_at hl 1 rfl) ?_
        refine r_get C h fk_X9_56 0 rfl rfl dX9_item_39 ?_
        refine lv_iload_n hx hb dX9_item_42 rfl (lv_at hl 2 rfl) ?_
        replace hf := chkI_inv hf
        obtain ⟨hi10, hf⟩ := hf
        refine r_iald C h 2 rfl hi10 dX9_item_43 ?_
        refine lv_iconst (v := (1 : Int32)) hx hb dX9_item_44 rfl ?_
        refine lv_isub hx hb dX9_item_45 ?_
        replace hf := bd1_inv hf
        obtain ⟨r11, hc12, hf⟩ := hf
        refine r_ciS0 C h (c_X9_in1 hc12) ms_X9_71 rfl [] rfl rfl hl.1 rfl (Nat.le_of_ble_eq_true rfl) (rok (by decide)) dX9_item_46 (fun H locs h => ?_)
        refine lv_if_eq (tgt := 66) hx hb dX9_item_49 rfl (fun c13 => ?_) (fun c13 => ?_)
        · replace hf := ifp c13 hf
          refine lv_bipush (v := (-12 : Int32)) hx hb dX9_item_66 rfl ?_
          cases hf
          exact r_iret C h hr hlk rfl dX9_item_68
        · replace hf := ifn c13 hf
          refine lv_aload_n hx hb dX9_item_52 rfl (lv_at hl 1 rfl) ?_
          refine r_get C h fk_X9_59 0 rfl rfl dX9_item_53 ?_
          refine lv_bipush (v := (40 : Int32)) hx hb dX9_item_56 rfl ?_
          refine lv_iload_n hx hb dX9_item_58 rfl (lv_at hl 2 rfl) ?_
          refine lv_imul hx hb dX9_item_59 ?_
          refine lv_iload_n hx hb dX9_item_60 rfl (lv_at hl 4 rfl) ?_
          refine lv_iadd hx hb dX9_item_61 ?_
          replace hf := chkI_inv hf
          obtain ⟨hi14, hf⟩ := hf
          refine r_iald C h 1 rfl hi14 dX9_item_62 ?_
          refine lv_goto (tgt := 68) hx hb dX9_item_63 rfl ?_
          cases hf
          exact r_iret C h hr hlk rfl dX9_item_68
      · replace hf := ifn c9 hf
        refine lv_iload hx hb dX9_item_31 (lv_at hl 0 rfl) ?_
        refine lv_goto (tgt := 68) hx hb dX9_item_33 rfl ?_
        cases hf
        exact r_iret C h hr hlk rfl dX9_item_68
    · replace hf := ifp c6 hf
      refine lv_iconst (v := (-1 : Int32)) hx hb dX9_item_16 rfl ?_
      cases hf
      exact r_iret C h hr hlk rfl dX9_item_17
def f_X9_isItem (p0 : Int32) (p1 : Int32) (p2 : Int32) (f_this_sizes : Nat → Int32) : Option (Int32) := (if p1 < 0 then some (0 : Int32) else chkI p0 4 ((if ((f_this_sizes p0.toNatClampNeg) - p2) ≤ p1 then some (0 : Int32) else some (1 : Int32))))
set_option maxRecDepth 100000 in
set_option maxHeartbeats 4000000 in
theorem c_X9_isItem {l : Launch} {G : Gt} {h_this h_this_s h_this_kept h_this_laid h_this_pile h_this_tape h_this_letters h_this_code0 h_this_read h_this_saved h_this_plan h_this_bestPlan h_this_offThen h_this_paidThen h_this_rows h_this_sorts h_this_sizes h_this_number h_this_holds h_this_heldOne h_this_trace : Nat} {p0 : Int32} {p1 : Int32} {p2 : Int32} {x_this_isKept : Int32} {x_this_taped : Int32} {x_this_at : Int32} {x_this_begun : Int32} {x_this_token : Int32} {x_this_value : Int32} {x_this_opened : Int32} {x_this_steps : Int32} {x_this_most : Int32} {x_this_many : Int32} {x_this_few : Int32} {x_this_everHome : Int32} {x_this_firstFit : Int32} {x_this_rowMany : Int32} {x_this_traced : Int32} {x_this_own : Int32} {x_this_isParted : Int32} {f_this_sizes : Nat → Int32} {r : Int32} (hf : f_X9_isItem p0 p1 p2 f_this_sizes = some r) : mFi l G yX9_isItem cX9_isItem 4 .boolean 0 [.ref h_this, .int p0, .int p1, .int p2] [(h_this, ob 9 [.ref h_this_s, .ref h_this_kept, .ref h_this_laid, .int x_this_isKept, .ref h_this_pile, .ref h_this_tape, .int x_this_taped, .ref h_this_letters, .int x_this_at, .int x_this_begun, .int x_this_token, .int x_this_value, .int x_this_opened, .int x_this_steps, .ref h_this_code0, .ref h_this_read, .ref h_this_saved, .ref h_this_plan, .ref h_this_bestPlan, .int x_this_most, .int x_this_many, .int x_this_few, .int x_this_everHome, .ref h_this_offThen, .ref h_this_paidThen, .int x_this_firstFit, .ref h_this_rows, .int x_this_rowMany, .ref h_this_sorts, .ref h_this_sizes, .ref h_this_number, .ref h_this_holds, .ref h_this_heldOne, .ref h_this_trace, .int x_this_traced, .int x_this_own, .int x_this_isParted]), (h_this_sizes, ia G 4 f_this_sizes)] r [(h_this, ob 9 [.ref h_this_s, .ref h_this_kept, .ref h_this_laid, .int x_this_isKept, .ref h_this_pile, .ref h_this_tape, .int x_this_taped, .ref h_this_letters, .int x_this_at, .int x_this_begun, .int x_this_token, .int x_this_value, .int x_this_opened, .int x_this_steps, .ref h_this_code0, .ref h_this_read, .ref h_this_saved, .ref h_this_plan, .ref h_this_bestPlan, .int x_this_most, .int x_this_many, .int x_this_few, .int x_this_everHome, .ref h_this_offThen, .ref h_this_paidThen, .int x_this_firstFit, .ref h_this_rows, .int x_this_rowMany, .ref h_this_sorts, .ref h_this_sizes, .ref h_this_number, .ref h_this_holds, .ref h_this_heldOne, .ref h_this_trace, .int x_this_traced, .int x_this_own, .int x_this_isParted]), (h_this_sizes, ia G 4 f_this_sizes)] := by
  refine mFi.of (by decide +kernel) (Nat.le_of_ble_eq_true rfl) ?_
  intro p e s m below meth c A C hr hlk h ls hl
  obtain ⟨hx, hb, hml, hown, hts⟩ := id C
  replace hl : lv_has ls 4 [(0, .ref h_this), (1, .int p0), (2, .int p1), (3, .int p2)] := hl
  unfold f_X9_isItem at hf
  refine lv_iload_n hx hb dX9_isItem_0 rfl (lv_at hl 2 rfl) ?_
  refine lv_if_lt (tgt := 20) hx hb dX9_isItem_1 rfl (fun c1 => ?_) (fun c1 => ?_)
  · replace hf := ifp c1 hf
    refine lv_iconst (v := (0 : Int32)) hx hb dX9_isItem_20 rfl ?_
    cases hf
    exact r_iret C h hr hlk rfl dX9_isItem_21
  · replace hf := ifn c1 hf
    refine lv_iload_n hx hb dX9_isItem_4 rfl (lv_at hl 2 rfl) ?_
    refine lv_aload_n hx hb dX9_isItem_5 rfl (lv_at hl 0 rfl) ?_
    refine r_get C h fk_X9_56 0 rfl rfl dX9_isItem_6 ?_
    refine lv_iload_n hx hb dX9_isItem_9 rfl (lv_at hl 1 rfl) ?_
    replace hf := chkI_inv hf
    obtain ⟨hi2, hf⟩ := hf
    refine r_iald C h 1 rfl hi2 dX9_isItem_10 ?_
    refine lv_iload_n hx hb dX9_isItem_11 rfl (lv_at hl 3 rfl) ?_
    refine lv_isub hx hb dX9_isItem_12 ?_
    refine lv_icmp_ge (tgt := 20) hx hb dX9_isItem_13 rfl (fun c3 => ?_) (fun c3 => ?_)
    · replace hf := ifp c3 hf
      refine lv_iconst (v := (0 : Int32)) hx hb dX9_isItem_20 rfl ?_
      cases hf
      exact r_iret C h hr hlk rfl dX9_isItem_21
    · replace hf := ifn c3 hf
      refine lv_iconst (v := (1 : Int32)) hx hb dX9_isItem_16 rfl ?_
      refine lv_goto (tgt := 21) hx hb dX9_isItem_17 rfl ?_
      cases hf
      exact r_iret C h hr hlk rfl dX9_isItem_21
def f_X9_goAll_L41 (p0 : Int32) (p1 : Int32) (p2 : Int32) (f_this_number : Nat → Int32) (f_this_sizes : Nat → Int32) : Nat → Int32 → Int32 → (Nat → Int32) → (Nat → Int32) → Option (Int32 × (Nat → Int32) × (Nat → Int32))
  | 0, _, _, _, _ => none
  | n + 1, v5, v6, g_this_pile, g_this_s => (if p2 ≤ v6 then some (v5, g_this_pile, g_this_s) else bd1 (f_X9_isItem p0 p1 v6 f_this_sizes) (fun r11 => (if r11 = 0 then some ((-12 : Int32), g_this_pile, g_this_s) else chkI ((((40 : Int32) * p0) + p1) + v6) 160 (lt1 (f_this_number ((((40 : Int32) * p0) + p1) + v6).toNatClampNeg) (fun (t15 : Int32) => bd1 (f_X9_isAct t15 g_this_s) (fun r16 => (if r16 = 0 then lt1 (v5 + (0 : Int32)) (fun (t19 : Int32) => lt1 (v6 + (1 : Int32)) (fun (t20 : Int32) => (f_X9_goAll_L41 p0 p1 p2 f_this_number f_this_sizes n) t19 t20 g_this_pile g_this_s)) else bd1 (f_X9_isOver g_this_s) (fun r21 => (if r21 = 0 then bd3 (f_X9_goesBy t15 g_this_pile g_this_s) (fun r26 g27 g28 => lt1 (v5 + r26) (fun (t30 : Int32) => lt1 (v6 + (1 : Int32)) (fun (t31 : Int32) => (f_X9_goAll_L41 p0 p1 p2 f_this_number f_this_sizes n) t30 t31 g27 g28))) else lt1 (v5 + (0 : Int32)) (fun (t24 : Int32) => lt1 (v6 + (1 : Int32)) (fun (t25 : Int32) => (f_X9_goAll_L41 p0 p1 p2 f_this_number f_this_sizes n) t24 t25 g_this_pile g_this_s)))))))))))
def f_X9_goAll (p0 : Int32) (p1 : Int32) (p2 : Int32) (f_this_number : Nat → Int32) (f_this_pile : Nat → Int32) (f_this_s : Nat → Int32) (f_this_sizes : Nat → Int32) (f_this_sorts : Nat → Int32) : Option (Int32 × (Nat → Int32) × (Nat → Int32)) := bd1 (f_X9_isSheet p0) (fun r1 => (if r1 = 0 then some ((-1 : Int32), f_this_pile, f_this_s) else bd1 (f_X9_in1 p2 (0 : Int32) (20 : Int32)) (fun r4 => (if r4 = 0 then some ((-1 : Int32), f_this_pile, f_this_s) else bd1 (f_X9_lacks p0 (0 : Int32) f_this_sorts) (fun r7 => (if r7 = 0 then f_X9_goAll_L41 p0 p1 p2 f_this_number f_this_sizes 1000 (0 : Int32) (0 : Int32) f_this_pile f_this_s else some (r7, f_this_pile, f_this_s)))))))
set_option maxRecDepth 100000 in
set_option maxHeartbeats 4000000 in
theorem c_X9_goAll {l : Launch} {G : Gt} {h_this h_this_s h_this_kept h_this_laid h_this_pile h_this_tape h_this_letters h_this_code0 h_this_read h_this_saved h_this_plan h_this_bestPlan h_this_offThen h_this_paidThen h_this_rows h_this_sorts h_this_sizes h_this_number h_this_holds h_this_heldOne h_this_trace : Nat} {p0 : Int32} {p1 : Int32} {p2 : Int32} {x_this_isKept : Int32} {x_this_taped : Int32} {x_this_at : Int32} {x_this_begun : Int32} {x_this_token : Int32} {x_this_value : Int32} {x_this_opened : Int32} {x_this_steps : Int32} {x_this_most : Int32} {x_this_many : Int32} {x_this_few : Int32} {x_this_everHome : Int32} {x_this_firstFit : Int32} {x_this_rowMany : Int32} {x_this_traced : Int32} {x_this_own : Int32} {x_this_isParted : Int32} {f_this_number : Nat → Int32} {f_this_pile : Nat → Int32} {f_this_s : Nat → Int32} {f_this_sizes : Nat → Int32} {f_this_sorts : Nat → Int32} {r : Int32} {m_this_pile : Nat → Int32} {m_this_s : Nat → Int32} (hf : f_X9_goAll p0 p1 p2 f_this_number f_this_pile f_this_s f_this_sizes f_this_sorts = some (r, m_this_pile, m_this_s)) : mFi l G yX9_goAll cX9_goAll 8 .int 7 [.ref h_this, .int p0, .int p1, .int p2] [(h_this, ob 9 [.ref h_this_s, .ref h_this_kept, .ref h_this_laid, .int x_this_isKept, .ref h_this_pile, .ref h_this_tape, .int x_this_taped, .ref h_this_letters, .int x_this_at, .int x_this_begun, .int x_this_token, .int x_this_value, .int x_this_opened, .int x_this_steps, .ref h_this_code0, .ref h_this_read, .ref h_this_saved, .ref h_this_plan, .ref h_this_bestPlan, .int x_this_most, .int x_this_many, .int x_this_few, .int x_this_everHome, .ref h_this_offThen, .ref h_this_paidThen, .int x_this_firstFit, .ref h_this_rows, .int x_this_rowMany, .ref h_this_sorts, .ref h_this_sizes, .ref h_this_number, .ref h_this_holds, .ref h_this_heldOne, .ref h_this_trace, .int x_this_traced, .int x_this_own, .int x_this_isParted]), (h_this_number, ia G 160 f_this_number), (h_this_pile, ia G 200 f_this_pile), (h_this_s, ia G 313 f_this_s), (h_this_sizes, ia G 4 f_this_sizes), (h_this_sorts, ia G 4 f_this_sorts)] r [(h_this, ob 9 [.ref h_this_s, .ref h_this_kept, .ref h_this_laid, .int x_this_isKept, .ref h_this_pile, .ref h_this_tape, .int x_this_taped, .ref h_this_letters, .int x_this_at, .int x_this_begun, .int x_this_token, .int x_this_value, .int x_this_opened, .int x_this_steps, .ref h_this_code0, .ref h_this_read, .ref h_this_saved, .ref h_this_plan, .ref h_this_bestPlan, .int x_this_most, .int x_this_many, .int x_this_few, .int x_this_everHome, .ref h_this_offThen, .ref h_this_paidThen, .int x_this_firstFit, .ref h_this_rows, .int x_this_rowMany, .ref h_this_sorts, .ref h_this_sizes, .ref h_this_number, .ref h_this_holds, .ref h_this_heldOne, .ref h_this_trace, .int x_this_traced, .int x_this_own, .int x_this_isParted]), (h_this_number, ia G 160 f_this_number), (h_this_pile, ia G 200 m_this_pile), (h_this_s, ia G 313 m_this_s), (h_this_sizes, ia G 4 f_this_sizes), (h_this_sorts, ia G 4 f_this_sorts)] := by
  refine mFi.of (by decide +kernel) (Nat.le_of_ble_eq_true rfl) ?_
  intro p e s m below meth c A C hr hlk h ls hl
  obtain ⟨hx, hb, hml, hown, hts⟩ := id C
  replace hl : lv_has ls 8 [(0, .ref h_this), (1, .int p0), (2, .int p1), (3, .int p2)] := hl
  unfold f_X9_goAll at hf
  refine with_K G A 8 (fun K hK1 hK2 => ?_)
  have L41 : ∀ (n : Nat) (v5 : Int32) (v6 : Int32) (g_this_pile : Nat → Int32) (g_this_s : Nat → Int32), f_X9_goAll_L41 p0 p1 p2 f_this_number f_this_sizes n v5 v6 g_this_pile g_this_s = some (r, m_this_pile, m_this_s) → K 41 ([] : List Value) [(h_this, ob 9 [.ref h_this_s, .ref h_this_kept, .ref h_this_laid, .int x_this_isKept, .ref h_this_pile, .ref h_this_tape, .int x_this_taped, .ref h_this_letters, .int x_this_at, .int x_this_begun, .int x_this_token, .int x_this_value, .int x_this_opened, .int x_this_steps, .ref h_this_code0, .ref h_this_read, .ref h_this_saved, .ref h_this_plan, .ref h_this_bestPlan, .int x_this_most, .int x_this_many, .int x_this_few, .int x_this_everHome, .ref h_this_offThen, .ref h_this_paidThen, .int x_this_firstFit, .ref h_this_rows, .int x_this_rowMany, .ref h_this_sorts, .ref h_this_sizes, .ref h_this_number, .ref h_this_holds, .ref h_this_heldOne, .ref h_this_trace, .int x_this_traced, .int x_this_own, .int x_this_isParted]), (h_this_number, ia G 160 f_this_number), (h_this_pile, ia G 200 g_this_pile), (h_this_s, ia G 313 g_this_s), (h_this_sizes, ia G 4 f_this_sizes), (h_this_sorts, ia G 4 f_this_sorts)] [(0, .ref h_this), (1, .int p0), (2, .int p1), (3, .int p2), (5, .int v5), (6, .int v6)] := by
    intro n
    induction n with
    | zero =>
      intro v5 v6 g_this_pile g_this_s hf
      replace hf : (none : Option _) = some _ := hf
      cases hf
    | succ n ih =>
      intro v5 v6 g_this_pile g_this_s hf
      rw [f_X9_goAll_L41] at hf
      refine hK1 _ _ _ _ (fun H locs ls h hl => ?_)
      refine lv_iload hx hb dX9_goAll_41 (lv_at hl 5 rfl) ?_
      refine lv_iload_n hx hb dX9_goAll_43 rfl (lv_at hl 3 rfl) ?_
      refine lv_icmp_ge (tgt := 114) hx hb dX9_goAll_44 rfl (fun c10 => ?_) (fun c10 => ?_)
      · replace hf := ifp c10 hf
        refine lv_iload hx hb dX9_goAll_114 (lv_at hl 4 rfl) ?_
        cases hf
        exact r_iret C h hr hlk rfl dX9_goAll_116
      · replace hf := ifn c10 hf
        refine lv_aload_n hx hb dX9_goAll_47 rfl (lv_at hl 0 rfl) ?_
        refine lv_iload_n hx hb dX9_goAll_48 rfl (lv_at hl 1 rfl) ?_
        refine lv_iload_n hx hb dX9_goAll_49 rfl (lv_at hl 2 rfl) ?_
        refine lv_iload hx hb dX9_goAll_50 (lv_at hl 5 rfl) ?_
        replace hf := bd1_inv hf
        obtain ⟨r11, hc12, hf⟩ := hf
        refine r_ciV0 C h (c_X9_isItem hc12) mv_X9_338 rfl 0 rfl [0, 4] rfl rfl hl.1 rfl (Nat.le_of_ble_eq_true rfl) (rok (by decide)) dX9_goAll_52 (fun H locs h => ?_)
        refine lv_if_ne (tgt := 61) hx hb dX9_goAll_55 rfl (fun c13 => ?_) (fun c13 => ?_)
        · replace hf := ifn c13 hf
          refine lv_aload_n hx hb dX9_goAll_61 rfl (lv_at hl 0 rfl) ?_
          refine r_get C h fk_X9_59 0 rfl rfl dX9_goAll_62 ?_
          refine lv_bipush (v := (40 : Int32)) hx hb dX9_goAll_65 rfl ?_
          refine lv_iload_n hx hb dX9_goAll_67 rfl (lv_at hl 1 rfl) ?_
          refine lv_imul hx hb dX9_goAll_68 ?_
          refine lv_iload_n hx hb dX9_goAll_69 rfl (lv_at hl 2 rfl) ?_
          refine lv_iadd hx hb dX9_goAll_70 ?_
          refine lv_iload hx hb dX9_goAll_71 (lv_at hl 5 rfl) ?_
          refine lv_iadd hx hb dX9_goAll_73 ?_
          replace hf := chkI_inv hf
          obtain ⟨hi14, hf⟩ := hf
          refine r_iald C h 1 rfl hi14 dX9_goAll_74 ?_
          refine lv_topi (fun t15 et15 => ?_)
          replace hf := lt1_inv et15 hf
          refine lv_istore (lv' := [(7, .int t15), (0, .ref h_this), (1, .int p0), (2, .int p1), (3, .int p2), (5, .int v5), (6, .int v6)]) hx hb dX9_goAll_75 hl (by decide) rfl (fun ls hl => ?_)
          refine lv_iload hx hb dX9_goAll_77 (lv_at hl 5 rfl) ?_
          refine lv_aload_n hx hb dX9_goAll_79 rfl (lv_at hl 1 rfl) ?_
          refine lv_iload hx hb dX9_goAll_80 (lv_at hl 0 rfl) ?_
          replace hf := bd1_inv hf
          obtain ⟨r16, hc17, hf⟩ := hf
          refine r_ciV0 C h (c_X9_isAct hc17) mv_X9_326 rfl 0 rfl [0, 3] rfl rfl hl.1 rfl (Nat.le_of_ble_eq_true rfl) (rok (by decide)) dX9_goAll_82 (fun H locs h => ?_)
          refine lv_if_eq (tgt := 104) hx hb dX9_goAll_85 rfl (fun c18 => ?_) (fun c18 => ?_)
          · replace hf := ifp c18 hf
            refine lv_iconst (v := (0 : Int32)) hx hb dX9_goAll_104 rfl ?_
            refine lv_iadd hx hb dX9_goAll_105 ?_
            refine lv_topi (fun t19 et19 => ?_)
            replace hf := lt1_inv et19 hf
            refine lv_istore (lv' := [(5, .int t19), (7, .int t15), (0, .ref h_this), (1, .int p0), (2, .int p1), (3, .int p2), (6, .int v6)]) hx hb dX9_goAll_106 hl (by decide) rfl (fun ls hl => ?_)
            obtain ⟨t20, et20⟩ : ∃ y : Int32, y = v6 + (1 : Int32) := ⟨_, rfl⟩
            replace hf := lt1_inv et20 hf
            refine lv_iinc (v := t20) (lv' := [(6, .int t20), (5, .int t19), (7, .int t15), (0, .ref h_this), (1, .int p0), (2, .int p1), (3, .int p2)]) hx hb dX9_goAll_108 hl (k := 6) rfl (by rw [et20]; rfl) (by decide) rfl (fun ls hl => ?_)
            refine lv_goto (tgt := 41) hx hb dX9_goAll_111 rfl ?_
            exact hK2 _ _ _ _ (ih t19 t20 g_this_pile g_this_s hf) _ _ _ h (lv_sub hl [3, 4, 5, 6, 1, 0] rfl)
          · replace hf := ifn c18 hf
            refine lv_aload_n hx hb dX9_goAll_88 rfl (lv_at hl 1 rfl) ?_
            replace hf := bd1_inv hf
            obtain ⟨r21, hc22, hf⟩ := hf
            refine r_ciV0 C h (c_X9_isOver hc22) mv_X9_232 rfl 0 rfl [0, 3] rfl rfl hl.1 rfl (Nat.le_of_ble_eq_true rfl) (rok (by decide)) dX9_goAll_89 (fun H locs h => ?_)
            refine lv_if_ne (tgt := 104) hx hb dX9_goAll_92 rfl (fun c23 => ?_) (fun c23 => ?_)
            · replace hf := ifn c23 hf
              refine lv_iconst (v := (0 : Int32)) hx hb dX9_goAll_104 rfl ?_
              refine lv_iadd hx hb dX9_goAll_105 ?_
              refine lv_topi (fun t24 et24 => ?_)
              replace hf := lt1_inv et24 hf
              refine lv_istore (lv' := [(5, .int t24), (7, .int t15), (0, .ref h_this), (1, .int p0), (2, .int p1), (3, .int p2), (6, .int v6)]) hx hb dX9_goAll_106 hl (by decide) rfl (fun ls hl => ?_)
              obtain ⟨t25, et25⟩ : ∃ y : Int32, y = v6 + (1 : Int32) := ⟨_, rfl⟩
              replace hf := lt1_inv et25 hf
              refine lv_iinc (v := t25) (lv' := [(6, .int t25), (5, .int t24), (7, .int t15), (0, .ref h_this), (1, .int p0), (2, .int p1), (3, .int p2)]) hx hb dX9_goAll_108 hl (k := 6) rfl (by rw [et25]; rfl) (by decide) rfl (fun ls hl => ?_)
              refine lv_goto (tgt := 41) hx hb dX9_goAll_111 rfl ?_
              exact hK2 _ _ _ _ (ih t24 t25 g_this_pile g_this_s hf) _ _ _ h (lv_sub hl [3, 4, 5, 6, 1, 0] rfl)
            · replace hf := ifp c23 hf
              refine lv_aload_n hx hb dX9_goAll_95 rfl (lv_at hl 1 rfl) ?_
              refine lv_iload hx hb dX9_goAll_96 (lv_at hl 0 rfl) ?_
              replace hf := bd3_inv hf
              obtain ⟨r26, g27, g28, hc29, hf⟩ := hf
              refine r_ciV (ws' := [(h_this, ob 9 [.ref h_this_s, .ref h_this_kept, .ref h_this_laid, .int x_this_isKept, .ref h_this_pile, .ref h_this_tape, .int x_this_taped, .ref h_this_letters, .int x_this_at, .int x_this_begun, .int x_this_token, .int x_this_value, .int x_this_opened, .int x_this_steps, .ref h_this_code0, .ref h_this_read, .ref h_this_saved, .ref h_this_plan, .ref h_this_bestPlan, .int x_this_most, .int x_this_many, .int x_this_few, .int x_this_everHome, .ref h_this_offThen, .ref h_this_paidThen, .int x_this_firstFit, .ref h_this_rows, .int x_this_rowMany, .ref h_this_sorts, .ref h_this_sizes, .ref h_this_number, .ref h_this_holds, .ref h_this_heldOne, .ref h_this_trace, .int x_this_traced, .int x_this_own, .int x_this_isParted]), (h_this_number, ia G 160 f_this_number), (h_this_pile, ia G 200 g27), (h_this_s, ia G 313 g28), (h_this_sizes, ia G 4 f_this_sizes), (h_this_sorts, ia G 4 f_this_sorts)]) C h (c_X9_goesBy hc29) mv_X9_238 rfl 0 rfl [0, 2, 3] rfl rfl rfl rfl rfl hl.1 rfl (Nat.le_of_ble_eq_true rfl) (rok (by decide)) dX9_goAll_98 (fun H locs h => ?_)
              refine lv_goto (tgt := 105) hx hb dX9_goAll_101 rfl ?_
              refine lv_iadd hx hb dX9_goAll_105 ?_
              refine lv_topi (fun t30 et30 => ?_)
              replace hf := lt1_inv et30 hf
              refine lv_istore (lv' := [(5, .int t30), (7, .int t15), (0, .ref h_this), (1, .int p0), (2, .int p1), (3, .int p2), (6, .int v6)]) hx hb dX9_goAll_106 hl (by decide) rfl (fun ls hl => ?_)
              obtain ⟨t31, et31⟩ : ∃ y : Int32, y = v6 + (1 : Int32) := ⟨_, rfl⟩
              replace hf := lt1_inv et31 hf
              refine lv_iinc (v := t31) (lv' := [(6, .int t31), (5, .int t30), (7, .int t15), (0, .ref h_this), (1, .int p0), (2, .int p1), (3, .int p2)]) hx hb dX9_goAll_108 hl (k := 6) rfl (by rw [et31]; rfl) (by decide) rfl (fun ls hl => ?_)
              refine lv_goto (tgt := 41) hx hb dX9_goAll_111 rfl ?_
              exact hK2 _ _ _ _ (ih t30 t31 g27 g28 hf) _ _ _ h (lv_sub hl [3, 4, 5, 6, 1, 0] rfl)
        · replace hf := ifp c13 hf
          refine lv_bipush (v := (-12 : Int32)) hx hb dX9_goAll_58 rfl ?_
          cases hf
          exact r_iret C h hr hlk rfl dX9_goAll_60
  refine lv_iload_n hx hb dX9_goAll_0 rfl (lv_at hl 1 rfl) ?_
  replace hf := bd1_inv hf
  obtain ⟨r1, hc2, hf⟩ := hf
  refine r_ciS0 C h (c_X9_isSheet hc2) ms_X9_329 rfl [] rfl rfl hl.1 rfl (Nat.le_of_ble_eq_true rfl) (rok (by decide)) dX9_goAll_1 (fun H locs h => ?_)
  refine lv_if_eq (tgt := 17) hx hb dX9_goAll_4 rfl (fun c3 => ?_) (fun c3 => ?_)
  · replace hf := ifp c3 hf
    refine lv_iconst (v := (-1 : Int32)) hx hb dX9_goAll_17 rfl ?_
    cases hf
    exact r_iret C h hr hlk rfl dX9_goAll_18
  · replace hf := ifn c3 hf
    refine lv_iload_n hx hb dX9_goAll_7 rfl (lv_at hl 3 rfl) ?_
    refine lv_iconst (v := (0 : Int32)) hx hb dX9_goAll_8 rfl ?_
    refine lv_bipush (v := (20 : Int32)) hx hb dX9_goAll_9 rfl ?_
    replace hf := bd1_inv hf
    obtain ⟨r4, hc5, hf⟩ := hf
    refine r_ciS0 C h (c_X9_in1 hc5) ms_X9_71 rfl [] rfl rfl hl.1 rfl (Nat.le_of_ble_eq_true rfl) (rok (by decide)) dX9_goAll_11 (fun H locs h => ?_)
    refine lv_if_ne (tgt := 19) hx hb dX9_goAll_14 rfl (fun c6 => ?_) (fun c6 => ?_)
    · replace hf := ifn c6 hf
      refine lv_aload_n hx hb dX9_goAll_19 rfl (lv_at hl 0 rfl) ?_
      refine lv_iload_n hx hb dX9_goAll_20 rfl (lv_at hl 1 rfl) ?_
      refine lv_iconst (v := (0 : Int32)) hx hb dX9_goAll_21 rfl ?_
      replace hf := bd1_inv hf
      obtain ⟨r7, hc8, hf⟩ := hf
      refine r_ciV0 C h (c_X9_lacks hc8) mv_X9_335 rfl 0 rfl [0, 5] rfl rfl hl.1 rfl (Nat.le_of_ble_eq_true rfl) (rok (by decide)) dX9_goAll_22 (fun H locs h => ?_)
      refine lv_istore (lv' := [(4, .int r7), (0, .ref h_this), (1, .int p0), (2, .int p1), (3, .int p2)]) hx hb dX9_goAll_25 hl (by decide) rfl (fun ls hl => ?_)
      refine lv_iload hx hb dX9_goAll_27 (lv_at hl 0 rfl) ?_
      refine lv_if_eq (tgt := 35) hx hb dX9_goAll_29 rfl (fun c9 => ?_) (fun c9 => ?_)
      · replace hf := ifp c9 hf
        refine lv_iconst (v := (0 : Int32)) hx hb dX9_goAll_35 rfl ?_
        refine lv_istore (lv' := [(5, .int (0 : Int32)), (4, .int r7), (0, .ref h_this), (1, .int p0), (2, .int p1), (3, .int p2)]) hx hb dX9_goAll_36 hl (by decide) rfl (fun ls hl => ?_)
        refine lv_iconst (v := (0 : Int32)) hx hb dX9_goAll_38 rfl ?_
        refine lv_istore (lv' := [(6, .int (0 : Int32)), (5, .int (0 : Int32)), (4, .int r7), (0, .ref h_this), (1, .int p0), (2, .int p1), (3, .int p2)]) hx hb dX9_goAll_39 hl (by decide) rfl (fun ls hl => ?_)
        exact hK2 _ _ _ _ (L41 1000 (0 : Int32) (0 : Int32) f_this_pile f_this_s hf) _ _ _ h (lv_sub hl [3, 4, 5, 6, 1, 0] rfl)
      · replace hf := ifn c9 hf
        refine lv_iload hx hb dX9_goAll_32 (lv_at hl 0 rfl) ?_
        cases hf
        exact r_iret C h hr hlk rfl dX9_goAll_34
    · replace hf := ifp c6 hf
      refine lv_iconst (v := (-1 : Int32)) hx hb dX9_goAll_17 rfl ?_
      cases hf
      exact r_iret C h hr hlk rfl dX9_goAll_18
def f_X9_wouldBe_b145 (v4 : Int32) (v5 : Int32) (g_this_laid : Nat → Int32) (g_this_pile : Nat → Int32) (g_this_s : Nat → Int32) : Option (Int32 × (Nat → Int32) × (Nat → Int32) × (Nat → Int32)) := bd1 (f_X9_layBack g_this_laid g_this_s) (fun g12 => (if v4 = 0 then some (v5, g_this_laid, g_this_pile, g12) else some (v4, g_this_laid, g_this_pile, g12)))
def f_X9_wouldBe_b117 (rec37 : Int32 → Int32 → Int32 → (Nat → Int32) → (Nat → Int32) → (Nat → Int32) → Option (Int32 × (Nat → Int32) × (Nat → Int32) × (Nat → Int32))) (v5 : Int32) (v6 : Int32) (v7 : Int32) (s0 : Int32) (g_this_laid : Nat → Int32) (g_this_pile : Nat → Int32) (g_this_s : Nat → Int32) : Option (Int32 × (Nat → Int32) × (Nat → Int32) × (Nat → Int32)) := (if s0 = 0 then bd3 (f_X9_goesBy v7 g_this_pile g_this_s) (fun r28 g29 g30 => lt1 (v5 + r28) (fun (t32 : Int32) => lt1 (v6 + (1 : Int32)) (fun (t33 : Int32) => rec37 s0 t32 t33 g_this_laid g29 g30))) else lt1 (v5 + (0 : Int32)) (fun (t26 : Int32) => lt1 (v6 + (1 : Int32)) (fun (t27 : Int32) => rec37 s0 t26 t27 g_this_laid g_this_pile g_this_s)))
def f_X9_wouldBe_b111 (rec37 : Int32 → Int32 → Int32 → (Nat → Int32) → (Nat → Int32) → (Nat → Int32) → Option (Int32 × (Nat → Int32) × (Nat → Int32) × (Nat → Int32))) (v5 : Int32) (v6 : Int32) (v7 : Int32) (g_this_laid : Nat → Int32) (g_this_pile : Nat → Int32) (g_this_s : Nat → Int32) : Option (Int32 × (Nat → Int32) × (Nat → Int32) × (Nat → Int32)) := f_X9_wouldBe_b117 rec37 v5 v6 v7 (-4 : Int32) g_this_laid g_this_pile g_this_s
def f_X9_wouldBe_b77 (rec37 : Int32 → Int32 → Int32 → (Nat → Int32) → (Nat → Int32) → (Nat → Int32) → Option (Int32 × (Nat → Int32) × (Nat → Int32) × (Nat → Int32))) (p0 : Int32) (p1 : Int32) (f_this_sizes : Nat → Int32) (v5 : Int32) (v6 : Int32) (s0 : Int32) (g_this_laid : Nat → Int32) (g_this_pile : Nat → Int32) (g_this_s : Nat → Int32) : Option (Int32 × (Nat → Int32) × (Nat → Int32) × (Nat → Int32)) := bd1 (f_X9_isItem p0 p1 v6 f_this_sizes) (fun r19 => (if r19 = 0 then f_X9_wouldBe_b117 rec37 v5 v6 s0 (-12 : Int32) g_this_laid g_this_pile g_this_s else bd1 (f_X9_isAct s0 g_this_s) (fun r22 => (if r22 = 0 then f_X9_wouldBe_b111 rec37 v5 v6 s0 g_this_laid g_this_pile g_this_s else bd1 (f_X9_isOver g_this_s) (fun r34 => (if r34 = 0 then f_X9_wouldBe_b117 rec37 v5 v6 s0 (0 : Int32) g_this_laid g_this_pile g_this_s else f_X9_wouldBe_b111 rec37 v5 v6 s0 g_this_laid g_this_pile g_this_s))))))
def f_X9_wouldBe_L37 (p0 : Int32) (p1 : Int32) (p2 : Int32) (f_this_number : Nat → Int32) (f_this_sizes : Nat → Int32) : Nat → Int32 → Int32 → Int32 → (Nat → Int32) → (Nat → Int32) → (Nat → Int32) → Option (Int32 × (Nat → Int32) × (Nat → Int32) × (Nat → Int32))
  | 0, _, _, _, _, _, _ => none
  | n + 1, v4, v5, v6, g_this_laid, g_this_pile, g_this_s => (if p2 ≤ v6 then f_X9_wouldBe_b145 v4 v5 g_this_laid g_this_pile g_this_s else (if v4 = 0 then bd1 (f_X9_isItem p0 p1 v6 f_this_sizes) (fun r16 => (if r16 = 0 then f_X9_wouldBe_b77 (f_X9_wouldBe_L37 p0 p1 p2 f_this_number f_this_sizes n) p0 p1 f_this_sizes v5 v6 (-1 : Int32) g_this_laid g_this_pile g_this_s else chkI ((((40 : Int32) * p0) + p1) + v6) 160 (f_X9_wouldBe_b77 (f_X9_wouldBe_L37 p0 p1 p2 f_this_number f_this_sizes n) p0 p1 f_this_sizes v5 v6 (f_this_number ((((40 : Int32) * p0) + p1) + v6).toNatClampNeg) g_this_laid g_this_pile g_this_s))) else f_X9_wouldBe_b145 v4 v5 g_this_laid g_this_pile g_this_s))
def f_X9_wouldBe (p0 : Int32) (p1 : Int32) (p2 : Int32) (f_this_laid : Nat → Int32) (f_this_number : Nat → Int32) (f_this_pile : Nat → Int32) (f_this_s : Nat → Int32) (f_this_sizes : Nat → Int32) (f_this_sorts : Nat → Int32) : Option (Int32 × (Nat → Int32) × (Nat → Int32) × (Nat → Int32)) := bd1 (f_X9_isSheet p0) (fun r1 => (if r1 = 0 then some ((-1 : Int32), f_this_laid, f_this_pile, f_this_s) else bd1 (f_X9_in1 p2 (0 : Int32) (20 : Int32)) (fun r4 => (if r4 = 0 then some ((-1 : Int32), f_this_laid, f_this_pile, f_this_s) else bd1 (f_X9_lacks p0 (0 : Int32) f_this_sorts) (fun r7 => bd1 (f_X9_layDown f_this_laid f_this_s) (fun g9 => f_X9_wouldBe_L37 p0 p1 p2 f_this_number f_this_sizes 1000 r7 (0 : Int32) (0 : Int32) g9 f_this_pile f_this_s))))))
set_option maxRecDepth 100000 in
set_option maxHeartbeats 4000000 in
theorem c_X9_wouldBe {l : Launch} {G : Gt} {h_this h_this_s h_this_kept h_this_laid h_this_pile h_this_tape h_this_letters h_this_code0 h_this_read h_this_saved h_this_plan h_this_bestPlan h_this_offThen h_this_paidThen h_this_rows h_this_sorts h_this_sizes h_this_number h_this_holds h_this_heldOne h_this_trace : Nat} {p0 : Int32} {p1 : Int32} {p2 : Int32} {x_this_isKept : Int32} {x_this_taped : Int32} {x_this_at : Int32} {x_this_begun : Int32} {x_this_token : Int32} {x_this_value : Int32} {x_this_opened : Int32} {x_this_steps : Int32} {x_this_most : Int32} {x_this_many : Int32} {x_this_few : Int32} {x_this_everHome : Int32} {x_this_firstFit : Int32} {x_this_rowMany : Int32} {x_this_traced : Int32} {x_this_own : Int32} {x_this_isParted : Int32} {f_this_laid : Nat → Int32} {f_this_number : Nat → Int32} {f_this_pile : Nat → Int32} {f_this_s : Nat → Int32} {f_this_sizes : Nat → Int32} {f_this_sorts : Nat → Int32} {r : Int32} {m_this_laid : Nat → Int32} {m_this_pile : Nat → Int32} {m_this_s : Nat → Int32} (hf : f_X9_wouldBe p0 p1 p2 f_this_laid f_this_number f_this_pile f_this_s f_this_sizes f_this_sorts = some (r, m_this_laid, m_this_pile, m_this_s)) : mFi l G yX9_wouldBe cX9_wouldBe 8 .int 7 [.ref h_this, .int p0, .int p1, .int p2] [(h_this, ob 9 [.ref h_this_s, .ref h_this_kept, .ref h_this_laid, .int x_this_isKept, .ref h_this_pile, .ref h_this_tape, .int x_this_taped, .ref h_this_letters, .int x_this_at, .int x_this_begun, .int x_this_token, .int x_this_value, .int x_this_opened, .int x_this_steps, .ref h_this_code0, .ref h_this_read, .ref h_this_saved, .ref h_this_plan, .ref h_this_bestPlan, .int x_this_most, .int x_this_many, .int x_this_few, .int x_this_everHome, .ref h_this_offThen, .ref h_this_paidThen, .int x_this_firstFit, .ref h_this_rows, .int x_this_rowMany, .ref h_this_sorts, .ref h_this_sizes, .ref h_this_number, .ref h_this_holds, .ref h_this_heldOne, .ref h_this_trace, .int x_this_traced, .int x_this_own, .int x_this_isParted]), (h_this_laid, ia G 65 f_this_laid), (h_this_number, ia G 160 f_this_number), (h_this_pile, ia G 200 f_this_pile), (h_this_s, ia G 313 f_this_s), (h_this_sizes, ia G 4 f_this_sizes), (h_this_sorts, ia G 4 f_this_sorts)] r [(h_this, ob 9 [.ref h_this_s, .ref h_this_kept, .ref h_this_laid, .int x_this_isKept, .ref h_this_pile, .ref h_this_tape, .int x_this_taped, .ref h_this_letters, .int x_this_at, .int x_this_begun, .int x_this_token, .int x_this_value, .int x_this_opened, .int x_this_steps, .ref h_this_code0, .ref h_this_read, .ref h_this_saved, .ref h_this_plan, .ref h_this_bestPlan, .int x_this_most, .int x_this_many, .int x_this_few, .int x_this_everHome, .ref h_this_offThen, .ref h_this_paidThen, .int x_this_firstFit, .ref h_this_rows, .int x_this_rowMany, .ref h_this_sorts, .ref h_this_sizes, .ref h_this_number, .ref h_this_holds, .ref h_this_heldOne, .ref h_this_trace, .int x_this_traced, .int x_this_own, .int x_this_isParted]), (h_this_laid, ia G 65 m_this_laid), (h_this_number, ia G 160 f_this_number), (h_this_pile, ia G 200 m_this_pile), (h_this_s, ia G 313 m_this_s), (h_this_sizes, ia G 4 f_this_sizes), (h_this_sorts, ia G 4 f_this_sorts)] := by
  refine mFi.of (by decide +kernel) (Nat.le_of_ble_eq_true rfl) ?_
  intro p e s m below meth c A C hr hlk h ls hl
  obtain ⟨hx, hb, hml, hown, hts⟩ := id C
  replace hl : lv_has ls 8 [(0, .ref h_this), (1, .int p0), (2, .int p1), (3, .int p2)] := hl
  unfold f_X9_wouldBe at hf
  refine with_K G A 8 (fun K hK1 hK2 => ?_)
  have B145 : ∀ (v4 : Int32) (v5 : Int32) (g_this_laid : Nat → Int32) (g_this_pile : Nat → Int32) (g_this_s : Nat → Int32), f_X9_wouldBe_b145 v4 v5 g_this_laid g_this_pile g_this_s = some (r, m_this_laid, m_this_pile, m_this_s) → K 145 ([] : List Value) [(h_this, ob 9 [.ref h_this_s, .ref h_this_kept, .ref h_this_laid, .int x_this_isKept, .ref h_this_pile, .ref h_this_tape, .int x_this_taped, .ref h_this_letters, .int x_this_at, .int x_this_begun, .int x_this_token, .int x_this_value, .int x_this_opened, .int x_this_steps, .ref h_this_code0, .ref h_this_read, .ref h_this_saved, .ref h_this_plan, .ref h_this_bestPlan, .int x_this_most, .int x_this_many, .int x_this_few, .int x_this_everHome, .ref h_this_offThen, .ref h_this_paidThen, .int x_this_firstFit, .ref h_this_rows, .int x_this_rowMany, .ref h_this_sorts, .ref h_this_sizes, .ref h_this_number, .ref h_this_holds, .ref h_this_heldOne, .ref h_this_trace, .int x_this_traced, .int x_this_own, .int x_this_isParted]), (h_this_laid, ia G 65 g_this_laid), (h_this_number, ia G 160 f_this_number), (h_this_pile, ia G 200 g_this_pile), (h_this_s, ia G 313 g_this_s), (h_this_sizes, ia G 4 f_this_sizes), (h_this_sorts, ia G 4 f_this_sorts)] [(0, .ref h_this), (4, .int v4), (5, .int v5)] := by
    intro v4 v5 g_this_laid g_this_pile g_this_s hf
    unfold f_X9_wouldBe_b145 at hf
    refine hK1 _ _ _ _ (fun H locs ls h hl => ?_)
    refine lv_aload_n hx hb dX9_wouldBe_145 rfl (lv_at hl 0 rfl) ?_
    replace hf := bd1_inv hf
    obtain ⟨g12, hc13, hf⟩ := hf
    refine r_cvV (ws' := [(h_this, ob 9 [.ref h_this_s, .ref h_this_kept, .ref h_this_laid, .int x_this_isKept, .ref h_this_pile, .ref h_this_tape, .int x_this_taped, .ref h_this_letters, .int x_this_at, .int x_this_begun, .int x_this_token, .int x_this_value, .int x_this_opened, .int x_this_steps, .ref h_this_code0, .ref h_this_read, .ref h_this_saved, .ref h_this_plan, .ref h_this_bestPlan, .int x_this_most, .int x_this_many, .int x_this_few, .int x_this_everHome, .ref h_this_offThen, .ref h_this_paidThen, .int x_this_firstFit, .ref h_this_rows, .int x_this_rowMany, .ref h_this_sorts, .ref h_this_sizes, .ref h_this_number, .ref h_this_holds, .ref h_this_heldOne, .ref h_this_trace, .int x_this_traced, .int x_this_own, .int x_this_isParted]), (h_this_laid, ia G 65 g_this_laid), (h_this_number, ia G 160 f_this_number), (h_this_pile, ia G 200 g_this_pile), (h_this_s, ia G 313 g12), (h_this_sizes, ia G 4 f_this_sizes), (h_this_sorts, ia G 4 f_this_sorts)]) C h (c_X9_layBack hc13) mv_X9_247 rfl 0 rfl [0, 1, 4] rfl rfl rfl rfl rfl hl.1 rfl (Nat.le_of_ble_eq_true rfl) (rok (by decide)) dX9_wouldBe_146 (fun H locs h => ?_)
    refine lv_iload hx hb dX9_wouldBe_149 (lv_at hl 1 rfl) ?_
    refine lv_if_eq (tgt := 159) hx hb dX9_wouldBe_151 rfl (fun c14 => ?_) (fun c14 => ?_)
    · replace hf := ifp c14 hf
      refine lv_iload hx hb dX9_wouldBe_159 (lv_at hl 2 rfl) ?_
      cases hf
      exact r_iret C h hr hlk rfl dX9_wouldBe_161
    · replace hf := ifn c14 hf
      refine lv_iload hx hb dX9_wouldBe_154 (lv_at hl 1 rfl) ?_
      refine lv_goto (tgt := 161) hx hb dX9_wouldBe_156 rfl ?_
      cases hf
      exact r_iret C h hr hlk rfl dX9_wouldBe_161
  have B117 : ∀ (rec37 : Int32 → Int32 → Int32 → (Nat → Int32) → (Nat → Int32) → (Nat → Int32) → Option (Int32 × (Nat → Int32) × (Nat → Int32) × (Nat → Int32))) (hrec37 : ∀ (v4 : Int32) (v5 : Int32) (v6 : Int32) (g_this_laid : Nat → Int32) (g_this_pile : Nat → Int32) (g_this_s : Nat → Int32), rec37 v4 v5 v6 g_this_laid g_this_pile g_this_s = some (r, m_this_laid, m_this_pile, m_this_s) → K 37 ([] : List Value) [(h_this, ob 9 [.ref h_this_s, .ref h_this_kept, .ref h_this_laid, .int x_this_isKept, .ref h_this_pile, .ref h_this_tape, .int x_this_taped, .ref h_this_letters, .int x_this_at, .int x_this_begun, .int x_this_token, .int x_this_value, .int x_this_opened, .int x_this_steps, .ref h_this_code0, .ref h_this_read, .ref h_this_saved, .ref h_this_plan, .ref h_this_bestPlan, .int x_this_most, .int x_this_many, .int x_this_few, .int x_this_everHome, .ref h_this_offThen, .ref h_this_paidThen, .int x_this_firstFit, .ref h_this_rows, .int x_this_rowMany, .ref h_this_sorts, .ref h_this_sizes, .ref h_this_number, .ref h_this_holds, .ref h_this_heldOne, .ref h_this_trace, .int x_this_traced, .int x_this_own, .int x_this_isParted]), (h_this_laid, ia G 65 g_this_laid), (h_this_number, ia G 160 f_this_number), (h_this_pile, ia G 200 g_this_pile), (h_this_s, ia G 313 g_this_s), (h_this_sizes, ia G 4 f_this_sizes), (h_this_sorts, ia G 4 f_this_sorts)] [(0, .ref h_this), (1, .int p0), (2, .int p1), (3, .int p2), (4, .int v4), (5, .int v5), (6, .int v6)]) (v5 : Int32) (v6 : Int32) (v7 : Int32) (s0 : Int32) (g_this_laid : Nat → Int32) (g_this_pile : Nat → Int32) (g_this_s : Nat → Int32), f_X9_wouldBe_b117 rec37 v5 v6 v7 s0 g_this_laid g_this_pile g_this_s = some (r, m_this_laid, m_this_pile, m_this_s) → K 117 [.int s0] [(h_this, ob 9 [.ref h_this_s, .ref h_this_kept, .ref h_this_laid, .int x_this_isKept, .ref h_this_pile, .ref h_this_tape, .int x_this_taped, .ref h_this_letters, .int x_this_at, .int x_this_begun, .int x_this_token, .int x_this_value, .int x_this_opened, .int x_this_steps, .ref h_this_code0, .ref h_this_read, .ref h_this_saved, .ref h_this_plan, .ref h_this_bestPlan, .int x_this_most, .int x_this_many, .int x_this_few, .int x_this_everHome, .ref h_this_offThen, .ref h_this_paidThen, .int x_this_firstFit, .ref h_this_rows, .int x_this_rowMany, .ref h_this_sorts, .ref h_this_sizes, .ref h_this_number, .ref h_this_holds, .ref h_this_heldOne, .ref h_this_trace, .int x_this_traced, .int x_this_own, .int x_this_isParted]), (h_this_laid, ia G 65 g_this_laid), (h_this_number, ia G 160 f_this_number), (h_this_pile, ia G 200 g_this_pile), (h_this_s, ia G 313 g_this_s), (h_this_sizes, ia G 4 f_this_sizes), (h_this_sorts, ia G 4 f_this_sorts)] [(0, .ref h_this), (1, .int p0), (2, .int p1), (3, .int p2), (5, .int v5), (6, .int v6), (7, .int v7)] := by
    intro rec37 hrec37 v5 v6 v7 s0 g_this_laid g_this_pile g_this_s hf
    unfold f_X9_wouldBe_b117 at hf
    refine hK1 _ _ _ _ (fun H locs ls h hl => ?_)
    refine lv_istore (lv' := [(4, .int s0), (0, .ref h_this), (1, .int p0), (2, .int p1), (3, .int p2), (5, .int v5), (6, .int v6), (7, .int v7)]) hx hb dX9_wouldBe_117 hl (by decide) rfl (fun ls hl => ?_)
    refine lv_iload hx hb dX9_wouldBe_119 (lv_at hl 5 rfl) ?_
    refine lv_iload hx hb dX9_wouldBe_121 (lv_at hl 0 rfl) ?_
    refine lv_if_ne (tgt := 135) hx hb dX9_wouldBe_123 rfl (fun c25 => ?_) (fun c25 => ?_)
    · replace hf := ifn c25 hf
      refine lv_iconst (v := (0 : Int32)) hx hb dX9_wouldBe_135 rfl ?_
      refine lv_iadd hx hb dX9_wouldBe_136 ?_
      refine lv_topi (fun t26 et26 => ?_)
      replace hf := lt1_inv et26 hf
      refine lv_istore (lv' := [(5, .int t26), (4, .int s0), (0, .ref h_this), (1, .int p0), (2, .int p1), (3, .int p2), (6, .int v6), (7, .int v7)]) hx hb dX9_wouldBe_137 hl (by decide) rfl (fun ls hl => ?_)
      obtain ⟨t27, et27⟩ : ∃ y : Int32, y = v6 + (1 : Int32) := ⟨_, rfl⟩
      replace hf := lt1_inv et27 hf
      refine lv_iinc (v := t27) (lv' := [(6, .int t27), (5, .int t26), (4, .int s0), (0, .ref h_this), (1, .int p0), (2, .int p1), (3, .int p2), (7, .int v7)]) hx hb dX9_wouldBe_139 hl (k := 6) rfl (by rw [et27]; rfl) (by decide) rfl (fun ls hl => ?_)
      refine lv_goto (tgt := 37) hx hb dX9_wouldBe_142 rfl ?_
      exact hK2 _ _ _ _ (hrec37 s0 t26 t27 g_this_laid g_this_pile g_this_s hf) _ _ _ h (lv_sub hl [3, 4, 5, 6, 2, 1, 0] rfl)
    · replace hf := ifp c25 hf
      refine lv_aload_n hx hb dX9_wouldBe_126 rfl (lv_at hl 1 rfl) ?_
      refine lv_iload hx hb dX9_wouldBe_127 (lv_at hl 7 rfl) ?_
      replace hf := bd3_inv hf
      obtain ⟨r28, g29, g30, hc31, hf⟩ := hf
      refine r_ciV (ws' := [(h_this, ob 9 [.ref h_this_s, .ref h_this_kept, .ref h_this_laid, .int x_this_isKept, .ref h_this_pile, .ref h_this_tape, .int x_this_taped, .ref h_this_letters, .int x_this_at, .int x_this_begun, .int x_this_token, .int x_this_value, .int x_this_opened, .int x_this_steps, .ref h_this_code0, .ref h_this_read, .ref h_this_saved, .ref h_this_plan, .ref h_this_bestPlan, .int x_this_most, .int x_this_many, .int x_this_few, .int x_this_everHome, .ref h_this_offThen, .ref h_this_paidThen, .int x_this_firstFit, .ref h_this_rows, .int x_this_rowMany, .ref h_this_sorts, .ref h_this_sizes, .ref h_this_number, .ref h_this_holds, .ref h_this_heldOne, .ref h_this_trace, .int x_this_traced, .int x_this_own, .int x_this_isParted]), (h_this_laid, ia G 65 g_this_laid), (h_this_number, ia G 160 f_this_number), (h_this_pile, ia G 200 g29), (h_this_s, ia G 313 g30), (h_this_sizes, ia G 4 f_this_sizes), (h_this_sorts, ia G 4 f_this_sorts)]) C h (c_X9_goesBy hc31) mv_X9_238 rfl 0 rfl [0, 3, 4] rfl rfl rfl rfl rfl hl.1 rfl (Nat.le_of_ble_eq_true rfl) (rok (by decide)) dX9_wouldBe_129 (fun H locs h => ?_)
      refine lv_goto (tgt := 136) hx hb dX9_wouldBe_132 rfl ?_
      refine lv_iadd hx hb dX9_wouldBe_136 ?_
      refine lv_topi (fun t32 et32 => ?_)
      replace hf := lt1_inv et32 hf
      refine lv_istore (lv' := [(5, .int t32), (4, .int s0), (0, .ref h_this), (1, .int p0), (2, .int p1), (3, .int p2), (6, .int v6), (7, .int v7)]) hx hb dX9_wouldBe_137 hl (by decide) rfl (fun ls hl => ?_)
      obtain ⟨t33, et33⟩ : ∃ y : Int32, y = v6 + (1 : Int32) := ⟨_, rfl⟩
      replace hf := lt1_inv et33 hf
      refine lv_iinc (v := t33) (lv' := [(6, .int t33), (5, .int t32), (4, .int s0), (0, .ref h_this), (1, .int p0), (2, .int p1), (3, .int p2), (7, .int v7)]) hx hb dX9_wouldBe_139 hl (k := 6) rfl (by rw [et33]; rfl) (by decide) rfl (fun ls hl => ?_)
      refine lv_goto (tgt := 37) hx hb dX9_wouldBe_142 rfl ?_
      exact hK2 _ _ _ _ (hrec37 s0 t32 t33 g_this_laid g29 g30 hf) _ _ _ h (lv_sub hl [3, 4, 5, 6, 2, 1, 0] rfl)
  have B111 : ∀ (rec37 : Int32 → Int32 → Int32 → (Nat → Int32) → (Nat → Int32) → (Nat → Int32) → Option (Int32 × (Nat → Int32) × (Nat → Int32) × (Nat → Int32))) (hrec37 : ∀ (v4 : Int32) (v5 : Int32) (v6 : Int32) (g_this_laid : Nat → Int32) (g_this_pile : Nat → Int32) (g_this_s : Nat → Int32), rec37 v4 v5 v6 g_this_laid g_this_pile g_this_s = some (r, m_this_laid, m_this_pile, m_this_s) → K 37 ([] : List Value) [(h_this, ob 9 [.ref h_this_s, .ref h_this_kept, .ref h_this_laid, .int x_this_isKept, .ref h_this_pile, .ref h_this_tape, .int x_this_taped, .ref h_this_letters, .int x_this_at, .int x_this_begun, .int x_this_token, .int x_this_value, .int x_this_opened, .int x_this_steps, .ref h_this_code0, .ref h_this_read, .ref h_this_saved, .ref h_this_plan, .ref h_this_bestPlan, .int x_this_most, .int x_this_many, .int x_this_few, .int x_this_everHome, .ref h_this_offThen, .ref h_this_paidThen, .int x_this_firstFit, .ref h_this_rows, .int x_this_rowMany, .ref h_this_sorts, .ref h_this_sizes, .ref h_this_number, .ref h_this_holds, .ref h_this_heldOne, .ref h_this_trace, .int x_this_traced, .int x_this_own, .int x_this_isParted]), (h_this_laid, ia G 65 g_this_laid), (h_this_number, ia G 160 f_this_number), (h_this_pile, ia G 200 g_this_pile), (h_this_s, ia G 313 g_this_s), (h_this_sizes, ia G 4 f_this_sizes), (h_this_sorts, ia G 4 f_this_sorts)] [(0, .ref h_this), (1, .int p0), (2, .int p1), (3, .int p2), (4, .int v4), (5, .int v5), (6, .int v6)]) (v5 : Int32) (v6 : Int32) (v7 : Int32) (g_this_laid : Nat → Int32) (g_this_pile : Nat → Int32) (g_this_s : Nat → Int32), f_X9_wouldBe_b111 rec37 v5 v6 v7 g_this_laid g_this_pile g_this_s = some (r, m_this_laid, m_this_pile, m_this_s) → K 111 ([] : List Value) [(h_this, ob 9 [.ref h_this_s, .ref h_this_kept, .ref h_this_laid, .int x_this_isKept, .ref h_this_pile, .ref h_this_tape, .int x_this_taped, .ref h_this_letters, .int x_this_at, .int x_this_begun, .int x_this_token, .int x_this_value, .int x_this_opened, .int x_this_steps, .ref h_this_code0, .ref h_this_read, .ref h_this_saved, .ref h_this_plan, .ref h_this_bestPlan, .int x_this_most, .int x_this_many, .int x_this_few, .int x_this_everHome, .ref h_this_offThen, .ref h_this_paidThen, .int x_this_firstFit, .ref h_this_rows, .int x_this_rowMany, .ref h_this_sorts, .ref h_this_sizes, .ref h_this_number, .ref h_this_holds, .ref h_this_heldOne, .ref h_this_trace, .int x_this_traced, .int x_this_own, .int x_this_isParted]), (h_this_laid, ia G 65 g_this_laid), (h_this_number, ia G 160 f_this_number), (h_this_pile, ia G 200 g_this_pile), (h_this_s, ia G 313 g_this_s), (h_this_sizes, ia G 4 f_this_sizes), (h_this_sorts, ia G 4 f_this_sorts)] [(0, .ref h_this), (1, .int p0), (2, .int p1), (3, .int p2), (5, .int v5), (6, .int v6), (7, .int v7)] := by
    intro rec37 hrec37 v5 v6 v7 g_this_laid g_this_pile g_this_s hf
    unfold f_X9_wouldBe_b111 at hf
    refine hK1 _ _ _ _ (fun H locs ls h hl => ?_)
    refine lv_bipush (v := (-4 : Int32)) hx hb dX9_wouldBe_111 rfl ?_
    refine lv_goto (tgt := 117) hx hb dX9_wouldBe_113 rfl ?_
    exact hK2 _ _ _ _ (B117 _ hrec37 v5 v6 v7 (-4 : Int32) g_this_laid g_this_pile g_this_s hf) _ _ _ h (lv_sub hl [0, 1, 2, 3, 4, 5, 6] rfl)
  have B77 : ∀ (rec37 : Int32 → Int32 → Int32 → (Nat → Int32) → (Nat → Int32) → (Nat → Int32) → Option (Int32 × (Nat → Int32) × (Nat → Int32) × (Nat → Int32))) (hrec37 : ∀ (v4 : Int32) (v5 : Int32) (v6 : Int32) (g_this_laid : Nat → Int32) (g_this_pile : Nat → Int32) (g_this_s : Nat → Int32), rec37 v4 v5 v6 g_this_laid g_this_pile g_this_s = some (r, m_this_laid, m_this_pile, m_this_s) → K 37 ([] : List Value) [(h_this, ob 9 [.ref h_this_s, .ref h_this_kept, .ref h_this_laid, .int x_this_isKept, .ref h_this_pile, .ref h_this_tape, .int x_this_taped, .ref h_this_letters, .int x_this_at, .int x_this_begun, .int x_this_token, .int x_this_value, .int x_this_opened, .int x_this_steps, .ref h_this_code0, .ref h_this_read, .ref h_this_saved, .ref h_this_plan, .ref h_this_bestPlan, .int x_this_most, .int x_this_many, .int x_this_few, .int x_this_everHome, .ref h_this_offThen, .ref h_this_paidThen, .int x_this_firstFit, .ref h_this_rows, .int x_this_rowMany, .ref h_this_sorts, .ref h_this_sizes, .ref h_this_number, .ref h_this_holds, .ref h_this_heldOne, .ref h_this_trace, .int x_this_traced, .int x_this_own, .int x_this_isParted]), (h_this_laid, ia G 65 g_this_laid), (h_this_number, ia G 160 f_this_number), (h_this_pile, ia G 200 g_this_pile), (h_this_s, ia G 313 g_this_s), (h_this_sizes, ia G 4 f_this_sizes), (h_this_sorts, ia G 4 f_this_sorts)] [(0, .ref h_this), (1, .int p0), (2, .int p1), (3, .int p2), (4, .int v4), (5, .int v5), (6, .int v6)]) (v5 : Int32) (v6 : Int32) (s0 : Int32) (g_this_laid : Nat → Int32) (g_this_pile : Nat → Int32) (g_this_s : Nat → Int32), f_X9_wouldBe_b77 rec37 p0 p1 f_this_sizes v5 v6 s0 g_this_laid g_this_pile g_this_s = some (r, m_this_laid, m_this_pile, m_this_s) → K 77 [.int s0] [(h_this, ob 9 [.ref h_this_s, .ref h_this_kept, .ref h_this_laid, .int x_this_isKept, .ref h_this_pile, .ref h_this_tape, .int x_this_taped, .ref h_this_letters, .int x_this_at, .int x_this_begun, .int x_this_token, .int x_this_value, .int x_this_opened, .int x_this_steps, .ref h_this_code0, .ref h_this_read, .ref h_this_saved, .ref h_this_plan, .ref h_this_bestPlan, .int x_this_most, .int x_this_many, .int x_this_few, .int x_this_everHome, .ref h_this_offThen, .ref h_this_paidThen, .int x_this_firstFit, .ref h_this_rows, .int x_this_rowMany, .ref h_this_sorts, .ref h_this_sizes, .ref h_this_number, .ref h_this_holds, .ref h_this_heldOne, .ref h_this_trace, .int x_this_traced, .int x_this_own, .int x_this_isParted]), (h_this_laid, ia G 65 g_this_laid), (h_this_number, ia G 160 f_this_number), (h_this_pile, ia G 200 g_this_pile), (h_this_s, ia G 313 g_this_s), (h_this_sizes, ia G 4 f_this_sizes), (h_this_sorts, ia G 4 f_this_sorts)] [(0, .ref h_this), (1, .int p0), (2, .int p1), (3, .int p2), (5, .int v5), (6, .int v6)] := by
    intro rec37 hrec37 v5 v6 s0 g_this_laid g_this_pile g_this_s hf
    unfold f_X9_wouldBe_b77 at hf
    refine hK1 _ _ _ _ (fun H locs ls h hl => ?_)
    refine lv_istore (lv' := [(7, .int s0), (0, .ref h_this), (1, .int p0), (2, .int p1), (3, .int p2), (5, .int v5), (6, .int v6)]) hx hb dX9_wouldBe_77 hl (by decide) rfl (fun ls hl => ?_)
    refine lv_aload_n hx hb dX9_wouldBe_79 rfl (lv_at hl 1 rfl) ?_
    refine lv_iload_n hx hb dX9_wouldBe_80 rfl (lv_at hl 2 rfl) ?_
    refine lv_iload_n hx hb dX9_wouldBe_81 rfl (lv_at hl 3 rfl) ?_
    refine lv_iload hx hb dX9_wouldBe_82 (lv_at hl 6 rfl) ?_
    replace hf := bd1_inv hf
    obtain ⟨r19, hc20, hf⟩ := hf
    refine r_ciV0 C h (c_X9_isItem hc20) mv_X9_338 rfl 0 rfl [0, 5] rfl rfl hl.1 rfl (Nat.le_of_ble_eq_true rfl) (rok (by decide)) dX9_wouldBe_84 (fun H locs h => ?_)
    refine lv_if_ne (tgt := 95) hx hb dX9_wouldBe_87 rfl (fun c21 => ?_) (fun c21 => ?_)
    · replace hf := ifn c21 hf
      refine lv_aload_n hx hb dX9_wouldBe_95 rfl (lv_at hl 1 rfl) ?_
      refine lv_iload hx hb dX9_wouldBe_96 (lv_at hl 0 rfl) ?_
      replace hf := bd1_inv hf
      obtain ⟨r22, hc23, hf⟩ := hf
      refine r_ciV0 C h (c_X9_isAct hc23) mv_X9_326 rfl 0 rfl [0, 4] rfl rfl hl.1 rfl (Nat.le_of_ble_eq_true rfl) (rok (by decide)) dX9_wouldBe_98 (fun H locs h => ?_)
      refine lv_if_eq (tgt := 111) hx hb dX9_wouldBe_101 rfl (fun c24 => ?_) (fun c24 => ?_)
      · replace hf := ifp c24 hf
        exact hK2 _ _ _ _ (B111 _ hrec37 v5 v6 s0 g_this_laid g_this_pile g_this_s hf) _ _ _ h (lv_sub hl [1, 2, 3, 4, 5, 6, 0] rfl)
      · replace hf := ifn c24 hf
        refine lv_aload_n hx hb dX9_wouldBe_104 rfl (lv_at hl 1 rfl) ?_
        replace hf := bd1_inv hf
        obtain ⟨r34, hc35, hf⟩ := hf
        refine r_ciV0 C h (c_X9_isOver hc35) mv_X9_232 rfl 0 rfl [0, 4] rfl rfl hl.1 rfl (Nat.le_of_ble_eq_true rfl) (rok (by decide)) dX9_wouldBe_105 (fun H locs h => ?_)
        refine lv_if_eq (tgt := 116) hx hb dX9_wouldBe_108 rfl (fun c36 => ?_) (fun c36 => ?_)
        · replace hf := ifp c36 hf
          refine lv_iconst (v := (0 : Int32)) hx hb dX9_wouldBe_116 rfl ?_
          exact hK2 _ _ _ _ (B117 _ hrec37 v5 v6 s0 (0 : Int32) g_this_laid g_this_pile g_this_s hf) _ _ _ h (lv_sub hl [1, 2, 3, 4, 5, 6, 0] rfl)
        · replace hf := ifn c36 hf
          exact hK2 _ _ _ _ (B111 _ hrec37 v5 v6 s0 g_this_laid g_this_pile g_this_s hf) _ _ _ h (lv_sub hl [1, 2, 3, 4, 5, 6, 0] rfl)
    · replace hf := ifp c21 hf
      refine lv_bipush (v := (-12 : Int32)) hx hb dX9_wouldBe_90 rfl ?_
      refine lv_goto (tgt := 117) hx hb dX9_wouldBe_92 rfl ?_
      exact hK2 _ _ _ _ (B117 _ hrec37 v5 v6 s0 (-12 : Int32) g_this_laid g_this_pile g_this_s hf) _ _ _ h (lv_sub hl [1, 2, 3, 4, 5, 6, 0] rfl)
  have L37 : ∀ (n : Nat) (v4 : Int32) (v5 : Int32) (v6 : Int32) (g_this_laid : Nat → Int32) (g_this_pile : Nat → Int32) (g_this_s : Nat → Int32), f_X9_wouldBe_L37 p0 p1 p2 f_this_number f_this_sizes n v4 v5 v6 g_this_laid g_this_pile g_this_s = some (r, m_this_laid, m_this_pile, m_this_s) → K 37 ([] : List Value) [(h_this, ob 9 [.ref h_this_s, .ref h_this_kept, .ref h_this_laid, .int x_this_isKept, .ref h_this_pile, .ref h_this_tape, .int x_this_taped, .ref h_this_letters, .int x_this_at, .int x_this_begun, .int x_this_token, .int x_this_value, .int x_this_opened, .int x_this_steps, .ref h_this_code0, .ref h_this_read, .ref h_this_saved, .ref h_this_plan, .ref h_this_bestPlan, .int x_this_most, .int x_this_many, .int x_this_few, .int x_this_everHome, .ref h_this_offThen, .ref h_this_paidThen, .int x_this_firstFit, .ref h_this_rows, .int x_this_rowMany, .ref h_this_sorts, .ref h_this_sizes, .ref h_this_number, .ref h_this_holds, .ref h_this_heldOne, .ref h_this_trace, .int x_this_traced, .int x_this_own, .int x_this_isParted]), (h_this_laid, ia G 65 g_this_laid), (h_this_number, ia G 160 f_this_number), (h_this_pile, ia G 200 g_this_pile), (h_this_s, ia G 313 g_this_s), (h_this_sizes, ia G 4 f_this_sizes), (h_this_sorts, ia G 4 f_this_sorts)] [(0, .ref h_this), (1, .int p0), (2, .int p1), (3, .int p2), (4, .int v4), (5, .int v5), (6, .int v6)] := by
    intro n
    induction n with
    | zero =>
      intro v4 v5 v6 g_this_laid g_this_pile g_this_s hf
      replace hf : (none : Option _) = some _ := hf
      cases hf
    | succ n ih =>
      intro v4 v5 v6 g_this_laid g_this_pile g_this_s hf
      rw [f_X9_wouldBe_L37] at hf
      refine hK1 _ _ _ _ (fun H locs ls h hl => ?_)
      refine lv_iload hx hb dX9_wouldBe_37 (lv_at hl 6 rfl) ?_
      refine lv_iload_n hx hb dX9_wouldBe_39 rfl (lv_at hl 3 rfl) ?_
      refine lv_icmp_ge (tgt := 145) hx hb dX9_wouldBe_40 rfl (fun c11 => ?_) (fun c11 => ?_)
      · replace hf := ifp c11 hf
        exact hK2 _ _ _ _ (B145 v4 v5 g_this_laid g_this_pile g_this_s hf) _ _ _ h (lv_sub hl [0, 4, 5] rfl)
      · replace hf := ifn c11 hf
        refine lv_iload hx hb dX9_wouldBe_43 (lv_at hl 4 rfl) ?_
        refine lv_if_ne (tgt := 145) hx hb dX9_wouldBe_45 rfl (fun c15 => ?_) (fun c15 => ?_)
        · replace hf := ifn c15 hf
          exact hK2 _ _ _ _ (B145 v4 v5 g_this_laid g_this_pile g_this_s hf) _ _ _ h (lv_sub hl [0, 4, 5] rfl)
        · replace hf := ifp c15 hf
          refine lv_aload_n hx hb dX9_wouldBe_48 rfl (lv_at hl 0 rfl) ?_
          refine lv_iload_n hx hb dX9_wouldBe_49 rfl (lv_at hl 1 rfl) ?_
          refine lv_iload_n hx hb dX9_wouldBe_50 rfl (lv_at hl 2 rfl) ?_
          refine lv_iload hx hb dX9_wouldBe_51 (lv_at hl 6 rfl) ?_
          replace hf := bd1_inv hf
          obtain ⟨r16, hc17, hf⟩ := hf
          refine r_ciV0 C h (c_X9_isItem hc17) mv_X9_338 rfl 0 rfl [0, 5] rfl rfl hl.1 rfl (Nat.le_of_ble_eq_true rfl) (rok (by decide)) dX9_wouldBe_53 (fun H locs h => ?_)
          refine lv_if_eq (tgt := 76) hx hb dX9_wouldBe_56 rfl (fun c18 => ?_) (fun c18 => ?_)
          · replace hf := ifp c18 hf
            refine lv_iconst (v := (-1 : Int32)) hx hb dX9_wouldBe_76 rfl ?_
            exact hK2 _ _ _ _ (B77 _ ih v5 v6 (-1 : Int32) g_this_laid g_this_pile g_this_s hf) _ _ _ h (lv_sub hl [0, 1, 2, 3, 5, 6] rfl)
          · replace hf := ifn c18 hf
            refine lv_aload_n hx hb dX9_wouldBe_59 rfl (lv_at hl 0 rfl) ?_
            refine r_get C h fk_X9_59 0 rfl rfl dX9_wouldBe_60 ?_
            refine lv_bipush (v := (40 : Int32)) hx hb dX9_wouldBe_63 rfl ?_
            refine lv_iload_n hx hb dX9_wouldBe_65 rfl (lv_at hl 1 rfl) ?_
            refine lv_imul hx hb dX9_wouldBe_66 ?_
            refine lv_iload_n hx hb dX9_wouldBe_67 rfl (lv_at hl 2 rfl) ?_
            refine lv_iadd hx hb dX9_wouldBe_68 ?_
            refine lv_iload hx hb dX9_wouldBe_69 (lv_at hl 6 rfl) ?_
            refine lv_iadd hx hb dX9_wouldBe_71 ?_
            replace hf := chkI_inv hf
            obtain ⟨hi37, hf⟩ := hf
            refine r_iald C h 2 rfl hi37 dX9_wouldBe_72 ?_
            refine lv_goto (tgt := 77) hx hb dX9_wouldBe_73 rfl ?_
            exact hK2 _ _ _ _ (B77 _ ih v5 v6 (f_this_number ((((40 : Int32) * p0) + p1) + v6).toNatClampNeg) g_this_laid g_this_pile g_this_s hf) _ _ _ h (lv_sub hl [0, 1, 2, 3, 5, 6] rfl)
  refine lv_iload_n hx hb dX9_wouldBe_0 rfl (lv_at hl 1 rfl) ?_
  replace hf := bd1_inv hf
  obtain ⟨r1, hc2, hf⟩ := hf
  refine r_ciS0 C h (c_X9_isSheet hc2) ms_X9_329 rfl [] rfl rfl hl.1 rfl (Nat.le_of_ble_eq_true rfl) (rok (by decide)) dX9_wouldBe_1 (fun H locs h => ?_)
  refine lv_if_eq (tgt := 17) hx hb dX9_wouldBe_4 rfl (fun c3 => ?_) (fun c3 => ?_)
  · replace hf := ifp c3 hf
    refine lv_iconst (v := (-1 : Int32)) hx hb dX9_wouldBe_17 rfl ?_
    cases hf
    exact r_iret C h hr hlk rfl dX9_wouldBe_18
  · replace hf := ifn c3 hf
    refine lv_iload_n hx hb dX9_wouldBe_7 rfl (lv_at hl 3 rfl) ?_
    refine lv_iconst (v := (0 : Int32)) hx hb dX9_wouldBe_8 rfl ?_
    refine lv_bipush (v := (20 : Int32)) hx hb dX9_wouldBe_9 rfl ?_
    replace hf := bd1_inv hf
    obtain ⟨r4, hc5, hf⟩ := hf
    refine r_ciS0 C h (c_X9_in1 hc5) ms_X9_71 rfl [] rfl rfl hl.1 rfl (Nat.le_of_ble_eq_true rfl) (rok (by decide)) dX9_wouldBe_11 (fun H locs h => ?_)
    refine lv_if_ne (tgt := 19) hx hb dX9_wouldBe_14 rfl (fun c6 => ?_) (fun c6 => ?_)
    · replace hf := ifn c6 hf
      refine lv_aload_n hx hb dX9_wouldBe_19 rfl (lv_at hl 0 rfl) ?_
      refine lv_iload_n hx hb dX9_wouldBe_20 rfl (lv_at hl 1 rfl) ?_
      refine lv_iconst (v := (0 : Int32)) hx hb dX9_wouldBe_21 rfl ?_
      replace hf := bd1_inv hf
      obtain ⟨r7, hc8, hf⟩ := hf
      refine r_ciV0 C h (c_X9_lacks hc8) mv_X9_335 rfl 0 rfl [0, 6] rfl rfl hl.1 rfl (Nat.le_of_ble_eq_true rfl) (rok (by decide)) dX9_wouldBe_22 (fun H locs h => ?_)
      refine lv_istore (lv' := [(4, .int r7), (0, .ref h_this), (1, .int p0), (2, .int p1), (3, .int p2)]) hx hb dX9_wouldBe_25 hl (by decide) rfl (fun ls hl => ?_)
      refine lv_iconst (v := (0 : Int32)) hx hb dX9_wouldBe_27 rfl ?_
      refine lv_istore (lv' := [(5, .int (0 : Int32)), (4, .int r7), (0, .ref h_this), (1, .int p0), (2, .int p1), (3, .int p2)]) hx hb dX9_wouldBe_28 hl (by decide) rfl (fun ls hl => ?_)
      refine lv_aload_n hx hb dX9_wouldBe_30 rfl (lv_at hl 2 rfl) ?_
      replace hf := bd1_inv hf
      obtain ⟨g9, hc10, hf⟩ := hf
      refine r_cvV (ws' := [(h_this, ob 9 [.ref h_this_s, .ref h_this_kept, .ref h_this_laid, .int x_this_isKept, .ref h_this_pile, .ref h_this_tape, .int x_this_taped, .ref h_this_letters, .int x_this_at, .int x_this_begun, .int x_this_token, .int x_this_value, .int x_this_opened, .int x_this_steps, .ref h_this_code0, .ref h_this_read, .ref h_this_saved, .ref h_this_plan, .ref h_this_bestPlan, .int x_this_most, .int x_this_many, .int x_this_few, .int x_this_everHome, .ref h_this_offThen, .ref h_this_paidThen, .int x_this_firstFit, .ref h_this_rows, .int x_this_rowMany, .ref h_this_sorts, .ref h_this_sizes, .ref h_this_number, .ref h_this_holds, .ref h_this_heldOne, .ref h_this_trace, .int x_this_traced, .int x_this_own, .int x_this_isParted]), (h_this_laid, ia G 65 g9), (h_this_number, ia G 160 f_this_number), (h_this_pile, ia G 200 f_this_pile), (h_this_s, ia G 313 f_this_s), (h_this_sizes, ia G 4 f_this_sizes), (h_this_sorts, ia G 4 f_this_sorts)]) C h (c_X9_layDown hc10) mv_X9_241 rfl 0 rfl [0, 1, 4] rfl rfl rfl rfl rfl hl.1 rfl (Nat.le_of_ble_eq_true rfl) (rok (by decide)) dX9_wouldBe_31 (fun H locs h => ?_)
      refine lv_iconst (v := (0 : Int32)) hx hb dX9_wouldBe_34 rfl ?_
      refine lv_istore (lv' := [(6, .int (0 : Int32)), (5, .int (0 : Int32)), (4, .int r7), (0, .ref h_this), (1, .int p0), (2, .int p1), (3, .int p2)]) hx hb dX9_wouldBe_35 hl (by decide) rfl (fun ls hl => ?_)
      exact hK2 _ _ _ _ (L37 1000 r7 (0 : Int32) (0 : Int32) g9 f_this_pile f_this_s hf) _ _ _ h (lv_sub hl [3, 4, 5, 6, 2, 1, 0] rfl)
    · replace hf := ifp c6 hf
      refine lv_iconst (v := (-1 : Int32)) hx hb dX9_wouldBe_17 rfl ?_
      cases hf
      exact r_iret C h hr hlk rfl dX9_wouldBe_18
def f_X9_shelf_b82 (p0 : Int32) (p1 : Int32) (p2 : Int32) (f_this_heldOne : Nat → Int32) (f_this_holds : Nat → Int32) (f_this_sizes : Nat → Int32) (s1 : Int32) (s2 : Int32) : Option (Int32 × (Nat → Int32) × (Nat → Int32)) := chkI s1 4 ((if p1 = 0 then chkI p0 4 (some ((1 : Int32), upd f_this_heldOne p0.toNatClampNeg p2, upd f_this_holds s1.toNatClampNeg s2)) else (if p1 = (1 : Int32) then chkI p2 4 (lt1 (f_this_sizes p2.toNatClampNeg) (fun (t16 : Int32) => chkI p0 4 (some ((1 : Int32), upd f_this_heldOne p0.toNatClampNeg t16, upd f_this_holds s1.toNatClampNeg s2)))) else chkI p0 4 (some ((1 : Int32), upd f_this_heldOne p0.toNatClampNeg (0 : Int32), upd f_this_holds s1.toNatClampNeg s2)))))
def f_X9_shelf_b81 (p0 : Int32) (p1 : Int32) (p2 : Int32) (f_this_heldOne : Nat → Int32) (f_this_holds : Nat → Int32) (f_this_sizes : Nat → Int32) (s1 : Int32) : Option (Int32 × (Nat → Int32) × (Nat → Int32)) := f_X9_shelf_b82 p0 p1 p2 f_this_heldOne f_this_holds f_this_sizes s1 (-1 : Int32)
def f_X9_shelf_b42 (p0 : Int32) (p1 : Int32) (p2 : Int32) (f_this_heldOne : Nat → Int32) (f_this_holds : Nat → Int32) (f_this_sizes : Nat → Int32) (f_this_sorts : Nat → Int32) : Option (Int32 × (Nat → Int32) × (Nat → Int32)) := (if p1 = 0 then f_X9_shelf_b82 p0 p1 p2 f_this_heldOne f_this_holds f_this_sizes p0 (0 : Int32) else (if p1 = (1 : Int32) then chkI p2 4 ((if (f_this_sorts p2.toNatClampNeg) < 0 then f_X9_shelf_b81 p0 p1 p2 f_this_heldOne f_this_holds f_this_sizes p0 else chkI p2 4 (f_X9_shelf_b82 p0 p1 p2 f_this_heldOne f_this_holds f_this_sizes p0 ((10 : Int32) + (f_this_sorts p2.toNatClampNeg))))) else f_X9_shelf_b81 p0 p1 p2 f_this_heldOne f_this_holds f_this_sizes p0))
def f_X9_shelf_b28 (p0 : Int32) (p1 : Int32) (p2 : Int32) (f_this_heldOne : Nat → Int32) (f_this_holds : Nat → Int32) (f_this_sizes : Nat → Int32) (f_this_sorts : Nat → Int32) : Option (Int32 × (Nat → Int32) × (Nat → Int32)) := (if p1 = (1 : Int32) then bd1 (f_X9_isSheet p2) (fun r22 => (if r22 = 0 then some ((-1 : Int32), f_this_heldOne, f_this_holds) else f_X9_shelf_b42 p0 p1 p2 f_this_heldOne f_this_holds f_this_sizes f_this_sorts)) else f_X9_shelf_b42 p0 p1 p2 f_this_heldOne f_this_holds f_this_sizes f_this_sorts)
def f_X9_shelf (p0 : Int32) (p1 : Int32) (p2 : Int32) (f_this_heldOne : Nat → Int32) (f_this_holds : Nat → Int32) (f_this_s : Nat → Int32) (f_this_sizes : Nat → Int32) (f_this_sorts : Nat → Int32) : Option (Int32 × (Nat → Int32) × (Nat → Int32)) := bd1 (f_X9_isSheet p0) (fun r1 => (if r1 = 0 then some ((-1 : Int32), f_this_heldOne, f_this_holds) else bd1 (f_X9_in1 p1 (0 : Int32) (2 : Int32)) (fun r4 => (if r4 = 0 then some ((-1 : Int32), f_this_heldOne, f_this_holds) else (if p1 = 0 then bd1 (f_X9_isShip p2 f_this_s) (fun r25 => (if r25 = 0 then some ((-1 : Int32), f_this_heldOne, f_this_holds) else f_X9_shelf_b28 p0 p1 p2 f_this_heldOne f_this_holds f_this_sizes f_this_sorts)) else f_X9_shelf_b28 p0 p1 p2 f_this_heldOne f_this_holds f_this_sizes f_this_sorts)))))
set_option maxRecDepth 100000 in
set_option maxHeartbeats 4000000 in
theorem c_X9_shelf {l : Launch} {G : Gt} {h_this h_this_s h_this_kept h_this_laid h_this_pile h_this_tape h_this_letters h_this_code0 h_this_read h_this_saved h_this_plan h_this_bestPlan h_this_offThen h_this_paidThen h_this_rows h_this_sorts h_this_sizes h_this_number h_this_holds h_this_heldOne h_this_trace : Nat} {p0 : Int32} {p1 : Int32} {p2 : Int32} {x_this_isKept : Int32} {x_this_taped : Int32} {x_this_at : Int32} {x_this_begun : Int32} {x_this_token : Int32} {x_this_value : Int32} {x_this_opened : Int32} {x_this_steps : Int32} {x_this_most : Int32} {x_this_many : Int32} {x_this_few : Int32} {x_this_everHome : Int32} {x_this_firstFit : Int32} {x_this_rowMany : Int32} {x_this_traced : Int32} {x_this_own : Int32} {x_this_isParted : Int32} {f_this_heldOne : Nat → Int32} {f_this_holds : Nat → Int32} {f_this_s : Nat → Int32} {f_this_sizes : Nat → Int32} {f_this_sorts : Nat → Int32} {r : Int32} {m_this_heldOne : Nat → Int32} {m_this_holds : Nat → Int32} (hf : f_X9_shelf p0 p1 p2 f_this_heldOne f_this_holds f_this_s f_this_sizes f_this_sorts = some (r, m_this_heldOne, m_this_holds)) : mFi l G yX9_shelf cX9_shelf 4 .int 2 [.ref h_this, .int p0, .int p1, .int p2] [(h_this, ob 9 [.ref h_this_s, .ref h_this_kept, .ref h_this_laid, .int x_this_isKept, .ref h_this_pile, .ref h_this_tape, .int x_this_taped, .ref h_this_letters, .int x_this_at, .int x_this_begun, .int x_this_token, .int x_this_value, .int x_this_opened, .int x_this_steps, .ref h_this_code0, .ref h_this_read, .ref h_this_saved, .ref h_this_plan, .ref h_this_bestPlan, .int x_this_most, .int x_this_many, .int x_this_few, .int x_this_everHome, .ref h_this_offThen, .ref h_this_paidThen, .int x_this_firstFit, .ref h_this_rows, .int x_this_rowMany, .ref h_this_sorts, .ref h_this_sizes, .ref h_this_number, .ref h_this_holds, .ref h_this_heldOne, .ref h_this_trace, .int x_this_traced, .int x_this_own, .int x_this_isParted]), (h_this_heldOne, ia G 4 f_this_heldOne), (h_this_holds, ia G 4 f_this_holds), (h_this_s, ia G 313 f_this_s), (h_this_sizes, ia G 4 f_this_sizes), (h_this_sorts, ia G 4 f_this_sorts)] r [(h_this, ob 9 [.ref h_this_s, .ref h_this_kept, .ref h_this_laid, .int x_this_isKept, .ref h_this_pile, .ref h_this_tape, .int x_this_taped, .ref h_this_letters, .int x_this_at, .int x_this_begun, .int x_this_token, .int x_this_value, .int x_this_opened, .int x_this_steps, .ref h_this_code0, .ref h_this_read, .ref h_this_saved, .ref h_this_plan, .ref h_this_bestPlan, .int x_this_most, .int x_this_many, .int x_this_few, .int x_this_everHome, .ref h_this_offThen, .ref h_this_paidThen, .int x_this_firstFit, .ref h_this_rows, .int x_this_rowMany, .ref h_this_sorts, .ref h_this_sizes, .ref h_this_number, .ref h_this_holds, .ref h_this_heldOne, .ref h_this_trace, .int x_this_traced, .int x_this_own, .int x_this_isParted]), (h_this_heldOne, ia G 4 m_this_heldOne), (h_this_holds, ia G 4 m_this_holds), (h_this_s, ia G 313 f_this_s), (h_this_sizes, ia G 4 f_this_sizes), (h_this_sorts, ia G 4 f_this_sorts)] := by
  refine mFi.of (by decide +kernel) (Nat.le_of_ble_eq_true rfl) ?_
  intro p e s m below meth c A C hr hlk h ls hl
  obtain ⟨hx, hb, hml, hown, hts⟩ := id C
  replace hl : lv_has ls 4 [(0, .ref h_this), (1, .int p0), (2, .int p1), (3, .int p2)] := hl
  unfold f_X9_shelf at hf
  refine with_K G A 4 (fun K hK1 hK2 => ?_)
  have B82 : ∀ (s1 : Int32) (s2 : Int32), f_X9_shelf_b82 p0 p1 p2 f_this_heldOne f_this_holds f_this_sizes s1 s2 = some (r, m_this_heldOne, m_this_holds) → K 82 [.int s2, .int s1, .ref h_this_holds] [(h_this, ob 9 [.ref h_this_s, .ref h_this_kept, .ref h_this_laid, .int x_this_isKept, .ref h_this_pile, .ref h_this_tape, .int x_this_taped, .ref h_this_letters, .int x_this_at, .int x_this_begun, .int x_this_token, .int x_this_value, .int x_this_opened, .int x_this_steps, .ref h_this_code0, .ref h_this_read, .ref h_this_saved, .ref h_this_plan, .ref h_this_bestPlan, .int x_this_most, .int x_this_many, .int x_this_few, .int x_this_everHome, .ref h_this_offThen, .ref h_this_paidThen, .int x_this_firstFit, .ref h_this_rows, .int x_this_rowMany, .ref h_this_sorts, .ref h_this_sizes, .ref h_this_number, .ref h_this_holds, .ref h_this_heldOne, .ref h_this_trace, .int x_this_traced, .int x_this_own, .int x_this_isParted]), (h_this_heldOne, ia G 4 f_this_heldOne), (h_this_holds, ia G 4 f_this_holds), (h_this_s, ia G 313 f_this_s), (h_this_sizes, ia G 4 f_this_sizes), (h_this_sorts, ia G 4 f_this_sorts)] [(0, .ref h_this), (1, .int p0), (2, .int p1), (3, .int p2)] := by
    intro s1 s2 hf
    unfold f_X9_shelf_b82 at hf
    refine hK1 _ _ _ _ (fun H locs ls h hl => ?_)
    replace hf := chkI_inv hf
    obtain ⟨hi11, hf⟩ := hf
    refine r_iast (ws' := [(h_this, ob 9 [.ref h_this_s, .ref h_this_kept, .ref h_this_laid, .int x_this_isKept, .ref h_this_pile, .ref h_this_tape, .int x_this_taped, .ref h_this_letters, .int x_this_at, .int x_this_begun, .int x_this_token, .int x_this_value, .int x_this_opened, .int x_this_steps, .ref h_this_code0, .ref h_this_read, .ref h_this_saved, .ref h_this_plan, .ref h_this_bestPlan, .int x_this_most, .int x_this_many, .int x_this_few, .int x_this_everHome, .ref h_this_offThen, .ref h_this_paidThen, .int x_this_firstFit, .ref h_this_rows, .int x_this_rowMany, .ref h_this_sorts, .ref h_this_sizes, .ref h_this_number, .ref h_this_holds, .ref h_this_heldOne, .ref h_this_trace, .int x_this_traced, .int x_this_own, .int x_this_isParted]), (h_this_heldOne, ia G 4 f_this_heldOne), (h_this_holds, ia G 4 (upd f_this_holds s1.toNatClampNeg s2)), (h_this_s, ia G 313 f_this_s), (h_this_sizes, ia G 4 f_this_sizes), (h_this_sorts, ia G 4 f_this_sorts)]) C h 2 rfl hi11 dX9_shelf_82 rfl (fun H locs h => ?_)
    refine lv_aload_n hx hb dX9_shelf_83 rfl (lv_at hl 0 rfl) ?_
    refine r_get C h fk_X9_65 0 rfl rfl dX9_shelf_84 ?_
    refine lv_iload_n hx hb dX9_shelf_87 rfl (lv_at hl 1 rfl) ?_
    refine lv_iload_n hx hb dX9_shelf_88 rfl (lv_at hl 2 rfl) ?_
    refine lv_if_ne (tgt := 96) hx hb dX9_shelf_89 rfl (fun c12 => ?_) (fun c12 => ?_)
    · replace hf := ifn c12 hf
      refine lv_iload_n hx hb dX9_shelf_96 rfl (lv_at hl 2 rfl) ?_
      refine lv_iconst (v := (1 : Int32)) hx hb dX9_shelf_97 rfl ?_
      refine lv_icmp_ne (tgt := 110) hx hb dX9_shelf_98 rfl (fun c13 => ?_) (fun c13 => ?_)
      · replace hf := ifn c13 hf
        refine lv_iconst (v := (0 : Int32)) hx hb dX9_shelf_110 rfl ?_
        replace hf := chkI_inv hf
        obtain ⟨hi14, hf⟩ := hf
        refine r_iast (ws' := [(h_this, ob 9 [.ref h_this_s, .ref h_this_kept, .ref h_this_laid, .int x_this_isKept, .ref h_this_pile, .ref h_this_tape, .int x_this_taped, .ref h_this_letters, .int x_this_at, .int x_this_begun, .int x_this_token, .int x_this_value, .int x_this_opened, .int x_this_steps, .ref h_this_code0, .ref h_this_read, .ref h_this_saved, .ref h_this_plan, .ref h_this_bestPlan, .int x_this_most, .int x_this_many, .int x_this_few, .int x_this_everHome, .ref h_this_offThen, .ref h_this_paidThen, .int x_this_firstFit, .ref h_this_rows, .int x_this_rowMany, .ref h_this_sorts, .ref h_this_sizes, .ref h_this_number, .ref h_this_holds, .ref h_this_heldOne, .ref h_this_trace, .int x_this_traced, .int x_this_own, .int x_this_isParted]), (h_this_heldOne, ia G 4 (upd f_this_heldOne p0.toNatClampNeg (0 : Int32))), (h_this_holds, ia G 4 (upd f_this_holds s1.toNatClampNeg s2)), (h_this_s, ia G 313 f_this_s), (h_this_sizes, ia G 4 f_this_sizes), (h_this_sorts, ia G 4 f_this_sorts)]) C h 1 rfl hi14 dX9_shelf_111 rfl (fun H locs h => ?_)
        refine lv_iconst (v := (1 : Int32)) hx hb dX9_shelf_112 rfl ?_
        cases hf
        exact r_iret C h hr hlk rfl dX9_shelf_113
      · replace hf := ifp c13 hf
        refine lv_aload_n hx hb dX9_shelf_101 rfl (lv_at hl 0 rfl) ?_
        refine r_get C h fk_X9_56 0 rfl rfl dX9_shelf_102 ?_
        refine lv_iload_n hx hb dX9_shelf_105 rfl (lv_at hl 3 rfl) ?_
        replace hf := chkI_inv hf
        obtain ⟨hi15, hf⟩ := hf
        refine r_iald C h 4 rfl hi15 dX9_shelf_106 ?_
        refine lv_goto (tgt := 111) hx hb dX9_shelf_107 rfl ?_
        refine lv_topi (fun t16 et16 => ?_)
        replace hf := lt1_inv et16 hf
        replace hf := chkI_inv hf
        obtain ⟨hi17, hf⟩ := hf
        refine r_iast (ws' := [(h_this, ob 9 [.ref h_this_s, .ref h_this_kept, .ref h_this_laid, .int x_this_isKept, .ref h_this_pile, .ref h_this_tape, .int x_this_taped, .ref h_this_letters, .int x_this_at, .int x_this_begun, .int x_this_token, .int x_this_value, .int x_this_opened, .int x_this_steps, .ref h_this_code0, .ref h_this_read, .ref h_this_saved, .ref h_this_plan, .ref h_this_bestPlan, .int x_this_most, .int x_this_many, .int x_this_few, .int x_this_everHome, .ref h_this_offThen, .ref h_this_paidThen, .int x_this_firstFit, .ref h_this_rows, .int x_this_rowMany, .ref h_this_sorts, .ref h_this_sizes, .ref h_this_number, .ref h_this_holds, .ref h_this_heldOne, .ref h_this_trace, .int x_this_traced, .int x_this_own, .int x_this_isParted]), (h_this_heldOne, ia G 4 (upd f_this_heldOne p0.toNatClampNeg t16)), (h_this_holds, ia G 4 (upd f_this_holds s1.toNatClampNeg s2)), (h_this_s, ia G 313 f_this_s), (h_this_sizes, ia G 4 f_this_sizes), (h_this_sorts, ia G 4 f_this_sorts)]) C h 1 rfl hi17 dX9_shelf_111 rfl (fun H locs h => ?_)
        refine lv_iconst (v := (1 : Int32)) hx hb dX9_shelf_112 rfl ?_
        cases hf
        exact r_iret C h hr hlk rfl dX9_shelf_113
    · replace hf := ifp c12 hf
      refine lv_iload_n hx hb dX9_shelf_92 rfl (lv_at hl 3 rfl) ?_
      refine lv_goto (tgt := 111) hx hb dX9_shelf_93 rfl ?_
      replace hf := chkI_inv hf
      obtain ⟨hi18, hf⟩ := hf
      refine r_iast (ws' := [(h_this, ob 9 [.ref h_this_s, .ref h_this_kept, .ref h_this_laid, .int x_this_isKept, .ref h_this_pile, .ref h_this_tape, .int x_this_taped, .ref h_this_letters, .int x_this_at, .int x_this_begun, .int x_this_token, .int x_this_value, .int x_this_opened, .int x_this_steps, .ref h_this_code0, .ref h_this_read, .ref h_this_saved, .ref h_this_plan, .ref h_this_bestPlan, .int x_this_most, .int x_this_many, .int x_this_few, .int x_this_everHome, .ref h_this_offThen, .ref h_this_paidThen, .int x_this_firstFit, .ref h_this_rows, .int x_this_rowMany, .ref h_this_sorts, .ref h_this_sizes, .ref h_this_number, .ref h_this_holds, .ref h_this_heldOne, .ref h_this_trace, .int x_this_traced, .int x_this_own, .int x_this_isParted]), (h_this_heldOne, ia G 4 (upd f_this_heldOne p0.toNatClampNeg p2)), (h_this_holds, ia G 4 (upd f_this_holds s1.toNatClampNeg s2)), (h_this_s, ia G 313 f_this_s), (h_this_sizes, ia G 4 f_this_sizes), (h_this_sorts, ia G 4 f_this_sorts)]) C h 1 rfl hi18 dX9_shelf_111 rfl (fun H locs h => ?_)
      refine lv_iconst (v := (1 : Int32)) hx hb dX9_shelf_112 rfl ?_
      cases hf
      exact r_iret C h hr hlk rfl dX9_shelf_113
  have B81 : ∀ (s1 : Int32), f_X9_shelf_b81 p0 p1 p2 f_this_heldOne f_this_holds f_this_sizes s1 = some (r, m_this_heldOne, m_this_holds) → K 81 [.int s1, .ref h_this_holds] [(h_this, ob 9 [.ref h_this_s, .ref h_this_kept, .ref h_this_laid, .int x_this_isKept, .ref h_this_pile, .ref h_this_tape, .int x_this_taped, .ref h_this_letters, .int x_this_at, .int x_this_begun, .int x_this_token, .int x_this_value, .int x_this_opened, .int x_this_steps, .ref h_this_code0, .ref h_this_read, .ref h_this_saved, .ref h_this_plan, .ref h_this_bestPlan, .int x_this_most, .int x_this_many, .int x_this_few, .int x_this_everHome, .ref h_this_offThen, .ref h_this_paidThen, .int x_this_firstFit, .ref h_this_rows, .int x_this_rowMany, .ref h_this_sorts, .ref h_this_sizes, .ref h_this_number, .ref h_this_holds, .ref h_this_heldOne, .ref h_this_trace, .int x_this_traced, .int x_this_own, .int x_this_isParted]), (h_this_heldOne, ia G 4 f_this_heldOne), (h_this_holds, ia G 4 f_this_holds), (h_this_s, ia G 313 f_this_s), (h_this_sizes, ia G 4 f_this_sizes), (h_this_sorts, ia G 4 f_this_sorts)] [(0, .ref h_this), (1, .int p0), (2, .int p1), (3, .int p2)] := by
    intro s1 hf
    unfold f_X9_shelf_b81 at hf
    refine hK1 _ _ _ _ (fun H locs ls h hl => ?_)
    refine lv_iconst (v := (-1 : Int32)) hx hb dX9_shelf_81 rfl ?_
    exact hK2 _ _ _ _ (B82 s1 (-1 : Int32) hf) _ _ _ h (lv_sub hl [0, 1, 2, 3] rfl)
  have B42 : f_X9_shelf_b42 p0 p1 p2 f_this_heldOne f_this_holds f_this_sizes f_this_sorts = some (r, m_this_heldOne, m_this_holds) → K 42 ([] : List Value) [(h_this, ob 9 [.ref h_this_s, .ref h_this_kept, .ref h_this_laid, .int x_this_isKept, .ref h_this_pile, .ref h_this_tape, .int x_this_taped, .ref h_this_letters, .int x_this_at, .int x_this_begun, .int x_this_token, .int x_this_value, .int x_this_opened, .int x_this_steps, .ref h_this_code0, .ref h_this_read, .ref h_this_saved, .ref h_this_plan, .ref h_this_bestPlan, .int x_this_most, .int x_this_many, .int x_this_few, .int x_this_everHome, .ref h_this_offThen, .ref h_this_paidThen, .int x_this_firstFit, .ref h_this_rows, .int x_this_rowMany, .ref h_this_sorts, .ref h_this_sizes, .ref h_this_number, .ref h_this_holds, .ref h_this_heldOne, .ref h_this_trace, .int x_this_traced, .int x_this_own, .int x_this_isParted]), (h_this_heldOne, ia G 4 f_this_heldOne), (h_this_holds, ia G 4 f_this_holds), (h_this_s, ia G 313 f_this_s), (h_this_sizes, ia G 4 f_this_sizes), (h_this_sorts, ia G 4 f_this_sorts)] [(0, .ref h_this), (1, .int p0), (2, .int p1), (3, .int p2)] := by
    intro hf
    unfold f_X9_shelf_b42 at hf
    refine hK1 _ _ _ _ (fun H locs ls h hl => ?_)
    refine lv_aload_n hx hb dX9_shelf_42 rfl (lv_at hl 0 rfl) ?_
    refine r_get C h fk_X9_62 0 rfl rfl dX9_shelf_43 ?_
    refine lv_iload_n hx hb dX9_shelf_46 rfl (lv_at hl 1 rfl) ?_
    refine lv_iload_n hx hb dX9_shelf_47 rfl (lv_at hl 2 rfl) ?_
    refine lv_if_ne (tgt := 55) hx hb dX9_shelf_48 rfl (fun c9 => ?_) (fun c9 => ?_)
    · replace hf := ifn c9 hf
      refine lv_iload_n hx hb dX9_shelf_55 rfl (lv_at hl 2 rfl) ?_
      refine lv_iconst (v := (1 : Int32)) hx hb dX9_shelf_56 rfl ?_
      refine lv_icmp_ne (tgt := 81) hx hb dX9_shelf_57 rfl (fun c10 => ?_) (fun c10 => ?_)
      · replace hf := ifn c10 hf
        exact hK2 _ _ _ _ (B81 p0 hf) _ _ _ h (lv_sub hl [0, 1, 2, 3] rfl)
      · replace hf := ifp c10 hf
        refine lv_aload_n hx hb dX9_shelf_60 rfl (lv_at hl 0 rfl) ?_
        refine r_get C h fk_X9_53 0 rfl rfl dX9_shelf_61 ?_
        refine lv_iload_n hx hb dX9_shelf_64 rfl (lv_at hl 3 rfl) ?_
        replace hf := chkI_inv hf
        obtain ⟨hi19, hf⟩ := hf
        refine r_iald C h 5 rfl hi19 dX9_shelf_65 ?_
        refine lv_if_lt (tgt := 81) hx hb dX9_shelf_66 rfl (fun c20 => ?_) (fun c20 => ?_)
        · replace hf := ifp c20 hf
          exact hK2 _ _ _ _ (B81 p0 hf) _ _ _ h (lv_sub hl [0, 1, 2, 3] rfl)
        · replace hf := ifn c20 hf
          refine lv_bipush (v := (10 : Int32)) hx hb dX9_shelf_69 rfl ?_
          refine lv_aload_n hx hb dX9_shelf_71 rfl (lv_at hl 0 rfl) ?_
          refine r_get C h fk_X9_53 0 rfl rfl dX9_shelf_72 ?_
          refine lv_iload_n hx hb dX9_shelf_75 rfl (lv_at hl 3 rfl) ?_
          replace hf := chkI_inv hf
          obtain ⟨hi21, hf⟩ := hf
          refine r_iald C h 5 rfl hi21 dX9_shelf_76 ?_
          refine lv_iadd hx hb dX9_shelf_77 ?_
          refine lv_goto (tgt := 82) hx hb dX9_shelf_78 rfl ?_
          exact hK2 _ _ _ _ (B82 p0 ((10 : Int32) + (f_this_sorts p2.toNatClampNeg)) hf) _ _ _ h (lv_sub hl [0, 1, 2, 3] rfl)
    · replace hf := ifp c9 hf
      refine lv_iconst (v := (0 : Int32)) hx hb dX9_shelf_51 rfl ?_
      refine lv_goto (tgt := 82) hx hb dX9_shelf_52 rfl ?_
      exact hK2 _ _ _ _ (B82 p0 (0 : Int32) hf) _ _ _ h (lv_sub hl [0, 1, 2, 3] rfl)
  have B28 : f_X9_shelf_b28 p0 p1 p2 f_this_heldOne f_this_holds f_this_sizes f_this_sorts = some (r, m_this_heldOne, m_this_holds) → K 28 ([] : List Value) [(h_this, ob 9 [.ref h_this_s, .ref h_this_kept, .ref h_this_laid, .int x_this_isKept, .ref h_this_pile, .ref h_this_tape, .int x_this_taped, .ref h_this_letters, .int x_this_at, .int x_this_begun, .int x_this_token, .int x_this_value, .int x_this_opened, .int x_this_steps, .ref h_this_code0, .ref h_this_read, .ref h_this_saved, .ref h_this_plan, .ref h_this_bestPlan, .int x_this_most, .int x_this_many, .int x_this_few, .int x_this_everHome, .ref h_this_offThen, .ref h_this_paidThen, .int x_this_firstFit, .ref h_this_rows, .int x_this_rowMany, .ref h_this_sorts, .ref h_this_sizes, .ref h_this_number, .ref h_this_holds, .ref h_this_heldOne, .ref h_this_trace, .int x_this_traced, .int x_this_own, .int x_this_isParted]), (h_this_heldOne, ia G 4 f_this_heldOne), (h_this_holds, ia G 4 f_this_holds), (h_this_s, ia G 313 f_this_s), (h_this_sizes, ia G 4 f_this_sizes), (h_this_sorts, ia G 4 f_this_sorts)] [(0, .ref h_this), (1, .int p0), (2, .int p1), (3, .int p2)] := by
    intro hf
    unfold f_X9_shelf_b28 at hf
    refine hK1 _ _ _ _ (fun H locs ls h hl => ?_)
    refine lv_iload_n hx hb dX9_shelf_28 rfl (lv_at hl 2 rfl) ?_
    refine lv_iconst (v := (1 : Int32)) hx hb dX9_shelf_29 rfl ?_
    refine lv_icmp_ne (tgt := 42) hx hb dX9_shelf_30 rfl (fun c8 => ?_) (fun c8 => ?_)
    · replace hf := ifn c8 hf
      exact hK2 _ _ _ _ (B42 hf) _ _ _ h (lv_sub hl [0, 1, 2, 3] rfl)
    · replace hf := ifp c8 hf
      refine lv_iload_n hx hb dX9_shelf_33 rfl (lv_at hl 3 rfl) ?_
      replace hf := bd1_inv hf
      obtain ⟨r22, hc23, hf⟩ := hf
      refine r_ciS0 C h (c_X9_isSheet hc23) ms_X9_329 rfl [] rfl rfl hl.1 rfl (Nat.le_of_ble_eq_true rfl) (rok (by decide)) dX9_shelf_34 (fun H locs h => ?_)
      refine lv_if_ne (tgt := 42) hx hb dX9_shelf_37 rfl (fun c24 => ?_) (fun c24 => ?_)
      · replace hf := ifn c24 hf
        exact hK2 _ _ _ _ (B42 hf) _ _ _ h (lv_sub hl [0, 1, 2, 3] rfl)
      · replace hf := ifp c24 hf
        refine lv_iconst (v := (-1 : Int32)) hx hb dX9_shelf_40 rfl ?_
        cases hf
        exact r_iret C h hr hlk rfl dX9_shelf_41
  refine lv_iload_n hx hb dX9_shelf_0 rfl (lv_at hl 1 rfl) ?_
  replace hf := bd1_inv hf
  obtain ⟨r1, hc2, hf⟩ := hf
  refine r_ciS0 C h (c_X9_isSheet hc2) ms_X9_329 rfl [] rfl rfl hl.1 rfl (Nat.le_of_ble_eq_true rfl) (rok (by decide)) dX9_shelf_1 (fun H locs h => ?_)
  refine lv_if_eq (tgt := 40) hx hb dX9_shelf_4 rfl (fun c3 => ?_) (fun c3 => ?_)
  · replace hf := ifp c3 hf
    refine lv_iconst (v := (-1 : Int32)) hx hb dX9_shelf_40 rfl ?_
    cases hf
    exact r_iret C h hr hlk rfl dX9_shelf_41
  · replace hf := ifn c3 hf
    refine lv_iload_n hx hb dX9_shelf_7 rfl (lv_at hl 2 rfl) ?_
    refine lv_iconst (v := (0 : Int32)) hx hb dX9_shelf_8 rfl ?_
    refine lv_iconst (v := (2 : Int32)) hx hb dX9_shelf_9 rfl ?_
    replace hf := bd1_inv hf
    obtain ⟨r4, hc5, hf⟩ := hf
    refine r_ciS0 C h (c_X9_in1 hc5) ms_X9_71 rfl [] rfl rfl hl.1 rfl (Nat.le_of_ble_eq_true rfl) (rok (by decide)) dX9_shelf_10 (fun H locs h => ?_)
    refine lv_if_eq (tgt := 40) hx hb dX9_shelf_13 rfl (fun c6 => ?_) (fun c6 => ?_)
    · replace hf := ifp c6 hf
      refine lv_iconst (v := (-1 : Int32)) hx hb dX9_shelf_40 rfl ?_
      cases hf
      exact r_iret C h hr hlk rfl dX9_shelf_41
    · replace hf := ifn c6 hf
      refine lv_iload_n hx hb dX9_shelf_16 rfl (lv_at hl 2 rfl) ?_
      refine lv_if_ne (tgt := 28) hx hb dX9_shelf_17 rfl (fun c7 => ?_) (fun c7 => ?_)
      · replace hf := ifn c7 hf
        exact hK2 _ _ _ _ (B28 hf) _ _ _ h (lv_sub hl [0, 1, 2, 3] rfl)
      · replace hf := ifp c7 hf
        refine lv_aload_n hx hb dX9_shelf_20 rfl (lv_at hl 0 rfl) ?_
        refine lv_iload_n hx hb dX9_shelf_21 rfl (lv_at hl 3 rfl) ?_
        replace hf := bd1_inv hf
        obtain ⟨r25, hc26, hf⟩ := hf
        refine r_ciV0 C h (c_X9_isShip hc26) mv_X9_226 rfl 0 rfl [0, 3] rfl rfl hl.1 rfl (Nat.le_of_ble_eq_true rfl) (rok (by decide)) dX9_shelf_22 (fun H locs h => ?_)
        refine lv_if_eq (tgt := 40) hx hb dX9_shelf_25 rfl (fun c27 => ?_) (fun c27 => ?_)
        · replace hf := ifp c27 hf
          refine lv_iconst (v := (-1 : Int32)) hx hb dX9_shelf_40 rfl ?_
          cases hf
          exact r_iret C h hr hlk rfl dX9_shelf_41
        · replace hf := ifn c27 hf
          exact hK2 _ _ _ _ (B28 hf) _ _ _ h (lv_sub hl [0, 1, 2, 3] rfl)
def f_X9_heldOn (p0 : Int32) (f_this_heldOne : Nat → Int32) (f_this_holds : Nat → Int32) (f_this_s : Nat → Int32) : Option (Int32) := chkI p0 4 ((if (f_this_holds p0.toNatClampNeg) = 0 then chkI p0 4 (bd1 (f_X9_isShip (f_this_heldOne p0.toNatClampNeg) f_this_s) (fun r5 => (if r5 = 0 then some (-1 : Int32) else chkI p0 4 (some (f_this_holds p0.toNatClampNeg))))) else chkI p0 4 (some (f_this_holds p0.toNatClampNeg))))
set_option maxRecDepth 100000 in
set_option maxHeartbeats 4000000 in
theorem c_X9_heldOn {l : Launch} {G : Gt} {h_this h_this_s h_this_kept h_this_laid h_this_pile h_this_tape h_this_letters h_this_code0 h_this_read h_this_saved h_this_plan h_this_bestPlan h_this_offThen h_this_paidThen h_this_rows h_this_sorts h_this_sizes h_this_number h_this_holds h_this_heldOne h_this_trace : Nat} {p0 : Int32} {x_this_isKept : Int32} {x_this_taped : Int32} {x_this_at : Int32} {x_this_begun : Int32} {x_this_token : Int32} {x_this_value : Int32} {x_this_opened : Int32} {x_this_steps : Int32} {x_this_most : Int32} {x_this_many : Int32} {x_this_few : Int32} {x_this_everHome : Int32} {x_this_firstFit : Int32} {x_this_rowMany : Int32} {x_this_traced : Int32} {x_this_own : Int32} {x_this_isParted : Int32} {f_this_heldOne : Nat → Int32} {f_this_holds : Nat → Int32} {f_this_s : Nat → Int32} {r : Int32} (hf : f_X9_heldOn p0 f_this_heldOne f_this_holds f_this_s = some r) : mFi l G yX9_heldOn cX9_heldOn 2 .int 2 [.ref h_this, .int p0] [(h_this, ob 9 [.ref h_this_s, .ref h_this_kept, .ref h_this_laid, .int x_this_isKept, .ref h_this_pile, .ref h_this_tape, .int x_this_taped, .ref h_this_letters, .int x_this_at, .int x_this_begun, .int x_this_token, .int x_this_value, .int x_this_opened, .int x_this_steps, .ref h_this_code0, .ref h_this_read, .ref h_this_saved, .ref h_this_plan, .ref h_this_bestPlan, .int x_this_most, .int x_this_many, .int x_this_few, .int x_this_everHome, .ref h_this_offThen, .ref h_this_paidThen, .int x_this_firstFit, .ref h_this_rows, .int x_this_rowMany, .ref h_this_sorts, .ref h_this_sizes, .ref h_this_number, .ref h_this_holds, .ref h_this_heldOne, .ref h_this_trace, .int x_this_traced, .int x_this_own, .int x_this_isParted]), (h_this_heldOne, ia G 4 f_this_heldOne), (h_this_holds, ia G 4 f_this_holds), (h_this_s, ia G 313 f_this_s)] r [(h_this, ob 9 [.ref h_this_s, .ref h_this_kept, .ref h_this_laid, .int x_this_isKept, .ref h_this_pile, .ref h_this_tape, .int x_this_taped, .ref h_this_letters, .int x_this_at, .int x_this_begun, .int x_this_token, .int x_this_value, .int x_this_opened, .int x_this_steps, .ref h_this_code0, .ref h_this_read, .ref h_this_saved, .ref h_this_plan, .ref h_this_bestPlan, .int x_this_most, .int x_this_many, .int x_this_few, .int x_this_everHome, .ref h_this_offThen, .ref h_this_paidThen, .int x_this_firstFit, .ref h_this_rows, .int x_this_rowMany, .ref h_this_sorts, .ref h_this_sizes, .ref h_this_number, .ref h_this_holds, .ref h_this_heldOne, .ref h_this_trace, .int x_this_traced, .int x_this_own, .int x_this_isParted]), (h_this_heldOne, ia G 4 f_this_heldOne), (h_this_holds, ia G 4 f_this_holds), (h_this_s, ia G 313 f_this_s)] := by
  refine mFi.of (by decide +kernel) (Nat.le_of_ble_eq_true rfl) ?_
  intro p e s m below meth c A C hr hlk h ls hl
  obtain ⟨hx, hb, hml, hown, hts⟩ := id C
  replace hl : lv_has ls 2 [(0, .ref h_this), (1, .int p0)] := hl
  unfold f_X9_heldOn at hf
  refine lv_aload_n hx hb dX9_heldOn_0 rfl (lv_at hl 0 rfl) ?_
  refine r_get C h fk_X9_62 0 rfl rfl dX9_heldOn_1 ?_
  refine lv_iload_n hx hb dX9_heldOn_4 rfl (lv_at hl 1 rfl) ?_
  replace hf := chkI_inv hf
  obtain ⟨hi1, hf⟩ := hf
  refine r_iald C h 2 rfl hi1 dX9_heldOn_5 ?_
  refine lv_if_ne (tgt := 26) hx hb dX9_heldOn_6 rfl (fun c2 => ?_) (fun c2 => ?_)
  · replace hf := ifn c2 hf
    refine lv_aload_n hx hb dX9_heldOn_26 rfl (lv_at hl 0 rfl) ?_
    refine r_get C h fk_X9_62 0 rfl rfl dX9_heldOn_27 ?_
    refine lv_iload_n hx hb dX9_heldOn_30 rfl (lv_at hl 1 rfl) ?_
    replace hf := chkI_inv hf
    obtain ⟨hi3, hf⟩ := hf
    refine r_iald C h 2 rfl hi3 dX9_heldOn_31 ?_
    cases hf
    exact r_iret C h hr hlk rfl dX9_heldOn_32
  · replace hf := ifp c2 hf
    refine lv_aload_n hx hb dX9_heldOn_9 rfl (lv_at hl 0 rfl) ?_
    refine lv_aload_n hx hb dX9_heldOn_10 rfl (lv_at hl 0 rfl) ?_
    refine r_get C h fk_X9_65 0 rfl rfl dX9_heldOn_11 ?_
    refine lv_iload_n hx hb dX9_heldOn_14 rfl (lv_at hl 1 rfl) ?_
    replace hf := chkI_inv hf
    obtain ⟨hi4, hf⟩ := hf
    refine r_iald C h 1 rfl hi4 dX9_heldOn_15 ?_
    replace hf := bd1_inv hf
    obtain ⟨r5, hc6, hf⟩ := hf
    refine r_ciV0 C h (c_X9_isShip hc6) mv_X9_226 rfl 0 rfl [0, 3] rfl rfl hl.1 rfl (Nat.le_of_ble_eq_true rfl) (rok (by decide)) dX9_heldOn_16 (fun H locs h => ?_)
    refine lv_if_ne (tgt := 26) hx hb dX9_heldOn_19 rfl (fun c7 => ?_) (fun c7 => ?_)
    · replace hf := ifn c7 hf
      refine lv_aload_n hx hb dX9_heldOn_26 rfl (lv_at hl 0 rfl) ?_
      refine r_get C h fk_X9_62 0 rfl rfl dX9_heldOn_27 ?_
      refine lv_iload_n hx hb dX9_heldOn_30 rfl (lv_at hl 1 rfl) ?_
      replace hf := chkI_inv hf
      obtain ⟨hi8, hf⟩ := hf
      refine r_iald C h 2 rfl hi8 dX9_heldOn_31 ?_
      cases hf
      exact r_iret C h hr hlk rfl dX9_heldOn_32
    · replace hf := ifp c7 hf
      refine lv_iconst (v := (-1 : Int32)) hx hb dX9_heldOn_22 rfl ?_
      refine lv_goto (tgt := 32) hx hb dX9_heldOn_23 rfl ?_
      cases hf
      exact r_iret C h hr hlk rfl dX9_heldOn_32
def f_X9_taken_b88 (p0 : Int32) (f_this_heldOne : Nat → Int32) (s0 : Int32) : Option (Int32) := (if s0 = 0 then some (-13 : Int32) else chkI p0 4 (some (f_this_heldOne p0.toNatClampNeg)))
def f_X9_taken_b74 (p0 : Int32) (f_this_heldOne : Nat → Int32) : Option (Int32) := f_X9_taken_b88 p0 f_this_heldOne (0 : Int32)
def f_X9_taken_b29 (p0 : Int32) (p1 : Int32) (f_this_heldOne : Nat → Int32) (f_this_holds : Nat → Int32) (f_this_s : Nat → Int32) : Option (Int32) := bd1 (f_X9_heldOn p0 f_this_heldOne f_this_holds f_this_s) (fun r7 => (if 0 ≤ r7 then (if r7 = 0 then (if (10 : Int32) ≤ p1 then f_X9_taken_b74 p0 f_this_heldOne else chkI p0 4 (bd1 (f_X9_get (f_this_heldOne p0.toNatClampNeg) (0 : Int32) f_this_s) (fun r16 => bd1 (f_X9_isUnder r16 p1) (fun r18 => (if r18 = 0 then f_X9_taken_b74 p0 f_this_heldOne else f_X9_taken_b88 p0 f_this_heldOne (1 : Int32)))))) else (if r7 = p1 then f_X9_taken_b88 p0 f_this_heldOne (1 : Int32) else f_X9_taken_b88 p0 f_this_heldOne (0 : Int32))) else some (-11 : Int32)))
def f_X9_taken (p0 : Int32) (p1 : Int32) (f_this_heldOne : Nat → Int32) (f_this_holds : Nat → Int32) (f_this_s : Nat → Int32) : Option (Int32) := bd1 (f_X9_isSheet p0) (fun r1 => (if r1 = 0 then some (-1 : Int32) else bd1 (f_X9_in1 p1 (0 : Int32) (5 : Int32)) (fun r4 => (if r4 = 0 then bd1 (f_X9_in1 p1 (10 : Int32) (14 : Int32)) (fun r21 => (if r21 = 0 then some (-1 : Int32) else f_X9_taken_b29 p0 p1 f_this_heldOne f_this_holds f_this_s)) else f_X9_taken_b29 p0 p1 f_this_heldOne f_this_holds f_this_s))))
set_option maxRecDepth 100000 in
set_option maxHeartbeats 4000000 in
theorem c_X9_taken {l : Launch} {G : Gt} {h_this h_this_s h_this_kept h_this_laid h_this_pile h_this_tape h_this_letters h_this_code0 h_this_read h_this_saved h_this_plan h_this_bestPlan h_this_offThen h_this_paidThen h_this_rows h_this_sorts h_this_sizes h_this_number h_this_holds h_this_heldOne h_this_trace : Nat} {p0 : Int32} {p1 : Int32} {x_this_isKept : Int32} {x_this_taped : Int32} {x_this_at : Int32} {x_this_begun : Int32} {x_this_token : Int32} {x_this_value : Int32} {x_this_opened : Int32} {x_this_steps : Int32} {x_this_most : Int32} {x_this_many : Int32} {x_this_few : Int32} {x_this_everHome : Int32} {x_this_firstFit : Int32} {x_this_rowMany : Int32} {x_this_traced : Int32} {x_this_own : Int32} {x_this_isParted : Int32} {f_this_heldOne : Nat → Int32} {f_this_holds : Nat → Int32} {f_this_s : Nat → Int32} {r : Int32} (hf : f_X9_taken p0 p1 f_this_heldOne f_this_holds f_this_s = some r) : mFi l G yX9_taken cX9_taken 5 .int 3 [.ref h_this, .int p0, .int p1] [(h_this, ob 9 [.ref h_this_s, .ref h_this_kept, .ref h_this_laid, .int x_this_isKept, .ref h_this_pile, .ref h_this_tape, .int x_this_taped, .ref h_this_letters, .int x_this_at, .int x_this_begun, .int x_this_token, .int x_this_value, .int x_this_opened, .int x_this_steps, .ref h_this_code0, .ref h_this_read, .ref h_this_saved, .ref h_this_plan, .ref h_this_bestPlan, .int x_this_most, .int x_this_many, .int x_this_few, .int x_this_everHome, .ref h_this_offThen, .ref h_this_paidThen, .int x_this_firstFit, .ref h_this_rows, .int x_this_rowMany, .ref h_this_sorts, .ref h_this_sizes, .ref h_this_number, .ref h_this_holds, .ref h_this_heldOne, .ref h_this_trace, .int x_this_traced, .int x_this_own, .int x_this_isParted]), (h_this_heldOne, ia G 4 f_this_heldOne), (h_this_holds, ia G 4 f_this_holds), (h_this_s, ia G 313 f_this_s)] r [(h_this, ob 9 [.ref h_this_s, .ref h_this_kept, .ref h_this_laid, .int x_this_isKept, .ref h_this_pile, .ref h_this_tape, .int x_this_taped, .ref h_this_letters, .int x_this_at, .int x_this_begun, .int x_this_token, .int x_this_value, .int x_this_opened, .int x_this_steps, .ref h_this_code0, .ref h_this_read, .ref h_this_saved, .ref h_this_plan, .ref h_this_bestPlan, .int x_this_most, .int x_this_many, .int x_this_few, .int x_this_everHome, .ref h_this_offThen, .ref h_this_paidThen, .int x_this_firstFit, .ref h_this_rows, .int x_this_rowMany, .ref h_this_sorts, .ref h_this_sizes, .ref h_this_number, .ref h_this_holds, .ref h_this_heldOne, .ref h_this_trace, .int x_this_traced, .int x_this_own, .int x_this_isParted]), (h_this_heldOne, ia G 4 f_this_heldOne), (h_this_holds, ia G 4 f_this_holds), (h_this_s, ia G 313 f_this_s)] := by
  refine mFi.of (by decide +kernel) (Nat.le_of_ble_eq_true rfl) ?_
  intro p e s m below meth c A C hr hlk h ls hl
  obtain ⟨hx, hb, hml, hown, hts⟩ := id C
  replace hl : lv_has ls 5 [(0, .ref h_this), (1, .int p0), (2, .int p1)] := hl
  unfold f_X9_taken at hf
  refine with_K G A 5 (fun K hK1 hK2 => ?_)
  have B88 : ∀ (s0 : Int32), f_X9_taken_b88 p0 f_this_heldOne s0 = some r → K 88 [.int s0] [(h_this, ob 9 [.ref h_this_s, .ref h_this_kept, .ref h_this_laid, .int x_this_isKept, .ref h_this_pile, .ref h_this_tape, .int x_this_taped, .ref h_this_letters, .int x_this_at, .int x_this_begun, .int x_this_token, .int x_this_value, .int x_this_opened, .int x_this_steps, .ref h_this_code0, .ref h_this_read, .ref h_this_saved, .ref h_this_plan, .ref h_this_bestPlan, .int x_this_most, .int x_this_many, .int x_this_few, .int x_this_everHome, .ref h_this_offThen, .ref h_this_paidThen, .int x_this_firstFit, .ref h_this_rows, .int x_this_rowMany, .ref h_this_sorts, .ref h_this_sizes, .ref h_this_number, .ref h_this_holds, .ref h_this_heldOne, .ref h_this_trace, .int x_this_traced, .int x_this_own, .int x_this_isParted]), (h_this_heldOne, ia G 4 f_this_heldOne), (h_this_holds, ia G 4 f_this_holds), (h_this_s, ia G 313 f_this_s)] [(0, .ref h_this), (1, .int p0)] := by
    intro s0 hf
    unfold f_X9_taken_b88 at hf
    refine hK1 _ _ _ _ (fun H locs ls h hl => ?_)
    refine lv_istore (lv' := [(4, .int s0), (0, .ref h_this), (1, .int p0)]) hx hb dX9_taken_88 hl (by decide) rfl (fun ls hl => ?_)
    refine lv_iload hx hb dX9_taken_90 (lv_at hl 0 rfl) ?_
    refine lv_if_eq (tgt := 104) hx hb dX9_taken_92 rfl (fun c12 => ?_) (fun c12 => ?_)
    · replace hf := ifp c12 hf
      refine lv_bipush (v := (-13 : Int32)) hx hb dX9_taken_104 rfl ?_
      cases hf
      exact r_iret C h hr hlk rfl dX9_taken_106
    · replace hf := ifn c12 hf
      refine lv_aload_n hx hb dX9_taken_95 rfl (lv_at hl 1 rfl) ?_
      refine r_get C h fk_X9_65 0 rfl rfl dX9_taken_96 ?_
      refine lv_iload_n hx hb dX9_taken_99 rfl (lv_at hl 2 rfl) ?_
      replace hf := chkI_inv hf
      obtain ⟨hi13, hf⟩ := hf
      refine r_iald C h 1 rfl hi13 dX9_taken_100 ?_
      refine lv_goto (tgt := 106) hx hb dX9_taken_101 rfl ?_
      cases hf
      exact r_iret C h hr hlk rfl dX9_taken_106
  have B74 : f_X9_taken_b74 p0 f_this_heldOne = some r → K 74 ([] : List Value) [(h_this, ob 9 [.ref h_this_s, .ref h_this_kept, .ref h_this_laid, .int x_this_isKept, .ref h_this_pile, .ref h_this_tape, .int x_this_taped, .ref h_this_letters, .int x_this_at, .int x_this_begun, .int x_this_token, .int x_this_value, .int x_this_opened, .int x_this_steps, .ref h_this_code0, .ref h_this_read, .ref h_this_saved, .ref h_this_plan, .ref h_this_bestPlan, .int x_this_most, .int x_this_many, .int x_this_few, .int x_this_everHome, .ref h_this_offThen, .ref h_this_paidThen, .int x_this_firstFit, .ref h_this_rows, .int x_this_rowMany, .ref h_this_sorts, .ref h_this_sizes, .ref h_this_number, .ref h_this_holds, .ref h_this_heldOne, .ref h_this_trace, .int x_this_traced, .int x_this_own, .int x_this_isParted]), (h_this_heldOne, ia G 4 f_this_heldOne), (h_this_holds, ia G 4 f_this_holds), (h_this_s, ia G 313 f_this_s)] [(0, .ref h_this), (1, .int p0)] := by
    intro hf
    unfold f_X9_taken_b74 at hf
    refine hK1 _ _ _ _ (fun H locs ls h hl => ?_)
    refine lv_iconst (v := (0 : Int32)) hx hb dX9_taken_74 rfl ?_
    refine lv_goto (tgt := 88) hx hb dX9_taken_75 rfl ?_
    exact hK2 _ _ _ _ (B88 (0 : Int32) hf) _ _ _ h (lv_sub hl [0, 1] rfl)
  have B29 : f_X9_taken_b29 p0 p1 f_this_heldOne f_this_holds f_this_s = some r → K 29 ([] : List Value) [(h_this, ob 9 [.ref h_this_s, .ref h_this_kept, .ref h_this_laid, .int x_this_isKept, .ref h_this_pile, .ref h_this_tape, .int x_this_taped, .ref h_this_letters, .int x_this_at, .int x_this_begun, .int x_this_token, .int x_this_value, .int x_this_opened, .int x_this_steps, .ref h_this_code0, .ref h_this_read, .ref h_this_saved, .ref h_this_plan, .ref h_this_bestPlan, .int x_this_most, .int x_this_many, .int x_this_few, .int x_this_everHome, .ref h_this_offThen, .ref h_this_paidThen, .int x_this_firstFit, .ref h_this_rows, .int x_this_rowMany, .ref h_this_sorts, .ref h_this_sizes, .ref h_this_number, .ref h_this_holds, .ref h_this_heldOne, .ref h_this_trace, .int x_this_traced, .int x_this_own, .int x_this_isParted]), (h_this_heldOne, ia G 4 f_this_heldOne), (h_this_holds, ia G 4 f_this_holds), (h_this_s, ia G 313 f_this_s)] [(0, .ref h_this), (1, .int p0), (2, .int p1)] := by
    intro hf
    unfold f_X9_taken_b29 at hf
    refine hK1 _ _ _ _ (fun H locs ls h hl => ?_)
    refine lv_aload_n hx hb dX9_taken_29 rfl (lv_at hl 0 rfl) ?_
    refine lv_iload_n hx hb dX9_taken_30 rfl (lv_at hl 1 rfl) ?_
    replace hf := bd1_inv hf
    obtain ⟨r7, hc8, hf⟩ := hf
    refine r_ciV0 C h (c_X9_heldOn hc8) mv_X9_341 rfl 0 rfl [0, 1, 2, 3] rfl rfl hl.1 rfl (Nat.le_of_ble_eq_true rfl) (rok (by decide)) dX9_taken_31 (fun H locs h => ?_)
    refine lv_istore_n (lv' := [(3, .int r7), (0, .ref h_this), (1, .int p0), (2, .int p1)]) hx hb dX9_taken_34 rfl hl (by decide) rfl (fun ls hl => ?_)
    refine lv_iload_n hx hb dX9_taken_35 rfl (lv_at hl 0 rfl) ?_
    refine lv_if_ge (tgt := 42) hx hb dX9_taken_36 rfl (fun c9 => ?_) (fun c9 => ?_)
    · replace hf := ifp c9 hf
      refine lv_iload_n hx hb dX9_taken_42 rfl (lv_at hl 0 rfl) ?_
      refine lv_if_ne (tgt := 78) hx hb dX9_taken_43 rfl (fun c10 => ?_) (fun c10 => ?_)
      · replace hf := ifn c10 hf
        refine lv_iload_n hx hb dX9_taken_78 rfl (lv_at hl 0 rfl) ?_
        refine lv_iload_n hx hb dX9_taken_79 rfl (lv_at hl 3 rfl) ?_
        refine lv_icmp_ne (tgt := 87) hx hb dX9_taken_80 rfl (fun c11 => ?_) (fun c11 => ?_)
        · replace hf := ifn c11 hf
          refine lv_iconst (v := (0 : Int32)) hx hb dX9_taken_87 rfl ?_
          exact hK2 _ _ _ _ (B88 (0 : Int32) hf) _ _ _ h (lv_sub hl [1, 2] rfl)
        · replace hf := ifp c11 hf
          refine lv_iconst (v := (1 : Int32)) hx hb dX9_taken_83 rfl ?_
          refine lv_goto (tgt := 88) hx hb dX9_taken_84 rfl ?_
          exact hK2 _ _ _ _ (B88 (1 : Int32) hf) _ _ _ h (lv_sub hl [1, 2] rfl)
      · replace hf := ifp c10 hf
        refine lv_iload_n hx hb dX9_taken_46 rfl (lv_at hl 3 rfl) ?_
        refine lv_bipush (v := (10 : Int32)) hx hb dX9_taken_47 rfl ?_
        refine lv_icmp_ge (tgt := 74) hx hb dX9_taken_49 rfl (fun c14 => ?_) (fun c14 => ?_)
        · replace hf := ifp c14 hf
          exact hK2 _ _ _ _ (B74 hf) _ _ _ h (lv_sub hl [1, 2] rfl)
        · replace hf := ifn c14 hf
          refine lv_aload_n hx hb dX9_taken_52 rfl (lv_at hl 1 rfl) ?_
          refine lv_aload_n hx hb dX9_taken_53 rfl (lv_at hl 1 rfl) ?_
          refine r_get C h fk_X9_65 0 rfl rfl dX9_taken_54 ?_
          refine lv_iload_n hx hb dX9_taken_57 rfl (lv_at hl 2 rfl) ?_
          replace hf := chkI_inv hf
          obtain ⟨hi15, hf⟩ := hf
          refine r_iald C h 1 rfl hi15 dX9_taken_58 ?_
          refine lv_iconst (v := (0 : Int32)) hx hb dX9_taken_59 rfl ?_
          replace hf := bd1_inv hf
          obtain ⟨r16, hc17, hf⟩ := hf
          refine r_ciV0 C h (c_X9_get hc17) mv_X9_79 rfl 0 rfl [0, 3] rfl rfl hl.1 rfl (Nat.le_of_ble_eq_true rfl) (rok (by decide)) dX9_taken_60 (fun H locs h => ?_)
          refine lv_iload_n hx hb dX9_taken_63 rfl (lv_at hl 3 rfl) ?_
          replace hf := bd1_inv hf
          obtain ⟨r18, hc19, hf⟩ := hf
          refine r_ciS0 C h (c_X9_isUnder hc19) ms_X9_121 rfl [] rfl rfl hl.1 rfl (Nat.le_of_ble_eq_true rfl) (rok (by decide)) dX9_taken_64 (fun H locs h => ?_)
          refine lv_if_eq (tgt := 74) hx hb dX9_taken_67 rfl (fun c20 => ?_) (fun c20 => ?_)
          · replace hf := ifp c20 hf
            exact hK2 _ _ _ _ (B74 hf) _ _ _ h (lv_sub hl [1, 2] rfl)
          · replace hf := ifn c20 hf
            refine lv_iconst (v := (1 : Int32)) hx hb dX9_taken_70 rfl ?_
            refine lv_goto (tgt := 88) hx hb dX9_taken_71 rfl ?_
            exact hK2 _ _ _ _ (B88 (1 : Int32) hf) _ _ _ h (lv_sub hl [1, 2] rfl)
    · replace hf := ifn c9 hf
      refine lv_bipush (v := (-11 : Int32)) hx hb dX9_taken_39 rfl ?_
      cases hf
      exact r_iret C h hr hlk rfl dX9_taken_41
  refine lv_iload_n hx hb dX9_taken_0 rfl (lv_at hl 1 rfl) ?_
  replace hf := bd1_inv hf
  obtain ⟨r1, hc2, hf⟩ := hf
  refine r_ciS0 C h (c_X9_isSheet hc2) ms_X9_329 rfl [] rfl rfl hl.1 rfl (Nat.le_of_ble_eq_true rfl) (rok (by decide)) dX9_taken_1 (fun H locs h => ?_)
  refine lv_if_eq (tgt := 27) hx hb dX9_taken_4 rfl (fun c3 => ?_) (fun c3 => ?_)
  · replace hf := ifp c3 hf
    refine lv_iconst (v := (-1 : Int32)) hx hb dX9_taken_27 rfl ?_
    cases hf
    exact r_iret C h hr hlk rfl dX9_taken_28
  · replace hf := ifn c3 hf
    refine lv_iload_n hx hb dX9_taken_7 rfl (lv_at hl 2 rfl) ?_
    refine lv_iconst (v := (0 : Int32)) hx hb dX9_taken_8 rfl ?_
    refine lv_iconst (v := (5 : Int32)) hx hb dX9_taken_9 rfl ?_
    replace hf := bd1_inv hf
    obtain ⟨r4, hc5, hf⟩ := hf
    refine r_ciS0 C h (c_X9_in1 hc5) ms_X9_71 rfl [] rfl rfl hl.1 rfl (Nat.le_of_ble_eq_true rfl) (rok (by decide)) dX9_taken_10 (fun H locs h => ?_)
    refine lv_if_ne (tgt := 29) hx hb dX9_taken_13 rfl (fun c6 => ?_) (fun c6 => ?_)
    · replace hf := ifn c6 hf
      exact hK2 _ _ _ _ (B29 hf) _ _ _ h (lv_sub hl [0, 1, 2] rfl)
    · replace hf := ifp c6 hf
      refine lv_iload_n hx hb dX9_taken_16 rfl (lv_at hl 2 rfl) ?_
      refine lv_bipush (v := (10 : Int32)) hx hb dX9_taken_17 rfl ?_
      refine lv_bipush (v := (14 : Int32)) hx hb dX9_taken_19 rfl ?_
      replace hf := bd1_inv hf
      obtain ⟨r21, hc22, hf⟩ := hf
      refine r_ciS0 C h (c_X9_in1 hc22) ms_X9_71 rfl [] rfl rfl hl.1 rfl (Nat.le_of_ble_eq_true rfl) (rok (by decide)) dX9_taken_21 (fun H locs h => ?_)
      refine lv_if_ne (tgt := 29) hx hb dX9_taken_24 rfl (fun c23 => ?_) (fun c23 => ?_)
      · replace hf := ifn c23 hf
        exact hK2 _ _ _ _ (B29 hf) _ _ _ h (lv_sub hl [0, 1, 2] rfl)
      · replace hf := ifp c23 hf
        refine lv_iconst (v := (-1 : Int32)) hx hb dX9_taken_27 rfl ?_
        cases hf
        exact r_iret C h hr hlk rfl dX9_taken_28
def f_X9_starts (p0 : Int32) (x_this_traced : Int32) (f_this_trace : Nat → Int32) : Option (Int32 × (Nat → Int32)) := (if (30 : Int32) ≤ x_this_traced then some (x_this_traced, f_this_trace) else chkI x_this_traced 30 (lt1 (x_this_traced + (1 : Int32)) (fun (t3 : Int32) => some (t3, upd f_this_trace x_this_traced.toNatClampNeg p0))))
set_option maxRecDepth 100000 in
set_option maxHeartbeats 4000000 in
theorem c_X9_starts {l : Launch} {G : Gt} {h_this h_this_s h_this_kept h_this_laid h_this_pile h_this_tape h_this_letters h_this_code0 h_this_read h_this_saved h_this_plan h_this_bestPlan h_this_offThen h_this_paidThen h_this_rows h_this_sorts h_this_sizes h_this_number h_this_holds h_this_heldOne h_this_trace : Nat} {p0 : Int32} {x_this_isKept : Int32} {x_this_taped : Int32} {x_this_at : Int32} {x_this_begun : Int32} {x_this_token : Int32} {x_this_value : Int32} {x_this_opened : Int32} {x_this_steps : Int32} {x_this_most : Int32} {x_this_many : Int32} {x_this_few : Int32} {x_this_everHome : Int32} {x_this_firstFit : Int32} {x_this_rowMany : Int32} {x_this_traced : Int32} {x_this_own : Int32} {x_this_isParted : Int32} {f_this_trace : Nat → Int32} {m_this_traced : Int32} {m_this_trace : Nat → Int32} (hf : f_X9_starts p0 x_this_traced f_this_trace = some (m_this_traced, m_this_trace)) : mFv l G yX9_starts cX9_starts 2 0 [.ref h_this, .int p0] [(h_this, ob 9 [.ref h_this_s, .ref h_this_kept, .ref h_this_laid, .int x_this_isKept, .ref h_this_pile, .ref h_this_tape, .int x_this_taped, .ref h_this_letters, .int x_this_at, .int x_this_begun, .int x_this_token, .int x_this_value, .int x_this_opened, .int x_this_steps, .ref h_this_code0, .ref h_this_read, .ref h_this_saved, .ref h_this_plan, .ref h_this_bestPlan, .int x_this_most, .int x_this_many, .int x_this_few, .int x_this_everHome, .ref h_this_offThen, .ref h_this_paidThen, .int x_this_firstFit, .ref h_this_rows, .int x_this_rowMany, .ref h_this_sorts, .ref h_this_sizes, .ref h_this_number, .ref h_this_holds, .ref h_this_heldOne, .ref h_this_trace, .int x_this_traced, .int x_this_own, .int x_this_isParted]), (h_this_trace, ia G 30 f_this_trace)] [(h_this, ob 9 [.ref h_this_s, .ref h_this_kept, .ref h_this_laid, .int x_this_isKept, .ref h_this_pile, .ref h_this_tape, .int x_this_taped, .ref h_this_letters, .int x_this_at, .int x_this_begun, .int x_this_token, .int x_this_value, .int x_this_opened, .int x_this_steps, .ref h_this_code0, .ref h_this_read, .ref h_this_saved, .ref h_this_plan, .ref h_this_bestPlan, .int x_this_most, .int x_this_many, .int x_this_few, .int x_this_everHome, .ref h_this_offThen, .ref h_this_paidThen, .int x_this_firstFit, .ref h_this_rows, .int x_this_rowMany, .ref h_this_sorts, .ref h_this_sizes, .ref h_this_number, .ref h_this_holds, .ref h_this_heldOne, .ref h_this_trace, .int m_this_traced, .int x_this_own, .int x_this_isParted]), (h_this_trace, ia G 30 m_this_trace)] := by
  refine mFv.of (by decide +kernel) (Nat.le_of_ble_eq_true rfl) ?_
  intro p e s m below meth c A C hr hlk h ls hl
  obtain ⟨hx, hb, hml, hown, hts⟩ := id C
  replace hl : lv_has ls 2 [(0, .ref h_this), (1, .int p0)] := hl
  unfold f_X9_starts at hf
  refine lv_aload_n hx hb dX9_starts_0 rfl (lv_at hl 0 rfl) ?_
  refine r_get C h fk_X9_344 0 rfl rfl dX9_starts_1 ?_
  refine lv_bipush (v := (30 : Int32)) hx hb dX9_starts_4 rfl ?_
  refine lv_icmp_ge (tgt := 29) hx hb dX9_starts_6 rfl (fun c1 => ?_) (fun c1 => ?_)
  · replace hf := ifp c1 hf
    cases hf
    exact r_vret C h hr hlk dX9_starts_29
  · replace hf := ifn c1 hf
    refine lv_aload_n hx hb dX9_starts_9 rfl (lv_at hl 0 rfl) ?_
    refine r_get C h fk_X9_68 0 rfl rfl dX9_starts_10 ?_
    refine lv_aload_n hx hb dX9_starts_13 rfl (lv_at hl 0 rfl) ?_
    refine r_get C h fk_X9_344 0 rfl rfl dX9_starts_14 ?_
    refine lv_iload_n hx hb dX9_starts_17 rfl (lv_at hl 1 rfl) ?_
    replace hf := chkI_inv hf
    obtain ⟨hi2, hf⟩ := hf
    refine r_iast (ws' := [(h_this, ob 9 [.ref h_this_s, .ref h_this_kept, .ref h_this_laid, .int x_this_isKept, .ref h_this_pile, .ref h_this_tape, .int x_this_taped, .ref h_this_letters, .int x_this_at, .int x_this_begun, .int x_this_token, .int x_this_value, .int x_this_opened, .int x_this_steps, .ref h_this_code0, .ref h_this_read, .ref h_this_saved, .ref h_this_plan, .ref h_this_bestPlan, .int x_this_most, .int x_this_many, .int x_this_few, .int x_this_everHome, .ref h_this_offThen, .ref h_this_paidThen, .int x_this_firstFit, .ref h_this_rows, .int x_this_rowMany, .ref h_this_sorts, .ref h_this_sizes, .ref h_this_number, .ref h_this_holds, .ref h_this_heldOne, .ref h_this_trace, .int x_this_traced, .int x_this_own, .int x_this_isParted]), (h_this_trace, ia G 30 (upd f_this_trace x_this_traced.toNatClampNeg p0))]) C h 1 rfl hi2 dX9_starts_18 rfl (fun H locs h => ?_)
    refine lv_aload_n hx hb dX9_starts_19 rfl (lv_at hl 0 rfl) ?_
    refine lv_dup hx hb dX9_starts_20 rfl ?_
    refine r_get C h fk_X9_344 0 rfl rfl dX9_starts_21 ?_
    refine lv_iconst (v := (1 : Int32)) hx hb dX9_starts_24 rfl ?_
    refine lv_iadd hx hb dX9_starts_25 ?_
    refine lv_topi (fun t3 et3 => ?_)
    replace hf := lt1_inv et3 hf
    refine r_put (ws' := [(h_this, ob 9 [.ref h_this_s, .ref h_this_kept, .ref h_this_laid, .int x_this_isKept, .ref h_this_pile, .ref h_this_tape, .int x_this_taped, .ref h_this_letters, .int x_this_at, .int x_this_begun, .int x_this_token, .int x_this_value, .int x_this_opened, .int x_this_steps, .ref h_this_code0, .ref h_this_read, .ref h_this_saved, .ref h_this_plan, .ref h_this_bestPlan, .int x_this_most, .int x_this_many, .int x_this_few, .int x_this_everHome, .ref h_this_offThen, .ref h_this_paidThen, .int x_this_firstFit, .ref h_this_rows, .int x_this_rowMany, .ref h_this_sorts, .ref h_this_sizes, .ref h_this_number, .ref h_this_holds, .ref h_this_heldOne, .ref h_this_trace, .int t3, .int x_this_own, .int x_this_isParted]), (h_this_trace, ia G 30 (upd f_this_trace x_this_traced.toNatClampNeg p0))]) C h fw_X9_344 0 rfl rfl rfl (Nat.le_of_ble_eq_true rfl) dX9_starts_26 rfl (fun H locs h => ?_)
    cases hf
    exact r_vret C h hr hlk dX9_starts_29
def f_X9_sightsAs (self : Int32 → Int32 → Int32 → Int32 → (Nat → Int32) → Option (Int32 × Int32 × (Nat → Int32))) (p0 : Int32) (p1 : Int32) (x_this_traced : Int32) (x_this_own : Int32) (f_this_trace : Nat → Int32) : Option (Int32 × Int32 × (Nat → Int32)) := (if p0 = (1 : Int32) then bd2 (f_X9_starts (20 : Int32) x_this_traced f_this_trace) (fun y13 g14 => bd3 (self (0 : Int32) p1 y13 x_this_own g14) (fun r16 y17 g18 => some (r16 ^^^ (21 : Int32), y17, g18))) else (if p0 = (3 : Int32) then bd2 (f_X9_starts (50 : Int32) x_this_traced f_this_trace) (fun y6 g7 => bd3 (self (2 : Int32) (p1 + (13 : Int32)) y6 x_this_own g7) (fun r9 y10 g11 => some (r9, y10, g11))) else bd2 (f_X9_starts (10 : Int32) x_this_traced f_this_trace) (fun y3 g4 => some ((p1 * (9 : Int32)) - x_this_own, y3, g4))))
set_option maxRecDepth 100000 in
set_option maxHeartbeats 4000000 in
theorem c_X9_sightsAs {l : Launch} {G : Gt} {self : Int32 → Int32 → Int32 → Int32 → (Nat → Int32) → Option (Int32 × Int32 × (Nat → Int32))} {H0 : Nat} (hself : ∀ {h_this h_this_s h_this_kept h_this_laid h_this_pile h_this_tape h_this_letters h_this_code0 h_this_read h_this_saved h_this_plan h_this_bestPlan h_this_offThen h_this_paidThen h_this_rows h_this_sorts h_this_sizes h_this_number h_this_holds h_this_heldOne h_this_trace : Nat} {p0 : Int32} {p1 : Int32} {x_this_isKept : Int32} {x_this_taped : Int32} {x_this_at : Int32} {x_this_begun : Int32} {x_this_token : Int32} {x_this_value : Int32} {x_this_opened : Int32} {x_this_steps : Int32} {x_this_most : Int32} {x_this_many : Int32} {x_this_few : Int32} {x_this_everHome : Int32} {x_this_firstFit : Int32} {x_this_rowMany : Int32} {x_this_traced : Int32} {x_this_own : Int32} {x_this_isParted : Int32} {f_this_trace : Nat → Int32} {r : Int32} {m_this_traced : Int32} {m_this_trace : Nat → Int32} , self p0 p1 x_this_traced x_this_own f_this_trace = some (r, m_this_traced, m_this_trace) → mFi l G yX9_sightsAs cX9_sightsAs 3 .int H0 [.ref h_this, .int p0, .int p1] [(h_this, ob 9 [.ref h_this_s, .ref h_this_kept, .ref h_this_laid, .int x_this_isKept, .ref h_this_pile, .ref h_this_tape, .int x_this_taped, .ref h_this_letters, .int x_this_at, .int x_this_begun, .int x_this_token, .int x_this_value, .int x_this_opened, .int x_this_steps, .ref h_this_code0, .ref h_this_read, .ref h_this_saved, .ref h_this_plan, .ref h_this_bestPlan, .int x_this_most, .int x_this_many, .int x_this_few, .int x_this_everHome, .ref h_this_offThen, .ref h_this_paidThen, .int x_this_firstFit, .ref h_this_rows, .int x_this_rowMany, .ref h_this_sorts, .ref h_this_sizes, .ref h_this_number, .ref h_this_holds, .ref h_this_heldOne, .ref h_this_trace, .int x_this_traced, .int x_this_own, .int x_this_isParted]), (h_this_trace, ia G 30 f_this_trace)] r [(h_this, ob 9 [.ref h_this_s, .ref h_this_kept, .ref h_this_laid, .int x_this_isKept, .ref h_this_pile, .ref h_this_tape, .int x_this_taped, .ref h_this_letters, .int x_this_at, .int x_this_begun, .int x_this_token, .int x_this_value, .int x_this_opened, .int x_this_steps, .ref h_this_code0, .ref h_this_read, .ref h_this_saved, .ref h_this_plan, .ref h_this_bestPlan, .int x_this_most, .int x_this_many, .int x_this_few, .int x_this_everHome, .ref h_this_offThen, .ref h_this_paidThen, .int x_this_firstFit, .ref h_this_rows, .int x_this_rowMany, .ref h_this_sorts, .ref h_this_sizes, .ref h_this_number, .ref h_this_holds, .ref h_this_heldOne, .ref h_this_trace, .int m_this_traced, .int x_this_own, .int x_this_isParted]), (h_this_trace, ia G 30 m_this_trace)]) {h_this h_this_s h_this_kept h_this_laid h_this_pile h_this_tape h_this_letters h_this_code0 h_this_read h_this_saved h_this_plan h_this_bestPlan h_this_offThen h_this_paidThen h_this_rows h_this_sorts h_this_sizes h_this_number h_this_holds h_this_heldOne h_this_trace : Nat} {p0 : Int32} {p1 : Int32} {x_this_isKept : Int32} {x_this_taped : Int32} {x_this_at : Int32} {x_this_begun : Int32} {x_this_token : Int32} {x_this_value : Int32} {x_this_opened : Int32} {x_this_steps : Int32} {x_this_most : Int32} {x_this_many : Int32} {x_this_few : Int32} {x_this_everHome : Int32} {x_this_firstFit : Int32} {x_this_rowMany : Int32} {x_this_traced : Int32} {x_this_own : Int32} {x_this_isParted : Int32} {f_this_trace : Nat → Int32} {r : Int32} {m_this_traced : Int32} {m_this_trace : Nat → Int32} (hf : f_X9_sightsAs self p0 p1 x_this_traced x_this_own f_this_trace = some (r, m_this_traced, m_this_trace)) : mFi l G yX9_sightsAs cX9_sightsAs 3 .int (H0 + 1) [.ref h_this, .int p0, .int p1] [(h_this, ob 9 [.ref h_this_s, .ref h_this_kept, .ref h_this_laid, .int x_this_isKept, .ref h_this_pile, .ref h_this_tape, .int x_this_taped, .ref h_this_letters, .int x_this_at, .int x_this_begun, .int x_this_token, .int x_this_value, .int x_this_opened, .int x_this_steps, .ref h_this_code0, .ref h_this_read, .ref h_this_saved, .ref h_this_plan, .ref h_this_bestPlan, .int x_this_most, .int x_this_many, .int x_this_few, .int x_this_everHome, .ref h_this_offThen, .ref h_this_paidThen, .int x_this_firstFit, .ref h_this_rows, .int x_this_rowMany, .ref h_this_sorts, .ref h_this_sizes, .ref h_this_number, .ref h_this_holds, .ref h_this_heldOne, .ref h_this_trace, .int x_this_traced, .int x_this_own, .int x_this_isParted]), (h_this_trace, ia G 30 f_this_trace)] r [(h_this, ob 9 [.ref h_this_s, .ref h_this_kept, .ref h_this_laid, .int x_this_isKept, .ref h_this_pile, .ref h_this_tape, .int x_this_taped, .ref h_this_letters, .int x_this_at, .int x_this_begun, .int x_this_token, .int x_this_value, .int x_this_opened, .int x_this_steps, .ref h_this_code0, .ref h_this_read, .ref h_this_saved, .ref h_this_plan, .ref h_this_bestPlan, .int x_this_most, .int x_this_many, .int x_this_few, .int x_this_everHome, .ref h_this_offThen, .ref h_this_paidThen, .int x_this_firstFit, .ref h_this_rows, .int x_this_rowMany, .ref h_this_sorts, .ref h_this_sizes, .ref h_this_number, .ref h_this_holds, .ref h_this_heldOne, .ref h_this_trace, .int m_this_traced, .int x_this_own, .int x_this_isParted]), (h_this_trace, ia G 30 m_this_trace)] := by
  refine mFi.of (by decide +kernel) (Nat.le_of_ble_eq_true rfl) ?_
  intro p e s m below meth c A C hr hlk h ls hl
  obtain ⟨hx, hb, hml, hown, hts⟩ := id C
  replace hl : lv_has ls 3 [(0, .ref h_this), (1, .int p0), (2, .int p1)] := hl
  unfold f_X9_sightsAs at hf
  refine lv_iload_n hx hb dX9_sightsAs_0 rfl (lv_at hl 1 rfl) ?_
  refine lv_iconst (v := (1 : Int32)) hx hb dX9_sightsAs_1 rfl ?_
  refine lv_icmp_ne (tgt := 21) hx hb dX9_sightsAs_2 rfl (fun c1 => ?_) (fun c1 => ?_)
  · replace hf := ifn c1 hf
    refine lv_iload_n hx hb dX9_sightsAs_21 rfl (lv_at hl 1 rfl) ?_
    refine lv_iconst (v := (3 : Int32)) hx hb dX9_sightsAs_22 rfl ?_
    refine lv_icmp_ne (tgt := 42) hx hb dX9_sightsAs_23 rfl (fun c2 => ?_) (fun c2 => ?_)
    · replace hf := ifn c2 hf
      refine lv_aload_n hx hb dX9_sightsAs_42 rfl (lv_at hl 0 rfl) ?_
      refine lv_bipush (v := (10 : Int32)) hx hb dX9_sightsAs_43 rfl ?_
      replace hf := bd2_inv hf
      obtain ⟨y3, g4, hc5, hf⟩ := hf
      refine r_cvV (ws' := [(h_this, ob 9 [.ref h_this_s, .ref h_this_kept, .ref h_this_laid, .int x_this_isKept, .ref h_this_pile, .ref h_this_tape, .int x_this_taped, .ref h_this_letters, .int x_this_at, .int x_this_begun, .int x_this_token, .int x_this_value, .int x_this_opened, .int x_this_steps, .ref h_this_code0, .ref h_this_read, .ref h_this_saved, .ref h_this_plan, .ref h_this_bestPlan, .int x_this_most, .int x_this_many, .int x_this_few, .int x_this_everHome, .ref h_this_offThen, .ref h_this_paidThen, .int x_this_firstFit, .ref h_this_rows, .int x_this_rowMany, .ref h_this_sorts, .ref h_this_sizes, .ref h_this_number, .ref h_this_holds, .ref h_this_heldOne, .ref h_this_trace, .int y3, .int x_this_own, .int x_this_isParted]), (h_this_trace, ia G 30 g4)]) C h (c_X9_starts hc5) mv_X9_347 rfl 0 rfl [0, 1] rfl rfl rfl rfl rfl hl.1 rfl (Nat.le_of_ble_eq_true rfl) (rok (by omega)) dX9_sightsAs_45 (fun H locs h => ?_)
      refine lv_iload_n hx hb dX9_sightsAs_48 rfl (lv_at hl 2 rfl) ?_
      refine lv_bipush (v := (9 : Int32)) hx hb dX9_sightsAs_49 rfl ?_
      refine lv_imul hx hb dX9_sightsAs_51 ?_
      refine lv_aload_n hx hb dX9_sightsAs_52 rfl (lv_at hl 0 rfl) ?_
      refine r_get C h fk_X9_353 0 rfl rfl dX9_sightsAs_53 ?_
      refine lv_isub hx hb dX9_sightsAs_56 ?_
      cases hf
      exact r_iret C h hr hlk rfl dX9_sightsAs_57
    · replace hf := ifp c2 hf
      refine lv_aload_n hx hb dX9_sightsAs_26 rfl (lv_at hl 0 rfl) ?_
      refine lv_bipush (v := (50 : Int32)) hx hb dX9_sightsAs_27 rfl ?_
      replace hf := bd2_inv hf
      obtain ⟨y6, g7, hc8, hf⟩ := hf
      refine r_cvV (ws' := [(h_this, ob 9 [.ref h_this_s, .ref h_this_kept, .ref h_this_laid, .int x_this_isKept, .ref h_this_pile, .ref h_this_tape, .int x_this_taped, .ref h_this_letters, .int x_this_at, .int x_this_begun, .int x_this_token, .int x_this_value, .int x_this_opened, .int x_this_steps, .ref h_this_code0, .ref h_this_read, .ref h_this_saved, .ref h_this_plan, .ref h_this_bestPlan, .int x_this_most, .int x_this_many, .int x_this_few, .int x_this_everHome, .ref h_this_offThen, .ref h_this_paidThen, .int x_this_firstFit, .ref h_this_rows, .int x_this_rowMany, .ref h_this_sorts, .ref h_this_sizes, .ref h_this_number, .ref h_this_holds, .ref h_this_heldOne, .ref h_this_trace, .int y6, .int x_this_own, .int x_this_isParted]), (h_this_trace, ia G 30 g7)]) C h (c_X9_starts hc8) mv_X9_347 rfl 0 rfl [0, 1] rfl rfl rfl rfl rfl hl.1 rfl (Nat.le_of_ble_eq_true rfl) (rok (by omega)) dX9_sightsAs_29 (fun H locs h => ?_)
      refine lv_aload_n hx hb dX9_sightsAs_32 rfl (lv_at hl 0 rfl) ?_
      refine lv_iconst (v := (2 : Int32)) hx hb dX9_sightsAs_33 rfl ?_
      refine lv_iload_n hx hb dX9_sightsAs_34 rfl (lv_at hl 2 rfl) ?_
      refine lv_bipush (v := (13 : Int32)) hx hb dX9_sightsAs_35 rfl ?_
      refine lv_iadd hx hb dX9_sightsAs_37 ?_
      replace hf := bd3_inv hf
      obtain ⟨r9, y10, g11, hc12, hf⟩ := hf
      refine r_ciV (ws' := [(h_this, ob 9 [.ref h_this_s, .ref h_this_kept, .ref h_this_laid, .int x_this_isKept, .ref h_this_pile, .ref h_this_tape, .int x_this_taped, .ref h_this_letters, .int x_this_at, .int x_this_begun, .int x_this_token, .int x_this_value, .int x_this_opened, .int x_this_steps, .ref h_this_code0, .ref h_this_read, .ref h_this_saved, .ref h_this_plan, .ref h_this_bestPlan, .int x_this_most, .int x_this_many, .int x_this_few, .int x_this_everHome, .ref h_this_offThen, .ref h_this_paidThen, .int x_this_firstFit, .ref h_this_rows, .int x_this_rowMany, .ref h_this_sorts, .ref h_this_sizes, .ref h_this_number, .ref h_this_holds, .ref h_this_heldOne, .ref h_this_trace, .int y10, .int x_this_own, .int x_this_isParted]), (h_this_trace, ia G 30 g11)]) C h (hself hc12) mv_X9_350 rfl 0 rfl [0, 1] rfl rfl rfl rfl rfl hl.1 rfl (Nat.le_of_ble_eq_true rfl) (rok (by omega)) dX9_sightsAs_38 (fun H locs h => ?_)
      cases hf
      exact r_iret C h hr hlk rfl dX9_sightsAs_41
  · replace hf := ifp c1 hf
    refine lv_aload_n hx hb dX9_sightsAs_5 rfl (lv_at hl 0 rfl) ?_
    refine lv_bipush (v := (20 : Int32)) hx hb dX9_sightsAs_6 rfl ?_
    replace hf := bd2_inv hf
    obtain ⟨y13, g14, hc15, hf⟩ := hf
    refine r_cvV (ws' := [(h_this, ob 9 [.ref h_this_s, .ref h_this_kept, .ref h_this_laid, .int x_this_isKept, .ref h_this_pile, .ref h_this_tape, .int x_this_taped, .ref h_this_letters, .int x_this_at, .int x_this_begun, .int x_this_token, .int x_this_value, .int x_this_opened, .int x_this_steps, .ref h_this_code0, .ref h_this_read, .ref h_this_saved, .ref h_this_plan, .ref h_this_bestPlan, .int x_this_most, .int x_this_many, .int x_this_few, .int x_this_everHome, .ref h_this_offThen, .ref h_this_paidThen, .int x_this_firstFit, .ref h_this_rows, .int x_this_rowMany, .ref h_this_sorts, .ref h_this_sizes, .ref h_this_number, .ref h_this_holds, .ref h_this_heldOne, .ref h_this_trace, .int y13, .int x_this_own, .int x_this_isParted]), (h_this_trace, ia G 30 g14)]) C h (c_X9_starts hc15) mv_X9_347 rfl 0 rfl [0, 1] rfl rfl rfl rfl rfl hl.1 rfl (Nat.le_of_ble_eq_true rfl) (rok (by omega)) dX9_sightsAs_8 (fun H locs h => ?_)
    refine lv_aload_n hx hb dX9_sightsAs_11 rfl (lv_at hl 0 rfl) ?_
    refine lv_iconst (v := (0 : Int32)) hx hb dX9_sightsAs_12 rfl ?_
    refine lv_iload_n hx hb dX9_sightsAs_13 rfl (lv_at hl 2 rfl) ?_
    replace hf := bd3_inv hf
    obtain ⟨r16, y17, g18, hc19, hf⟩ := hf
    refine r_ciV (ws' := [(h_this, ob 9 [.ref h_this_s, .ref h_this_kept, .ref h_this_laid, .int x_this_isKept, .ref h_this_pile, .ref h_this_tape, .int x_this_taped, .ref h_this_letters, .int x_this_at, .int x_this_begun, .int x_this_token, .int x_this_value, .int x_this_opened, .int x_this_steps, .ref h_this_code0, .ref h_this_read, .ref h_this_saved, .ref h_this_plan, .ref h_this_bestPlan, .int x_this_most, .int x_this_many, .int x_this_few, .int x_this_everHome, .ref h_this_offThen, .ref h_this_paidThen, .int x_this_firstFit, .ref h_this_rows, .int x_this_rowMany, .ref h_this_sorts, .ref h_this_sizes, .ref h_this_number, .ref h_this_holds, .ref h_this_heldOne, .ref h_this_trace, .int y17, .int x_this_own, .int x_this_isParted]), (h_this_trace, ia G 30 g18)]) C h (hself hc19) mv_X9_350 rfl 0 rfl [0, 1] rfl rfl rfl rfl rfl hl.1 rfl (Nat.le_of_ble_eq_true rfl) (rok (by omega)) dX9_sightsAs_14 (fun H locs h => ?_)
    refine lv_bipush (v := (21 : Int32)) hx hb dX9_sightsAs_17 rfl ?_
    refine lv_ixor hx hb dX9_sightsAs_19 ?_
    cases hf
    exact r_iret C h hr hlk rfl dX9_sightsAs_20
def F_X9_sightsAs : Nat → Int32 → Int32 → Int32 → Int32 → (Nat → Int32) → Option (Int32 × Int32 × (Nat → Int32))
  | 0, _, _, _, _, _ => none
  | d + 1, p0, p1, x_this_traced, x_this_own, f_this_trace => f_X9_sightsAs (F_X9_sightsAs d) p0 p1 x_this_traced x_this_own f_this_trace
theorem C_X9_sightsAs {l : Launch} {G : Gt} (d : Nat) : ∀ {h_this h_this_s h_this_kept h_this_laid h_this_pile h_this_tape h_this_letters h_this_code0 h_this_read h_this_saved h_this_plan h_this_bestPlan h_this_offThen h_this_paidThen h_this_rows h_this_sorts h_this_sizes h_this_number h_this_holds h_this_heldOne h_this_trace : Nat} {p0 : Int32} {p1 : Int32} {x_this_isKept : Int32} {x_this_taped : Int32} {x_this_at : Int32} {x_this_begun : Int32} {x_this_token : Int32} {x_this_value : Int32} {x_this_opened : Int32} {x_this_steps : Int32} {x_this_most : Int32} {x_this_many : Int32} {x_this_few : Int32} {x_this_everHome : Int32} {x_this_firstFit : Int32} {x_this_rowMany : Int32} {x_this_traced : Int32} {x_this_own : Int32} {x_this_isParted : Int32} {f_this_trace : Nat → Int32} {r : Int32} {m_this_traced : Int32} {m_this_trace : Nat → Int32} , F_X9_sightsAs d p0 p1 x_this_traced x_this_own f_this_trace = some (r, m_this_traced, m_this_trace) → mFi l G yX9_sightsAs cX9_sightsAs 3 .int (d * 1) [.ref h_this, .int p0, .int p1] [(h_this, ob 9 [.ref h_this_s, .ref h_this_kept, .ref h_this_laid, .int x_this_isKept, .ref h_this_pile, .ref h_this_tape, .int x_this_taped, .ref h_this_letters, .int x_this_at, .int x_this_begun, .int x_this_token, .int x_this_value, .int x_this_opened, .int x_this_steps, .ref h_this_code0, .ref h_this_read, .ref h_this_saved, .ref h_this_plan, .ref h_this_bestPlan, .int x_this_most, .int x_this_many, .int x_this_few, .int x_this_everHome, .ref h_this_offThen, .ref h_this_paidThen, .int x_this_firstFit, .ref h_this_rows, .int x_this_rowMany, .ref h_this_sorts, .ref h_this_sizes, .ref h_this_number, .ref h_this_holds, .ref h_this_heldOne, .ref h_this_trace, .int x_this_traced, .int x_this_own, .int x_this_isParted]), (h_this_trace, ia G 30 f_this_trace)] r [(h_this, ob 9 [.ref h_this_s, .ref h_this_kept, .ref h_this_laid, .int x_this_isKept, .ref h_this_pile, .ref h_this_tape, .int x_this_taped, .ref h_this_letters, .int x_this_at, .int x_this_begun, .int x_this_token, .int x_this_value, .int x_this_opened, .int x_this_steps, .ref h_this_code0, .ref h_this_read, .ref h_this_saved, .ref h_this_plan, .ref h_this_bestPlan, .int x_this_most, .int x_this_many, .int x_this_few, .int x_this_everHome, .ref h_this_offThen, .ref h_this_paidThen, .int x_this_firstFit, .ref h_this_rows, .int x_this_rowMany, .ref h_this_sorts, .ref h_this_sizes, .ref h_this_number, .ref h_this_holds, .ref h_this_heldOne, .ref h_this_trace, .int m_this_traced, .int x_this_own, .int x_this_isParted]), (h_this_trace, ia G 30 m_this_trace)] := by
  induction d with
  | zero =>
    intros
    rename_i hf
    replace hf : (none : Option _) = some _ := hf
    cases hf
  | succ d ih =>
    intros
    rename_i hf
    rw [Nat.succ_mul]
    exact c_X9_sightsAs (self := F_X9_sightsAs d) ih hf
def f_X9_tacksAs_b10 (self : Int32 → Int32 → Int32 → Int32 → (Nat → Int32) → (Nat → Int32) → Option (Int32 × Int32 × (Nat → Int32))) (p1 : Int32) (x_this_traced : Int32) (x_this_own : Int32) (f_this_s : Nat → Int32) (f_this_trace : Nat → Int32) : Option (Int32 × Int32 × (Nat → Int32)) := bd2 (f_X9_starts (30 : Int32) x_this_traced f_this_trace) (fun y2 g3 => bd3 (self (0 : Int32) p1 y2 x_this_own f_this_s g3) (fun r5 y6 g7 => some (r5 * (2 : Int32), y6, g7)))
def f_X9_tacksAs (self : Int32 → Int32 → Int32 → Int32 → (Nat → Int32) → (Nat → Int32) → Option (Int32 × Int32 × (Nat → Int32))) (p0 : Int32) (p1 : Int32) (x_this_traced : Int32) (x_this_own : Int32) (f_this_s : Nat → Int32) (f_this_trace : Nat → Int32) : Option (Int32 × Int32 × (Nat → Int32)) := (if p0 = (2 : Int32) then f_X9_tacksAs_b10 self p1 x_this_traced x_this_own f_this_s f_this_trace else (if p0 = (3 : Int32) then f_X9_tacksAs_b10 self p1 x_this_traced x_this_own f_this_s f_this_trace else (if p0 = (5 : Int32) then bd2 (f_X9_starts (60 : Int32) x_this_traced f_this_trace) (fun y22 g23 => bd3 (self (4 : Int32) p1 y22 x_this_own f_this_s g23) (fun r25 y26 g27 => some (-r25, y26, g27))) else bd2 (f_X9_starts (11 : Int32) x_this_traced f_this_trace) (fun y11 g12 => bd1 (f_X9_get x_this_own (0 : Int32) f_this_s) (fun r14 => bd3 (F_X9_sightsAs 4 r14 p1 y11 x_this_own g12) (fun r16 y17 g18 => bd1 (f_X9_get x_this_own (3 : Int32) f_this_s) (fun r20 => some (r16 - ((3 : Int32) * r20), y17, g18))))))))
set_option maxRecDepth 100000 in
set_option maxHeartbeats 4000000 in
theorem c_X9_tacksAs {l : Launch} {G : Gt} {self : Int32 → Int32 → Int32 → Int32 → (Nat → Int32) → (Nat → Int32) → Option (Int32 × Int32 × (Nat → Int32))} {H0 : Nat} (hself : ∀ {h_this h_this_s h_this_kept h_this_laid h_this_pile h_this_tape h_this_letters h_this_code0 h_this_read h_this_saved h_this_plan h_this_bestPlan h_this_offThen h_this_paidThen h_this_rows h_this_sorts h_this_sizes h_this_number h_this_holds h_this_heldOne h_this_trace : Nat} {p0 : Int32} {p1 : Int32} {x_this_isKept : Int32} {x_this_taped : Int32} {x_this_at : Int32} {x_this_begun : Int32} {x_this_token : Int32} {x_this_value : Int32} {x_this_opened : Int32} {x_this_steps : Int32} {x_this_most : Int32} {x_this_many : Int32} {x_this_few : Int32} {x_this_everHome : Int32} {x_this_firstFit : Int32} {x_this_rowMany : Int32} {x_this_traced : Int32} {x_this_own : Int32} {x_this_isParted : Int32} {f_this_s : Nat → Int32} {f_this_trace : Nat → Int32} {r : Int32} {m_this_traced : Int32} {m_this_trace : Nat → Int32} , self p0 p1 x_this_traced x_this_own f_this_s f_this_trace = some (r, m_this_traced, m_this_trace) → mFi l G yX9_tacksAs cX9_tacksAs 3 .int H0 [.ref h_this, .int p0, .int p1] [(h_this, ob 9 [.ref h_this_s, .ref h_this_kept, .ref h_this_laid, .int x_this_isKept, .ref h_this_pile, .ref h_this_tape, .int x_this_taped, .ref h_this_letters, .int x_this_at, .int x_this_begun, .int x_this_token, .int x_this_value, .int x_this_opened, .int x_this_steps, .ref h_this_code0, .ref h_this_read, .ref h_this_saved, .ref h_this_plan, .ref h_this_bestPlan, .int x_this_most, .int x_this_many, .int x_this_few, .int x_this_everHome, .ref h_this_offThen, .ref h_this_paidThen, .int x_this_firstFit, .ref h_this_rows, .int x_this_rowMany, .ref h_this_sorts, .ref h_this_sizes, .ref h_this_number, .ref h_this_holds, .ref h_this_heldOne, .ref h_this_trace, .int x_this_traced, .int x_this_own, .int x_this_isParted]), (h_this_s, ia G 313 f_this_s), (h_this_trace, ia G 30 f_this_trace)] r [(h_this, ob 9 [.ref h_this_s, .ref h_this_kept, .ref h_this_laid, .int x_this_isKept, .ref h_this_pile, .ref h_this_tape, .int x_this_taped, .ref h_this_letters, .int x_this_at, .int x_this_begun, .int x_this_token, .int x_this_value, .int x_this_opened, .int x_this_steps, .ref h_this_code0, .ref h_this_read, .ref h_this_saved, .ref h_this_plan, .ref h_this_bestPlan, .int x_this_most, .int x_this_many, .int x_this_few, .int x_this_everHome, .ref h_this_offThen, .ref h_this_paidThen, .int x_this_firstFit, .ref h_this_rows, .int x_this_rowMany, .ref h_this_sorts, .ref h_this_sizes, .ref h_this_number, .ref h_this_holds, .ref h_this_heldOne, .ref h_this_trace, .int m_this_traced, .int x_this_own, .int x_this_isParted]), (h_this_s, ia G 313 f_this_s), (h_this_trace, ia G 30 m_this_trace)]) {h_this h_this_s h_this_kept h_this_laid h_this_pile h_this_tape h_this_letters h_this_code0 h_this_read h_this_saved h_this_plan h_this_bestPlan h_this_offThen h_this_paidThen h_this_rows h_this_sorts h_this_sizes h_this_number h_this_holds h_this_heldOne h_this_trace : Nat} {p0 : Int32} {p1 : Int32} {x_this_isKept : Int32} {x_this_taped : Int32} {x_this_at : Int32} {x_this_begun : Int32} {x_this_token : Int32} {x_this_value : Int32} {x_this_opened : Int32} {x_this_steps : Int32} {x_this_most : Int32} {x_this_many : Int32} {x_this_few : Int32} {x_this_everHome : Int32} {x_this_firstFit : Int32} {x_this_rowMany : Int32} {x_this_traced : Int32} {x_this_own : Int32} {x_this_isParted : Int32} {f_this_s : Nat → Int32} {f_this_trace : Nat → Int32} {r : Int32} {m_this_traced : Int32} {m_this_trace : Nat → Int32} (hf : f_X9_tacksAs self p0 p1 x_this_traced x_this_own f_this_s f_this_trace = some (r, m_this_traced, m_this_trace)) : mFi l G yX9_tacksAs cX9_tacksAs 3 .int (H0 + 5) [.ref h_this, .int p0, .int p1] [(h_this, ob 9 [.ref h_this_s, .ref h_this_kept, .ref h_this_laid, .int x_this_isKept, .ref h_this_pile, .ref h_this_tape, .int x_this_taped, .ref h_this_letters, .int x_this_at, .int x_this_begun, .int x_this_token, .int x_this_value, .int x_this_opened, .int x_this_steps, .ref h_this_code0, .ref h_this_read, .ref h_this_saved, .ref h_this_plan, .ref h_this_bestPlan, .int x_this_most, .int x_this_many, .int x_this_few, .int x_this_everHome, .ref h_this_offThen, .ref h_this_paidThen, .int x_this_firstFit, .ref h_this_rows, .int x_this_rowMany, .ref h_this_sorts, .ref h_this_sizes, .ref h_this_number, .ref h_this_holds, .ref h_this_heldOne, .ref h_this_trace, .int x_this_traced, .int x_this_own, .int x_this_isParted]), (h_this_s, ia G 313 f_this_s), (h_this_trace, ia G 30 f_this_trace)] r [(h_this, ob 9 [.ref h_this_s, .ref h_this_kept, .ref h_this_laid, .int x_this_isKept, .ref h_this_pile, .ref h_this_tape, .int x_this_taped, .ref h_this_letters, .int x_this_at, .int x_this_begun, .int x_this_token, .int x_this_value, .int x_this_opened, .int x_this_steps, .ref h_this_code0, .ref h_this_read, .ref h_this_saved, .ref h_this_plan, .ref h_this_bestPlan, .int x_this_most, .int x_this_many, .int x_this_few, .int x_this_everHome, .ref h_this_offThen, .ref h_this_paidThen, .int x_this_firstFit, .ref h_this_rows, .int x_this_rowMany, .ref h_this_sorts, .ref h_this_sizes, .ref h_this_number, .ref h_this_holds, .ref h_this_heldOne, .ref h_this_trace, .int m_this_traced, .int x_this_own, .int x_this_isParted]), (h_this_s, ia G 313 f_this_s), (h_this_trace, ia G 30 m_this_trace)] := by
  refine mFi.of (by decide +kernel) (Nat.le_of_ble_eq_true rfl) ?_
  intro p e s m below meth c A C hr hlk h ls hl
  obtain ⟨hx, hb, hml, hown, hts⟩ := id C
  replace hl : lv_has ls 3 [(0, .ref h_this), (1, .int p0), (2, .int p1)] := hl
  unfold f_X9_tacksAs at hf
  refine with_K G A 3 (fun K hK1 hK2 => ?_)
  have B10 : f_X9_tacksAs_b10 self p1 x_this_traced x_this_own f_this_s f_this_trace = some (r, m_this_traced, m_this_trace) → K 10 ([] : List Value) [(h_this, ob 9 [.ref h_this_s, .ref h_this_kept, .ref h_this_laid, .int x_this_isKept, .ref h_this_pile, .ref h_this_tape, .int x_this_taped, .ref h_this_letters, .int x_this_at, .int x_this_begun, .int x_this_token, .int x_this_value, .int x_this_opened, .int x_this_steps, .ref h_this_code0, .ref h_this_read, .ref h_this_saved, .ref h_this_plan, .ref h_this_bestPlan, .int x_this_most, .int x_this_many, .int x_this_few, .int x_this_everHome, .ref h_this_offThen, .ref h_this_paidThen, .int x_this_firstFit, .ref h_this_rows, .int x_this_rowMany, .ref h_this_sorts, .ref h_this_sizes, .ref h_this_number, .ref h_this_holds, .ref h_this_heldOne, .ref h_this_trace, .int x_this_traced, .int x_this_own, .int x_this_isParted]), (h_this_s, ia G 313 f_this_s), (h_this_trace, ia G 30 f_this_trace)] [(0, .ref h_this), (2, .int p1)] := by
    intro hf
    unfold f_X9_tacksAs_b10 at hf
    refine hK1 _ _ _ _ (fun H locs ls h hl => ?_)
    refine lv_aload_n hx hb dX9_tacksAs_10 rfl (lv_at hl 0 rfl) ?_
    refine lv_bipush (v := (30 : Int32)) hx hb dX9_tacksAs_11 rfl ?_
    replace hf := bd2_inv hf
    obtain ⟨y2, g3, hc4, hf⟩ := hf
    refine r_cvV (ws' := [(h_this, ob 9 [.ref h_this_s, .ref h_this_kept, .ref h_this_laid, .int x_this_isKept, .ref h_this_pile, .ref h_this_tape, .int x_this_taped, .ref h_this_letters, .int x_this_at, .int x_this_begun, .int x_this_token, .int x_this_value, .int x_this_opened, .int x_this_steps, .ref h_this_code0, .ref h_this_read, .ref h_this_saved, .ref h_this_plan, .ref h_this_bestPlan, .int x_this_most, .int x_this_many, .int x_this_few, .int x_this_everHome, .ref h_this_offThen, .ref h_this_paidThen, .int x_this_firstFit, .ref h_this_rows, .int x_this_rowMany, .ref h_this_sorts, .ref h_this_sizes, .ref h_this_number, .ref h_this_holds, .ref h_this_heldOne, .ref h_this_trace, .int y2, .int x_this_own, .int x_this_isParted]), (h_this_s, ia G 313 f_this_s), (h_this_trace, ia G 30 g3)]) C h (c_X9_starts hc4) mv_X9_347 rfl 0 rfl [0, 2] rfl rfl rfl rfl rfl hl.1 rfl (Nat.le_of_ble_eq_true rfl) (rok (by omega)) dX9_tacksAs_13 (fun H locs h => ?_)
    refine lv_aload_n hx hb dX9_tacksAs_16 rfl (lv_at hl 0 rfl) ?_
    refine lv_iconst (v := (0 : Int32)) hx hb dX9_tacksAs_17 rfl ?_
    refine lv_iload_n hx hb dX9_tacksAs_18 rfl (lv_at hl 1 rfl) ?_
    replace hf := bd3_inv hf
    obtain ⟨r5, y6, g7, hc8, hf⟩ := hf
    refine r_ciV (ws' := [(h_this, ob 9 [.ref h_this_s, .ref h_this_kept, .ref h_this_laid, .int x_this_isKept, .ref h_this_pile, .ref h_this_tape, .int x_this_taped, .ref h_this_letters, .int x_this_at, .int x_this_begun, .int x_this_token, .int x_this_value, .int x_this_opened, .int x_this_steps, .ref h_this_code0, .ref h_this_read, .ref h_this_saved, .ref h_this_plan, .ref h_this_bestPlan, .int x_this_most, .int x_this_many, .int x_this_few, .int x_this_everHome, .ref h_this_offThen, .ref h_this_paidThen, .int x_this_firstFit, .ref h_this_rows, .int x_this_rowMany, .ref h_this_sorts, .ref h_this_sizes, .ref h_this_number, .ref h_this_holds, .ref h_this_heldOne, .ref h_this_trace, .int y6, .int x_this_own, .int x_this_isParted]), (h_this_s, ia G 313 f_this_s), (h_this_trace, ia G 30 g7)]) C h (hself hc8) mv_X9_356 rfl 0 rfl [0, 1, 2] rfl rfl rfl rfl rfl hl.1 rfl (Nat.le_of_ble_eq_true rfl) (rok (by omega)) dX9_tacksAs_19 (fun H locs h => ?_)
    refine lv_iconst (v := (2 : Int32)) hx hb dX9_tacksAs_22 rfl ?_
    refine lv_imul hx hb dX9_tacksAs_23 ?_
    cases hf
    exact r_iret C h hr hlk rfl dX9_tacksAs_24
  refine lv_iload_n hx hb dX9_tacksAs_0 rfl (lv_at hl 1 rfl) ?_
  refine lv_iconst (v := (2 : Int32)) hx hb dX9_tacksAs_1 rfl ?_
  refine lv_icmp_eq (tgt := 10) hx hb dX9_tacksAs_2 rfl (fun c1 => ?_) (fun c1 => ?_)
  · replace hf := ifp c1 hf
    exact hK2 _ _ _ _ (B10 hf) _ _ _ h (lv_sub hl [0, 2] rfl)
  · replace hf := ifn c1 hf
    refine lv_iload_n hx hb dX9_tacksAs_5 rfl (lv_at hl 1 rfl) ?_
    refine lv_iconst (v := (3 : Int32)) hx hb dX9_tacksAs_6 rfl ?_
    refine lv_icmp_ne (tgt := 25) hx hb dX9_tacksAs_7 rfl (fun c9 => ?_) (fun c9 => ?_)
    · replace hf := ifn c9 hf
      refine lv_iload_n hx hb dX9_tacksAs_25 rfl (lv_at hl 1 rfl) ?_
      refine lv_iconst (v := (5 : Int32)) hx hb dX9_tacksAs_26 rfl ?_
      refine lv_icmp_ne (tgt := 44) hx hb dX9_tacksAs_27 rfl (fun c10 => ?_) (fun c10 => ?_)
      · replace hf := ifn c10 hf
        refine lv_aload_n hx hb dX9_tacksAs_44 rfl (lv_at hl 0 rfl) ?_
        refine lv_bipush (v := (11 : Int32)) hx hb dX9_tacksAs_45 rfl ?_
        replace hf := bd2_inv hf
        obtain ⟨y11, g12, hc13, hf⟩ := hf
        refine r_cvV (ws' := [(h_this, ob 9 [.ref h_this_s, .ref h_this_kept, .ref h_this_laid, .int x_this_isKept, .ref h_this_pile, .ref h_this_tape, .int x_this_taped, .ref h_this_letters, .int x_this_at, .int x_this_begun, .int x_this_token, .int x_this_value, .int x_this_opened, .int x_this_steps, .ref h_this_code0, .ref h_this_read, .ref h_this_saved, .ref h_this_plan, .ref h_this_bestPlan, .int x_this_most, .int x_this_many, .int x_this_few, .int x_this_everHome, .ref h_this_offThen, .ref h_this_paidThen, .int x_this_firstFit, .ref h_this_rows, .int x_this_rowMany, .ref h_this_sorts, .ref h_this_sizes, .ref h_this_number, .ref h_this_holds, .ref h_this_heldOne, .ref h_this_trace, .int y11, .int x_this_own, .int x_this_isParted]), (h_this_s, ia G 313 f_this_s), (h_this_trace, ia G 30 g12)]) C h (c_X9_starts hc13) mv_X9_347 rfl 0 rfl [0, 2] rfl rfl rfl rfl rfl hl.1 rfl (Nat.le_of_ble_eq_true rfl) (rok (by omega)) dX9_tacksAs_47 (fun H locs h => ?_)
        refine lv_aload_n hx hb dX9_tacksAs_50 rfl (lv_at hl 0 rfl) ?_
        refine lv_aload_n hx hb dX9_tacksAs_51 rfl (lv_at hl 0 rfl) ?_
        refine lv_aload_n hx hb dX9_tacksAs_52 rfl (lv_at hl 0 rfl) ?_
        refine r_get C h fk_X9_353 0 rfl rfl dX9_tacksAs_53 ?_
        refine lv_iconst (v := (0 : Int32)) hx hb dX9_tacksAs_56 rfl ?_
        replace hf := bd1_inv hf
        obtain ⟨r14, hc15, hf⟩ := hf
        refine r_ciV0 C h (c_X9_get hc15) mv_X9_79 rfl 0 rfl [0, 1] rfl rfl hl.1 rfl (Nat.le_of_ble_eq_true rfl) (rok (by omega)) dX9_tacksAs_57 (fun H locs h => ?_)
        refine lv_iload_n hx hb dX9_tacksAs_60 rfl (lv_at hl 2 rfl) ?_
        replace hf := bd3_inv hf
        obtain ⟨r16, y17, g18, hc19, hf⟩ := hf
        refine r_ciV (ws' := [(h_this, ob 9 [.ref h_this_s, .ref h_this_kept, .ref h_this_laid, .int x_this_isKept, .ref h_this_pile, .ref h_this_tape, .int x_this_taped, .ref h_this_letters, .int x_this_at, .int x_this_begun, .int x_this_token, .int x_this_value, .int x_this_opened, .int x_this_steps, .ref h_this_code0, .ref h_this_read, .ref h_this_saved, .ref h_this_plan, .ref h_this_bestPlan, .int x_this_most, .int x_this_many, .int x_this_few, .int x_this_everHome, .ref h_this_offThen, .ref h_this_paidThen, .int x_this_firstFit, .ref h_this_rows, .int x_this_rowMany, .ref h_this_sorts, .ref h_this_sizes, .ref h_this_number, .ref h_this_holds, .ref h_this_heldOne, .ref h_this_trace, .int y17, .int x_this_own, .int x_this_isParted]), (h_this_s, ia G 313 f_this_s), (h_this_trace, ia G 30 g18)]) C h (C_X9_sightsAs 4 hc19) mv_X9_350 rfl 0 rfl [0, 2] rfl rfl rfl rfl rfl hl.1 rfl (Nat.le_of_ble_eq_true rfl) (rok (by omega)) dX9_tacksAs_61 (fun H locs h => ?_)
        refine lv_iconst (v := (3 : Int32)) hx hb dX9_tacksAs_64 rfl ?_
        refine lv_aload_n hx hb dX9_tacksAs_65 rfl (lv_at hl 0 rfl) ?_
        refine lv_aload_n hx hb dX9_tacksAs_66 rfl (lv_at hl 0 rfl) ?_
        refine r_get C h fk_X9_353 0 rfl rfl dX9_tacksAs_67 ?_
        refine lv_iconst (v := (3 : Int32)) hx hb dX9_tacksAs_70 rfl ?_
        replace hf := bd1_inv hf
        obtain ⟨r20, hc21, hf⟩ := hf
        refine r_ciV0 C h (c_X9_get hc21) mv_X9_79 rfl 0 rfl [0, 1] rfl rfl hl.1 rfl (Nat.le_of_ble_eq_true rfl) (rok (by omega)) dX9_tacksAs_71 (fun H locs h => ?_)
        refine lv_imul hx hb dX9_tacksAs_74 ?_
        refine lv_isub hx hb dX9_tacksAs_75 ?_
        cases hf
        exact r_iret C h hr hlk rfl dX9_tacksAs_76
      · replace hf := ifp c10 hf
        refine lv_aload_n hx hb dX9_tacksAs_30 rfl (lv_at hl 0 rfl) ?_
        refine lv_bipush (v := (60 : Int32)) hx hb dX9_tacksAs_31 rfl ?_
        replace hf := bd2_inv hf
        obtain ⟨y22, g23, hc24, hf⟩ := hf
        refine r_cvV (ws' := [(h_this, ob 9 [.ref h_this_s, .ref h_this_kept, .ref h_this_laid, .int x_this_isKept, .ref h_this_pile, .ref h_this_tape, .int x_this_taped, .ref h_this_letters, .int x_this_at, .int x_this_begun, .int x_this_token, .int x_this_value, .int x_this_opened, .int x_this_steps, .ref h_this_code0, .ref h_this_read, .ref h_this_saved, .ref h_this_plan, .ref h_this_bestPlan, .int x_this_most, .int x_this_many, .int x_this_few, .int x_this_everHome, .ref h_this_offThen, .ref h_this_paidThen, .int x_this_firstFit, .ref h_this_rows, .int x_this_rowMany, .ref h_this_sorts, .ref h_this_sizes, .ref h_this_number, .ref h_this_holds, .ref h_this_heldOne, .ref h_this_trace, .int y22, .int x_this_own, .int x_this_isParted]), (h_this_s, ia G 313 f_this_s), (h_this_trace, ia G 30 g23)]) C h (c_X9_starts hc24) mv_X9_347 rfl 0 rfl [0, 2] rfl rfl rfl rfl rfl hl.1 rfl (Nat.le_of_ble_eq_true rfl) (rok (by omega)) dX9_tacksAs_33 (fun H locs h => ?_)
        refine lv_aload_n hx hb dX9_tacksAs_36 rfl (lv_at hl 0 rfl) ?_
        refine lv_iconst (v := (4 : Int32)) hx hb dX9_tacksAs_37 rfl ?_
        refine lv_iload_n hx hb dX9_tacksAs_38 rfl (lv_at hl 2 rfl) ?_
        replace hf := bd3_inv hf
        obtain ⟨r25, y26, g27, hc28, hf⟩ := hf
        refine r_ciV (ws' := [(h_this, ob 9 [.ref h_this_s, .ref h_this_kept, .ref h_this_laid, .int x_this_isKept, .ref h_this_pile, .ref h_this_tape, .int x_this_taped, .ref h_this_letters, .int x_this_at, .int x_this_begun, .int x_this_token, .int x_this_value, .int x_this_opened, .int x_this_steps, .ref h_this_code0, .ref h_this_read, .ref h_this_saved, .ref h_this_plan, .ref h_this_bestPlan, .int x_this_most, .int x_this_many, .int x_this_few, .int x_this_everHome, .ref h_this_offThen, .ref h_this_paidThen, .int x_this_firstFit, .ref h_this_rows, .int x_this_rowMany, .ref h_this_sorts, .ref h_this_sizes, .ref h_this_number, .ref h_this_holds, .ref h_this_heldOne, .ref h_this_trace, .int y26, .int x_this_own, .int x_this_isParted]), (h_this_s, ia G 313 f_this_s), (h_this_trace, ia G 30 g27)]) C h (hself hc28) mv_X9_356 rfl 0 rfl [0, 1, 2] rfl rfl rfl rfl rfl hl.1 rfl (Nat.le_of_ble_eq_true rfl) (rok (by omega)) dX9_tacksAs_39 (fun H locs h => ?_)
        refine lv_ineg hx hb dX9_tacksAs_42 ?_
        cases hf
        exact r_iret C h hr hlk rfl dX9_tacksAs_43
    · replace hf := ifp c9 hf
      exact hK2 _ _ _ _ (B10 hf) _ _ _ h (lv_sub hl [0, 2] rfl)
def F_X9_tacksAs : Nat → Int32 → Int32 → Int32 → Int32 → (Nat → Int32) → (Nat → Int32) → Option (Int32 × Int32 × (Nat → Int32))
  | 0, _, _, _, _, _, _ => none
  | d + 1, p0, p1, x_this_traced, x_this_own, f_this_s, f_this_trace => f_X9_tacksAs (F_X9_tacksAs d) p0 p1 x_this_traced x_this_own f_this_s f_this_trace
theorem C_X9_tacksAs {l : Launch} {G : Gt} (d : Nat) : ∀ {h_this h_this_s h_this_kept h_this_laid h_this_pile h_this_tape h_this_letters h_this_code0 h_this_read h_this_saved h_this_plan h_this_bestPlan h_this_offThen h_this_paidThen h_this_rows h_this_sorts h_this_sizes h_this_number h_this_holds h_this_heldOne h_this_trace : Nat} {p0 : Int32} {p1 : Int32} {x_this_isKept : Int32} {x_this_taped : Int32} {x_this_at : Int32} {x_this_begun : Int32} {x_this_token : Int32} {x_this_value : Int32} {x_this_opened : Int32} {x_this_steps : Int32} {x_this_most : Int32} {x_this_many : Int32} {x_this_few : Int32} {x_this_everHome : Int32} {x_this_firstFit : Int32} {x_this_rowMany : Int32} {x_this_traced : Int32} {x_this_own : Int32} {x_this_isParted : Int32} {f_this_s : Nat → Int32} {f_this_trace : Nat → Int32} {r : Int32} {m_this_traced : Int32} {m_this_trace : Nat → Int32} , F_X9_tacksAs d p0 p1 x_this_traced x_this_own f_this_s f_this_trace = some (r, m_this_traced, m_this_trace) → mFi l G yX9_tacksAs cX9_tacksAs 3 .int (d * 5) [.ref h_this, .int p0, .int p1] [(h_this, ob 9 [.ref h_this_s, .ref h_this_kept, .ref h_this_laid, .int x_this_isKept, .ref h_this_pile, .ref h_this_tape, .int x_this_taped, .ref h_this_letters, .int x_this_at, .int x_this_begun, .int x_this_token, .int x_this_value, .int x_this_opened, .int x_this_steps, .ref h_this_code0, .ref h_this_read, .ref h_this_saved, .ref h_this_plan, .ref h_this_bestPlan, .int x_this_most, .int x_this_many, .int x_this_few, .int x_this_everHome, .ref h_this_offThen, .ref h_this_paidThen, .int x_this_firstFit, .ref h_this_rows, .int x_this_rowMany, .ref h_this_sorts, .ref h_this_sizes, .ref h_this_number, .ref h_this_holds, .ref h_this_heldOne, .ref h_this_trace, .int x_this_traced, .int x_this_own, .int x_this_isParted]), (h_this_s, ia G 313 f_this_s), (h_this_trace, ia G 30 f_this_trace)] r [(h_this, ob 9 [.ref h_this_s, .ref h_this_kept, .ref h_this_laid, .int x_this_isKept, .ref h_this_pile, .ref h_this_tape, .int x_this_taped, .ref h_this_letters, .int x_this_at, .int x_this_begun, .int x_this_token, .int x_this_value, .int x_this_opened, .int x_this_steps, .ref h_this_code0, .ref h_this_read, .ref h_this_saved, .ref h_this_plan, .ref h_this_bestPlan, .int x_this_most, .int x_this_many, .int x_this_few, .int x_this_everHome, .ref h_this_offThen, .ref h_this_paidThen, .int x_this_firstFit, .ref h_this_rows, .int x_this_rowMany, .ref h_this_sorts, .ref h_this_sizes, .ref h_this_number, .ref h_this_holds, .ref h_this_heldOne, .ref h_this_trace, .int m_this_traced, .int x_this_own, .int x_this_isParted]), (h_this_s, ia G 313 f_this_s), (h_this_trace, ia G 30 m_this_trace)] := by
  induction d with
  | zero =>
    intros
    rename_i hf
    replace hf : (none : Option _) = some _ := hf
    cases hf
  | succ d ih =>
    intros
    rename_i hf
    rw [Nat.succ_mul]
    exact c_X9_tacksAs (self := F_X9_tacksAs d) ih hf
def f_X9_soundsAs_b102 (p1 : Int32) (v3 : Int32) (s1 : Int32) (y_this_traced : Int32) (g_this_trace : Nat → Int32) : Option (Int32 × Int32 × Int32 × (Nat → Int32)) := (if s1 = 0 then chkD v3 (some (p1 - p1 / v3 * v3, y_this_traced, s1, g_this_trace)) else some ((0 : Int32), y_this_traced, s1, g_this_trace))
def f_X9_soundsAs_b97 (p1 : Int32) (v3 : Int32) (y_this_traced : Int32) (g_this_trace : Nat → Int32) : Option (Int32 × Int32 × Int32 × (Nat → Int32)) := f_X9_soundsAs_b102 p1 v3 (1 : Int32) y_this_traced g_this_trace
def f_X9_soundsAs (self : Int32 → Int32 → Int32 → Int32 → Int32 → (Nat → Int32) → (Nat → Int32) → Option (Int32 × Int32 × Int32 × (Nat → Int32))) (p0 : Int32) (p1 : Int32) (x_this_traced : Int32) (x_this_own : Int32) (x_this_isParted : Int32) (f_this_s : Nat → Int32) (f_this_trace : Nat → Int32) : Option (Int32 × Int32 × Int32 × (Nat → Int32)) := (if p0 = (5 : Int32) then bd2 (f_X9_starts (61 : Int32) x_this_traced f_this_trace) (fun y21 g22 => bd4 (self (4 : Int32) p1 y21 x_this_own x_this_isParted f_this_s g22) (fun r24 y25 y26 g27 => (if y26 = 0 then bd3 (F_X9_sightsAs 4 (5 : Int32) x_this_own y25 x_this_own g27) (fun r30 y31 g32 => some (r24 ^^^ r30, y31, y26, g32)) else some ((0 : Int32), y25, y26, g27)))) else (if p0 = (4 : Int32) then bd2 (f_X9_starts (40 : Int32) x_this_traced f_this_trace) (fun y13 g14 => bd4 (self (0 : Int32) p1 y13 x_this_own x_this_isParted f_this_s g14) (fun r16 y17 y18 g19 => some (r16 + (7 : Int32), y17, y18, g19))) else bd2 (f_X9_starts (12 : Int32) x_this_traced f_this_trace) (fun y3 g4 => bd1 (f_X9_get x_this_own (3 : Int32) f_this_s) (fun r6 => lt1 ((x_this_own + r6) - (5 : Int32)) (fun (t8 : Int32) => (if x_this_isParted = 0 then (if t8 = 0 then f_X9_soundsAs_b97 p1 t8 y3 g4 else f_X9_soundsAs_b102 p1 t8 (0 : Int32) y3 g4) else f_X9_soundsAs_b97 p1 t8 y3 g4))))))
set_option maxRecDepth 100000 in
set_option maxHeartbeats 4000000 in
theorem c_X9_soundsAs {l : Launch} {G : Gt} {self : Int32 → Int32 → Int32 → Int32 → Int32 → (Nat → Int32) → (Nat → Int32) → Option (Int32 × Int32 × Int32 × (Nat → Int32))} {H0 : Nat} (hself : ∀ {h_this h_this_s h_this_kept h_this_laid h_this_pile h_this_tape h_this_letters h_this_code0 h_this_read h_this_saved h_this_plan h_this_bestPlan h_this_offThen h_this_paidThen h_this_rows h_this_sorts h_this_sizes h_this_number h_this_holds h_this_heldOne h_this_trace : Nat} {p0 : Int32} {p1 : Int32} {x_this_isKept : Int32} {x_this_taped : Int32} {x_this_at : Int32} {x_this_begun : Int32} {x_this_token : Int32} {x_this_value : Int32} {x_this_opened : Int32} {x_this_steps : Int32} {x_this_most : Int32} {x_this_many : Int32} {x_this_few : Int32} {x_this_everHome : Int32} {x_this_firstFit : Int32} {x_this_rowMany : Int32} {x_this_traced : Int32} {x_this_own : Int32} {x_this_isParted : Int32} {f_this_s : Nat → Int32} {f_this_trace : Nat → Int32} {r : Int32} {m_this_traced : Int32} {m_this_isParted : Int32} {m_this_trace : Nat → Int32} , self p0 p1 x_this_traced x_this_own x_this_isParted f_this_s f_this_trace = some (r, m_this_traced, m_this_isParted, m_this_trace) → mFi l G yX9_soundsAs cX9_soundsAs 4 .int H0 [.ref h_this, .int p0, .int p1] [(h_this, ob 9 [.ref h_this_s, .ref h_this_kept, .ref h_this_laid, .int x_this_isKept, .ref h_this_pile, .ref h_this_tape, .int x_this_taped, .ref h_this_letters, .int x_this_at, .int x_this_begun, .int x_this_token, .int x_this_value, .int x_this_opened, .int x_this_steps, .ref h_this_code0, .ref h_this_read, .ref h_this_saved, .ref h_this_plan, .ref h_this_bestPlan, .int x_this_most, .int x_this_many, .int x_this_few, .int x_this_everHome, .ref h_this_offThen, .ref h_this_paidThen, .int x_this_firstFit, .ref h_this_rows, .int x_this_rowMany, .ref h_this_sorts, .ref h_this_sizes, .ref h_this_number, .ref h_this_holds, .ref h_this_heldOne, .ref h_this_trace, .int x_this_traced, .int x_this_own, .int x_this_isParted]), (h_this_s, ia G 313 f_this_s), (h_this_trace, ia G 30 f_this_trace)] r [(h_this, ob 9 [.ref h_this_s, .ref h_this_kept, .ref h_this_laid, .int x_this_isKept, .ref h_this_pile, .ref h_this_tape, .int x_this_taped, .ref h_this_letters, .int x_this_at, .int x_this_begun, .int x_this_token, .int x_this_value, .int x_this_opened, .int x_this_steps, .ref h_this_code0, .ref h_this_read, .ref h_this_saved, .ref h_this_plan, .ref h_this_bestPlan, .int x_this_most, .int x_this_many, .int x_this_few, .int x_this_everHome, .ref h_this_offThen, .ref h_this_paidThen, .int x_this_firstFit, .ref h_this_rows, .int x_this_rowMany, .ref h_this_sorts, .ref h_this_sizes, .ref h_this_number, .ref h_this_holds, .ref h_this_heldOne, .ref h_this_trace, .int m_this_traced, .int x_this_own, .int m_this_isParted]), (h_this_s, ia G 313 f_this_s), (h_this_trace, ia G 30 m_this_trace)]) {h_this h_this_s h_this_kept h_this_laid h_this_pile h_this_tape h_this_letters h_this_code0 h_this_read h_this_saved h_this_plan h_this_bestPlan h_this_offThen h_this_paidThen h_this_rows h_this_sorts h_this_sizes h_this_number h_this_holds h_this_heldOne h_this_trace : Nat} {p0 : Int32} {p1 : Int32} {x_this_isKept : Int32} {x_this_taped : Int32} {x_this_at : Int32} {x_this_begun : Int32} {x_this_token : Int32} {x_this_value : Int32} {x_this_opened : Int32} {x_this_steps : Int32} {x_this_most : Int32} {x_this_many : Int32} {x_this_few : Int32} {x_this_everHome : Int32} {x_this_firstFit : Int32} {x_this_rowMany : Int32} {x_this_traced : Int32} {x_this_own : Int32} {x_this_isParted : Int32} {f_this_s : Nat → Int32} {f_this_trace : Nat → Int32} {r : Int32} {m_this_traced : Int32} {m_this_isParted : Int32} {m_this_trace : Nat → Int32} (hf : f_X9_soundsAs self p0 p1 x_this_traced x_this_own x_this_isParted f_this_s f_this_trace = some (r, m_this_traced, m_this_isParted, m_this_trace)) : mFi l G yX9_soundsAs cX9_soundsAs 4 .int (H0 + 5) [.ref h_this, .int p0, .int p1] [(h_this, ob 9 [.ref h_this_s, .ref h_this_kept, .ref h_this_laid, .int x_this_isKept, .ref h_this_pile, .ref h_this_tape, .int x_this_taped, .ref h_this_letters, .int x_this_at, .int x_this_begun, .int x_this_token, .int x_this_value, .int x_this_opened, .int x_this_steps, .ref h_this_code0, .ref h_this_read, .ref h_this_saved, .ref h_this_plan, .ref h_this_bestPlan, .int x_this_most, .int x_this_many, .int x_this_few, .int x_this_everHome, .ref h_this_offThen, .ref h_this_paidThen, .int x_this_firstFit, .ref h_this_rows, .int x_this_rowMany, .ref h_this_sorts, .ref h_this_sizes, .ref h_this_number, .ref h_this_holds, .ref h_this_heldOne, .ref h_this_trace, .int x_this_traced, .int x_this_own, .int x_this_isParted]), (h_this_s, ia G 313 f_this_s), (h_this_trace, ia G 30 f_this_trace)] r [(h_this, ob 9 [.ref h_this_s, .ref h_this_kept, .ref h_this_laid, .int x_this_isKept, .ref h_this_pile, .ref h_this_tape, .int x_this_taped, .ref h_this_letters, .int x_this_at, .int x_this_begun, .int x_this_token, .int x_this_value, .int x_this_opened, .int x_this_steps, .ref h_this_code0, .ref h_this_read, .ref h_this_saved, .ref h_this_plan, .ref h_this_bestPlan, .int x_this_most, .int x_this_many, .int x_this_few, .int x_this_everHome, .ref h_this_offThen, .ref h_this_paidThen, .int x_this_firstFit, .ref h_this_rows, .int x_this_rowMany, .ref h_this_sorts, .ref h_this_sizes, .ref h_this_number, .ref h_this_holds, .ref h_this_heldOne, .ref h_this_trace, .int m_this_traced, .int x_this_own, .int m_this_isParted]), (h_this_s, ia G 313 f_this_s), (h_this_trace, ia G 30 m_this_trace)] := by
  refine mFi.of (by decide +kernel) (Nat.le_of_ble_eq_true rfl) ?_
  intro p e s m below meth c A C hr hlk h ls hl
  obtain ⟨hx, hb, hml, hown, hts⟩ := id C
  replace hl : lv_has ls 4 [(0, .ref h_this), (1, .int p0), (2, .int p1)] := hl
  unfold f_X9_soundsAs at hf
  refine with_K G A 4 (fun K hK1 hK2 => ?_)
  have B102 : ∀ (v3 : Int32) (s1 : Int32) (y_this_traced : Int32) (g_this_trace : Nat → Int32), f_X9_soundsAs_b102 p1 v3 s1 y_this_traced g_this_trace = some (r, m_this_traced, m_this_isParted, m_this_trace) → K 102 [.int s1, .ref h_this] [(h_this, ob 9 [.ref h_this_s, .ref h_this_kept, .ref h_this_laid, .int x_this_isKept, .ref h_this_pile, .ref h_this_tape, .int x_this_taped, .ref h_this_letters, .int x_this_at, .int x_this_begun, .int x_this_token, .int x_this_value, .int x_this_opened, .int x_this_steps, .ref h_this_code0, .ref h_this_read, .ref h_this_saved, .ref h_this_plan, .ref h_this_bestPlan, .int x_this_most, .int x_this_many, .int x_this_few, .int x_this_everHome, .ref h_this_offThen, .ref h_this_paidThen, .int x_this_firstFit, .ref h_this_rows, .int x_this_rowMany, .ref h_this_sorts, .ref h_this_sizes, .ref h_this_number, .ref h_this_holds, .ref h_this_heldOne, .ref h_this_trace, .int y_this_traced, .int x_this_own, .int x_this_isParted]), (h_this_s, ia G 313 f_this_s), (h_this_trace, ia G 30 g_this_trace)] [(0, .ref h_this), (2, .int p1), (3, .int v3)] := by
    intro v3 s1 y_this_traced g_this_trace hf
    unfold f_X9_soundsAs_b102 at hf
    refine hK1 _ _ _ _ (fun H locs ls h hl => ?_)
    refine r_put (ws' := [(h_this, ob 9 [.ref h_this_s, .ref h_this_kept, .ref h_this_laid, .int x_this_isKept, .ref h_this_pile, .ref h_this_tape, .int x_this_taped, .ref h_this_letters, .int x_this_at, .int x_this_begun, .int x_this_token, .int x_this_value, .int x_this_opened, .int x_this_steps, .ref h_this_code0, .ref h_this_read, .ref h_this_saved, .ref h_this_plan, .ref h_this_bestPlan, .int x_this_most, .int x_this_many, .int x_this_few, .int x_this_everHome, .ref h_this_offThen, .ref h_this_paidThen, .int x_this_firstFit, .ref h_this_rows, .int x_this_rowMany, .ref h_this_sorts, .ref h_this_sizes, .ref h_this_number, .ref h_this_holds, .ref h_this_heldOne, .ref h_this_trace, .int y_this_traced, .int x_this_own, .int s1]), (h_this_s, ia G 313 f_this_s), (h_this_trace, ia G 30 g_this_trace)]) C h fw_X9_362 0 rfl rfl rfl (Nat.le_of_ble_eq_true rfl) dX9_soundsAs_102 rfl (fun H locs h => ?_)
    refine lv_aload_n hx hb dX9_soundsAs_105 rfl (lv_at hl 0 rfl) ?_
    refine r_get C h fk_X9_362 0 rfl rfl dX9_soundsAs_106 ?_
    refine lv_if_eq (tgt := 116) hx hb dX9_soundsAs_109 rfl (fun c10 => ?_) (fun c10 => ?_)
    · replace hf := ifp c10 hf
      refine lv_iload_n hx hb dX9_soundsAs_116 rfl (lv_at hl 1 rfl) ?_
      refine lv_iload_n hx hb dX9_soundsAs_117 rfl (lv_at hl 2 rfl) ?_
      replace hf := chkD_inv hf
      obtain ⟨hd11, hf⟩ := hf
      refine lv_irem hx hb dX9_soundsAs_118 hd11 ?_
      cases hf
      exact r_iret C h hr hlk rfl dX9_soundsAs_119
    · replace hf := ifn c10 hf
      refine lv_iconst (v := (0 : Int32)) hx hb dX9_soundsAs_112 rfl ?_
      refine lv_goto (tgt := 119) hx hb dX9_soundsAs_113 rfl ?_
      cases hf
      exact r_iret C h hr hlk rfl dX9_soundsAs_119
  have B97 : ∀ (v3 : Int32) (y_this_traced : Int32) (g_this_trace : Nat → Int32), f_X9_soundsAs_b97 p1 v3 y_this_traced g_this_trace = some (r, m_this_traced, m_this_isParted, m_this_trace) → K 97 [.ref h_this] [(h_this, ob 9 [.ref h_this_s, .ref h_this_kept, .ref h_this_laid, .int x_this_isKept, .ref h_this_pile, .ref h_this_tape, .int x_this_taped, .ref h_this_letters, .int x_this_at, .int x_this_begun, .int x_this_token, .int x_this_value, .int x_this_opened, .int x_this_steps, .ref h_this_code0, .ref h_this_read, .ref h_this_saved, .ref h_this_plan, .ref h_this_bestPlan, .int x_this_most, .int x_this_many, .int x_this_few, .int x_this_everHome, .ref h_this_offThen, .ref h_this_paidThen, .int x_this_firstFit, .ref h_this_rows, .int x_this_rowMany, .ref h_this_sorts, .ref h_this_sizes, .ref h_this_number, .ref h_this_holds, .ref h_this_heldOne, .ref h_this_trace, .int y_this_traced, .int x_this_own, .int x_this_isParted]), (h_this_s, ia G 313 f_this_s), (h_this_trace, ia G 30 g_this_trace)] [(0, .ref h_this), (2, .int p1), (3, .int v3)] := by
    intro v3 y_this_traced g_this_trace hf
    unfold f_X9_soundsAs_b97 at hf
    refine hK1 _ _ _ _ (fun H locs ls h hl => ?_)
    refine lv_iconst (v := (1 : Int32)) hx hb dX9_soundsAs_97 rfl ?_
    refine lv_goto (tgt := 102) hx hb dX9_soundsAs_98 rfl ?_
    exact hK2 _ _ _ _ (B102 v3 (1 : Int32) y_this_traced g_this_trace hf) _ _ _ h (lv_sub hl [0, 1, 2] rfl)
  refine lv_iload_n hx hb dX9_soundsAs_0 rfl (lv_at hl 1 rfl) ?_
  refine lv_iconst (v := (5 : Int32)) hx hb dX9_soundsAs_1 rfl ?_
  refine lv_icmp_ne (tgt := 41) hx hb dX9_soundsAs_2 rfl (fun c1 => ?_) (fun c1 => ?_)
  · replace hf := ifn c1 hf
    refine lv_iload_n hx hb dX9_soundsAs_41 rfl (lv_at hl 1 rfl) ?_
    refine lv_iconst (v := (4 : Int32)) hx hb dX9_soundsAs_42 rfl ?_
    refine lv_icmp_ne (tgt := 62) hx hb dX9_soundsAs_43 rfl (fun c2 => ?_) (fun c2 => ?_)
    · replace hf := ifn c2 hf
      refine lv_aload_n hx hb dX9_soundsAs_62 rfl (lv_at hl 0 rfl) ?_
      refine lv_bipush (v := (12 : Int32)) hx hb dX9_soundsAs_63 rfl ?_
      replace hf := bd2_inv hf
      obtain ⟨y3, g4, hc5, hf⟩ := hf
      refine r_cvV (ws' := [(h_this, ob 9 [.ref h_this_s, .ref h_this_kept, .ref h_this_laid, .int x_this_isKept, .ref h_this_pile, .ref h_this_tape, .int x_this_taped, .ref h_this_letters, .int x_this_at, .int x_this_begun, .int x_this_token, .int x_this_value, .int x_this_opened, .int x_this_steps, .ref h_this_code0, .ref h_this_read, .ref h_this_saved, .ref h_this_plan, .ref h_this_bestPlan, .int x_this_most, .int x_this_many, .int x_this_few, .int x_this_everHome, .ref h_this_offThen, .ref h_this_paidThen, .int x_this_firstFit, .ref h_this_rows, .int x_this_rowMany, .ref h_this_sorts, .ref h_this_sizes, .ref h_this_number, .ref h_this_holds, .ref h_this_heldOne, .ref h_this_trace, .int y3, .int x_this_own, .int x_this_isParted]), (h_this_s, ia G 313 f_this_s), (h_this_trace, ia G 30 g4)]) C h (c_X9_starts hc5) mv_X9_347 rfl 0 rfl [0, 2] rfl rfl rfl rfl rfl hl.1 rfl (Nat.le_of_ble_eq_true rfl) (rok (by omega)) dX9_soundsAs_65 (fun H locs h => ?_)
      refine lv_aload_n hx hb dX9_soundsAs_68 rfl (lv_at hl 0 rfl) ?_
      refine r_get C h fk_X9_353 0 rfl rfl dX9_soundsAs_69 ?_
      refine lv_aload_n hx hb dX9_soundsAs_72 rfl (lv_at hl 0 rfl) ?_
      refine lv_aload_n hx hb dX9_soundsAs_73 rfl (lv_at hl 0 rfl) ?_
      refine r_get C h fk_X9_353 0 rfl rfl dX9_soundsAs_74 ?_
      refine lv_iconst (v := (3 : Int32)) hx hb dX9_soundsAs_77 rfl ?_
      replace hf := bd1_inv hf
      obtain ⟨r6, hc7, hf⟩ := hf
      refine r_ciV0 C h (c_X9_get hc7) mv_X9_79 rfl 0 rfl [0, 1] rfl rfl hl.1 rfl (Nat.le_of_ble_eq_true rfl) (rok (by omega)) dX9_soundsAs_78 (fun H locs h => ?_)
      refine lv_iadd hx hb dX9_soundsAs_81 ?_
      refine lv_iconst (v := (5 : Int32)) hx hb dX9_soundsAs_82 rfl ?_
      refine lv_isub hx hb dX9_soundsAs_83 ?_
      refine lv_topi (fun t8 et8 => ?_)
      replace hf := lt1_inv et8 hf
      refine lv_istore_n (lv' := [(3, .int t8), (0, .ref h_this), (1, .int p0), (2, .int p1)]) hx hb dX9_soundsAs_84 rfl hl (by decide) rfl (fun ls hl => ?_)
      refine lv_aload_n hx hb dX9_soundsAs_85 rfl (lv_at hl 1 rfl) ?_
      refine lv_aload_n hx hb dX9_soundsAs_86 rfl (lv_at hl 1 rfl) ?_
      refine r_get C h fk_X9_362 0 rfl rfl dX9_soundsAs_87 ?_
      refine lv_if_ne (tgt := 97) hx hb dX9_soundsAs_90 rfl (fun c9 => ?_) (fun c9 => ?_)
      · replace hf := ifn c9 hf
        exact hK2 _ _ _ _ (B97 t8 y3 g4 hf) _ _ _ h (lv_sub hl [1, 3, 0] rfl)
      · replace hf := ifp c9 hf
        refine lv_iload_n hx hb dX9_soundsAs_93 rfl (lv_at hl 0 rfl) ?_
        refine lv_if_ne (tgt := 101) hx hb dX9_soundsAs_94 rfl (fun c12 => ?_) (fun c12 => ?_)
        · replace hf := ifn c12 hf
          refine lv_iconst (v := (0 : Int32)) hx hb dX9_soundsAs_101 rfl ?_
          exact hK2 _ _ _ _ (B102 t8 (0 : Int32) y3 g4 hf) _ _ _ h (lv_sub hl [1, 3, 0] rfl)
        · replace hf := ifp c12 hf
          exact hK2 _ _ _ _ (B97 t8 y3 g4 hf) _ _ _ h (lv_sub hl [1, 3, 0] rfl)
    · replace hf := ifp c2 hf
      refine lv_aload_n hx hb dX9_soundsAs_46 rfl (lv_at hl 0 rfl) ?_
      refine lv_bipush (v := (40 : Int32)) hx hb dX9_soundsAs_47 rfl ?_
      replace hf := bd2_inv hf
      obtain ⟨y13, g14, hc15, hf⟩ := hf
      refine r_cvV (ws' := [(h_this, ob 9 [.ref h_this_s, .ref h_this_kept, .ref h_this_laid, .int x_this_isKept, .ref h_this_pile, .ref h_this_tape, .int x_this_taped, .ref h_this_letters, .int x_this_at, .int x_this_begun, .int x_this_token, .int x_this_value, .int x_this_opened, .int x_this_steps, .ref h_this_code0, .ref h_this_read, .ref h_this_saved, .ref h_this_plan, .ref h_this_bestPlan, .int x_this_most, .int x_this_many, .int x_this_few, .int x_this_everHome, .ref h_this_offThen, .ref h_this_paidThen, .int x_this_firstFit, .ref h_this_rows, .int x_this_rowMany, .ref h_this_sorts, .ref h_this_sizes, .ref h_this_number, .ref h_this_holds, .ref h_this_heldOne, .ref h_this_trace, .int y13, .int x_this_own, .int x_this_isParted]), (h_this_s, ia G 313 f_this_s), (h_this_trace, ia G 30 g14)]) C h (c_X9_starts hc15) mv_X9_347 rfl 0 rfl [0, 2] rfl rfl rfl rfl rfl hl.1 rfl (Nat.le_of_ble_eq_true rfl) (rok (by omega)) dX9_soundsAs_49 (fun H locs h => ?_)
      refine lv_aload_n hx hb dX9_soundsAs_52 rfl (lv_at hl 0 rfl) ?_
      refine lv_iconst (v := (0 : Int32)) hx hb dX9_soundsAs_53 rfl ?_
      refine lv_iload_n hx hb dX9_soundsAs_54 rfl (lv_at hl 2 rfl) ?_
      replace hf := bd4_inv hf
      obtain ⟨r16, y17, y18, g19, hc20, hf⟩ := hf
      refine r_ciV (ws' := [(h_this, ob 9 [.ref h_this_s, .ref h_this_kept, .ref h_this_laid, .int x_this_isKept, .ref h_this_pile, .ref h_this_tape, .int x_this_taped, .ref h_this_letters, .int x_this_at, .int x_this_begun, .int x_this_token, .int x_this_value, .int x_this_opened, .int x_this_steps, .ref h_this_code0, .ref h_this_read, .ref h_this_saved, .ref h_this_plan, .ref h_this_bestPlan, .int x_this_most, .int x_this_many, .int x_this_few, .int x_this_everHome, .ref h_this_offThen, .ref h_this_paidThen, .int x_this_firstFit, .ref h_this_rows, .int x_this_rowMany, .ref h_this_sorts, .ref h_this_sizes, .ref h_this_number, .ref h_this_holds, .ref h_this_heldOne, .ref h_this_trace, .int y17, .int x_this_own, .int y18]), (h_this_s, ia G 313 f_this_s), (h_this_trace, ia G 30 g19)]) C h (hself hc20) mv_X9_359 rfl 0 rfl [0, 1, 2] rfl rfl rfl rfl rfl hl.1 rfl (Nat.le_of_ble_eq_true rfl) (rok (by omega)) dX9_soundsAs_55 (fun H locs h => ?_)
      refine lv_bipush (v := (7 : Int32)) hx hb dX9_soundsAs_58 rfl ?_
      refine lv_iadd hx hb dX9_soundsAs_60 ?_
      cases hf
      exact r_iret C h hr hlk rfl dX9_soundsAs_61
  · replace hf := ifp c1 hf
    refine lv_aload_n hx hb dX9_soundsAs_5 rfl (lv_at hl 0 rfl) ?_
    refine lv_bipush (v := (61 : Int32)) hx hb dX9_soundsAs_6 rfl ?_
    replace hf := bd2_inv hf
    obtain ⟨y21, g22, hc23, hf⟩ := hf
    refine r_cvV (ws' := [(h_this, ob 9 [.ref h_this_s, .ref h_this_kept, .ref h_this_laid, .int x_this_isKept, .ref h_this_pile, .ref h_this_tape, .int x_this_taped, .ref h_this_letters, .int x_this_at, .int x_this_begun, .int x_this_token, .int x_this_value, .int x_this_opened, .int x_this_steps, .ref h_this_code0, .ref h_this_read, .ref h_this_saved, .ref h_this_plan, .ref h_this_bestPlan, .int x_this_most, .int x_this_many, .int x_this_few, .int x_this_everHome, .ref h_this_offThen, .ref h_this_paidThen, .int x_this_firstFit, .ref h_this_rows, .int x_this_rowMany, .ref h_this_sorts, .ref h_this_sizes, .ref h_this_number, .ref h_this_holds, .ref h_this_heldOne, .ref h_this_trace, .int y21, .int x_this_own, .int x_this_isParted]), (h_this_s, ia G 313 f_this_s), (h_this_trace, ia G 30 g22)]) C h (c_X9_starts hc23) mv_X9_347 rfl 0 rfl [0, 2] rfl rfl rfl rfl rfl hl.1 rfl (Nat.le_of_ble_eq_true rfl) (rok (by omega)) dX9_soundsAs_8 (fun H locs h => ?_)
    refine lv_aload_n hx hb dX9_soundsAs_11 rfl (lv_at hl 0 rfl) ?_
    refine lv_iconst (v := (4 : Int32)) hx hb dX9_soundsAs_12 rfl ?_
    refine lv_iload_n hx hb dX9_soundsAs_13 rfl (lv_at hl 2 rfl) ?_
    replace hf := bd4_inv hf
    obtain ⟨r24, y25, y26, g27, hc28, hf⟩ := hf
    refine r_ciV (ws' := [(h_this, ob 9 [.ref h_this_s, .ref h_this_kept, .ref h_this_laid, .int x_this_isKept, .ref h_this_pile, .ref h_this_tape, .int x_this_taped, .ref h_this_letters, .int x_this_at, .int x_this_begun, .int x_this_token, .int x_this_value, .int x_this_opened, .int x_this_steps, .ref h_this_code0, .ref h_this_read, .ref h_this_saved, .ref h_this_plan, .ref h_this_bestPlan, .int x_this_most, .int x_this_many, .int x_this_few, .int x_this_everHome, .ref h_this_offThen, .ref h_this_paidThen, .int x_this_firstFit, .ref h_this_rows, .int x_this_rowMany, .ref h_this_sorts, .ref h_this_sizes, .ref h_this_number, .ref h_this_holds, .ref h_this_heldOne, .ref h_this_trace, .int y25, .int x_this_own, .int y26]), (h_this_s, ia G 313 f_this_s), (h_this_trace, ia G 30 g27)]) C h (hself hc28) mv_X9_359 rfl 0 rfl [0, 1, 2] rfl rfl rfl rfl rfl hl.1 rfl (Nat.le_of_ble_eq_true rfl) (rok (by omega)) dX9_soundsAs_14 (fun H locs h => ?_)
    refine lv_istore_n (lv' := [(3, .int r24), (0, .ref h_this), (1, .int p0), (2, .int p1)]) hx hb dX9_soundsAs_17 rfl hl (by decide) rfl (fun ls hl => ?_)
    refine lv_aload_n hx hb dX9_soundsAs_18 rfl (lv_at hl 1 rfl) ?_
    refine r_get C h fk_X9_362 0 rfl rfl dX9_soundsAs_19 ?_
    refine lv_if_eq (tgt := 29) hx hb dX9_soundsAs_22 rfl (fun c29 => ?_) (fun c29 => ?_)
    · replace hf := ifp c29 hf
      refine lv_iload_n hx hb dX9_soundsAs_29 rfl (lv_at hl 0 rfl) ?_
      refine lv_aload_n hx hb dX9_soundsAs_30 rfl (lv_at hl 1 rfl) ?_
      refine lv_iconst (v := (5 : Int32)) hx hb dX9_soundsAs_31 rfl ?_
      refine lv_aload_n hx hb dX9_soundsAs_32 rfl (lv_at hl 1 rfl) ?_
      refine r_get C h fk_X9_353 0 rfl rfl dX9_soundsAs_33 ?_
      replace hf := bd3_inv hf
      obtain ⟨r30, y31, g32, hc33, hf⟩ := hf
      refine r_ciV (ws' := [(h_this, ob 9 [.ref h_this_s, .ref h_this_kept, .ref h_this_laid, .int x_this_isKept, .ref h_this_pile, .ref h_this_tape, .int x_this_taped, .ref h_this_letters, .int x_this_at, .int x_this_begun, .int x_this_token, .int x_this_value, .int x_this_opened, .int x_this_steps, .ref h_this_code0, .ref h_this_read, .ref h_this_saved, .ref h_this_plan, .ref h_this_bestPlan, .int x_this_most, .int x_this_many, .int x_this_few, .int x_this_everHome, .ref h_this_offThen, .ref h_this_paidThen, .int x_this_firstFit, .ref h_this_rows, .int x_this_rowMany, .ref h_this_sorts, .ref h_this_sizes, .ref h_this_number, .ref h_this_holds, .ref h_this_heldOne, .ref h_this_trace, .int y31, .int x_this_own, .int y26]), (h_this_s, ia G 313 f_this_s), (h_this_trace, ia G 30 g32)]) C h (C_X9_sightsAs 4 hc33) mv_X9_350 rfl 0 rfl [0, 2] rfl rfl rfl rfl rfl hl.1 rfl (Nat.le_of_ble_eq_true rfl) (rok (by omega)) dX9_soundsAs_36 (fun H locs h => ?_)
      refine lv_ixor hx hb dX9_soundsAs_39 ?_
      cases hf
      exact r_iret C h hr hlk rfl dX9_soundsAs_40
    · replace hf := ifn c29 hf
      refine lv_iconst (v := (0 : Int32)) hx hb dX9_soundsAs_25 rfl ?_
      refine lv_goto (tgt := 40) hx hb dX9_soundsAs_26 rfl ?_
      cases hf
      exact r_iret C h hr hlk rfl dX9_soundsAs_40
def F_X9_soundsAs : Nat → Int32 → Int32 → Int32 → Int32 → Int32 → (Nat → Int32) → (Nat → Int32) → Option (Int32 × Int32 × Int32 × (Nat → Int32))
  | 0, _, _, _, _, _, _, _ => none
  | d + 1, p0, p1, x_this_traced, x_this_own, x_this_isParted, f_this_s, f_this_trace => f_X9_soundsAs (F_X9_soundsAs d) p0 p1 x_this_traced x_this_own x_this_isParted f_this_s f_this_trace
theorem C_X9_soundsAs {l : Launch} {G : Gt} (d : Nat) : ∀ {h_this h_this_s h_this_kept h_this_laid h_this_pile h_this_tape h_this_letters h_this_code0 h_this_read h_this_saved h_this_plan h_this_bestPlan h_this_offThen h_this_paidThen h_this_rows h_this_sorts h_this_sizes h_this_number h_this_holds h_this_heldOne h_this_trace : Nat} {p0 : Int32} {p1 : Int32} {x_this_isKept : Int32} {x_this_taped : Int32} {x_this_at : Int32} {x_this_begun : Int32} {x_this_token : Int32} {x_this_value : Int32} {x_this_opened : Int32} {x_this_steps : Int32} {x_this_most : Int32} {x_this_many : Int32} {x_this_few : Int32} {x_this_everHome : Int32} {x_this_firstFit : Int32} {x_this_rowMany : Int32} {x_this_traced : Int32} {x_this_own : Int32} {x_this_isParted : Int32} {f_this_s : Nat → Int32} {f_this_trace : Nat → Int32} {r : Int32} {m_this_traced : Int32} {m_this_isParted : Int32} {m_this_trace : Nat → Int32} , F_X9_soundsAs d p0 p1 x_this_traced x_this_own x_this_isParted f_this_s f_this_trace = some (r, m_this_traced, m_this_isParted, m_this_trace) → mFi l G yX9_soundsAs cX9_soundsAs 4 .int (d * 5) [.ref h_this, .int p0, .int p1] [(h_this, ob 9 [.ref h_this_s, .ref h_this_kept, .ref h_this_laid, .int x_this_isKept, .ref h_this_pile, .ref h_this_tape, .int x_this_taped, .ref h_this_letters, .int x_this_at, .int x_this_begun, .int x_this_token, .int x_this_value, .int x_this_opened, .int x_this_steps, .ref h_this_code0, .ref h_this_read, .ref h_this_saved, .ref h_this_plan, .ref h_this_bestPlan, .int x_this_most, .int x_this_many, .int x_this_few, .int x_this_everHome, .ref h_this_offThen, .ref h_this_paidThen, .int x_this_firstFit, .ref h_this_rows, .int x_this_rowMany, .ref h_this_sorts, .ref h_this_sizes, .ref h_this_number, .ref h_this_holds, .ref h_this_heldOne, .ref h_this_trace, .int x_this_traced, .int x_this_own, .int x_this_isParted]), (h_this_s, ia G 313 f_this_s), (h_this_trace, ia G 30 f_this_trace)] r [(h_this, ob 9 [.ref h_this_s, .ref h_this_kept, .ref h_this_laid, .int x_this_isKept, .ref h_this_pile, .ref h_this_tape, .int x_this_taped, .ref h_this_letters, .int x_this_at, .int x_this_begun, .int x_this_token, .int x_this_value, .int x_this_opened, .int x_this_steps, .ref h_this_code0, .ref h_this_read, .ref h_this_saved, .ref h_this_plan, .ref h_this_bestPlan, .int x_this_most, .int x_this_many, .int x_this_few, .int x_this_everHome, .ref h_this_offThen, .ref h_this_paidThen, .int x_this_firstFit, .ref h_this_rows, .int x_this_rowMany, .ref h_this_sorts, .ref h_this_sizes, .ref h_this_number, .ref h_this_holds, .ref h_this_heldOne, .ref h_this_trace, .int m_this_traced, .int x_this_own, .int m_this_isParted]), (h_this_s, ia G 313 f_this_s), (h_this_trace, ia G 30 m_this_trace)] := by
  induction d with
  | zero =>
    intros
    rename_i hf
    replace hf : (none : Option _) = some _ := hf
    cases hf
  | succ d ih =>
    intros
    rename_i hf
    rw [Nat.succ_mul]
    exact c_X9_soundsAs (self := F_X9_soundsAs d) ih hf
def f_X9_landsAs (self : Int32 → Int32 → Int32 → Int32 → Int32 → (Nat → Int32) → (Nat → Int32) → Option (Int32 × Int32 × Int32 × (Nat → Int32))) (p0 : Int32) (p1 : Int32) (x_this_traced : Int32) (x_this_own : Int32) (x_this_isParted : Int32) (f_this_s : Nat → Int32) (f_this_trace : Nat → Int32) : Option (Int32 × Int32 × Int32 × (Nat → Int32)) := (if p0 = (3 : Int32) then bd2 (f_X9_starts (51 : Int32) x_this_traced f_this_trace) (fun y18 g19 => bd4 (self (2 : Int32) p1 y18 x_this_own x_this_isParted f_this_s g19) (fun r21 y22 y23 g24 => (if y23 = 0 then bd1 (f_X9_get x_this_own (3 : Int32) f_this_s) (fun r27 => bd3 (F_X9_tacksAs 4 (3 : Int32) r27 y22 x_this_own f_this_s g24) (fun r29 y30 g31 => some (r21 - r29, y30, y23, g31))) else some ((0 : Int32), y22, y23, g24)))) else bd2 (f_X9_starts (13 : Int32) x_this_traced f_this_trace) (fun y2 g3 => bd1 (f_X9_get x_this_own (0 : Int32) f_this_s) (fun r5 => bd3 (F_X9_tacksAs 4 r5 p1 y2 x_this_own f_this_s g3) (fun r7 y8 g9 => bd1 (f_X9_get x_this_own (0 : Int32) f_this_s) (fun r11 => bd4 (F_X9_soundsAs 4 r11 p1 y8 x_this_own x_this_isParted f_this_s g9) (fun r13 y14 y15 g16 => some (r7 + r13, y14, y15, g16)))))))
set_option maxRecDepth 100000 in
set_option maxHeartbeats 4000000 in
theorem c_X9_landsAs {l : Launch} {G : Gt} {self : Int32 → Int32 → Int32 → Int32 → Int32 → (Nat → Int32) → (Nat → Int32) → Option (Int32 × Int32 × Int32 × (Nat → Int32))} {H0 : Nat} (hself : ∀ {h_this h_this_s h_this_kept h_this_laid h_this_pile h_this_tape h_this_letters h_this_code0 h_this_read h_this_saved h_this_plan h_this_bestPlan h_this_offThen h_this_paidThen h_this_rows h_this_sorts h_this_sizes h_this_number h_this_holds h_this_heldOne h_this_trace : Nat} {p0 : Int32} {p1 : Int32} {x_this_isKept : Int32} {x_this_taped : Int32} {x_this_at : Int32} {x_this_begun : Int32} {x_this_token : Int32} {x_this_value : Int32} {x_this_opened : Int32} {x_this_steps : Int32} {x_this_most : Int32} {x_this_many : Int32} {x_this_few : Int32} {x_this_everHome : Int32} {x_this_firstFit : Int32} {x_this_rowMany : Int32} {x_this_traced : Int32} {x_this_own : Int32} {x_this_isParted : Int32} {f_this_s : Nat → Int32} {f_this_trace : Nat → Int32} {r : Int32} {m_this_traced : Int32} {m_this_isParted : Int32} {m_this_trace : Nat → Int32} , self p0 p1 x_this_traced x_this_own x_this_isParted f_this_s f_this_trace = some (r, m_this_traced, m_this_isParted, m_this_trace) → mFi l G yX9_landsAs cX9_landsAs 4 .int H0 [.ref h_this, .int p0, .int p1] [(h_this, ob 9 [.ref h_this_s, .ref h_this_kept, .ref h_this_laid, .int x_this_isKept, .ref h_this_pile, .ref h_this_tape, .int x_this_taped, .ref h_this_letters, .int x_this_at, .int x_this_begun, .int x_this_token, .int x_this_value, .int x_this_opened, .int x_this_steps, .ref h_this_code0, .ref h_this_read, .ref h_this_saved, .ref h_this_plan, .ref h_this_bestPlan, .int x_this_most, .int x_this_many, .int x_this_few, .int x_this_everHome, .ref h_this_offThen, .ref h_this_paidThen, .int x_this_firstFit, .ref h_this_rows, .int x_this_rowMany, .ref h_this_sorts, .ref h_this_sizes, .ref h_this_number, .ref h_this_holds, .ref h_this_heldOne, .ref h_this_trace, .int x_this_traced, .int x_this_own, .int x_this_isParted]), (h_this_s, ia G 313 f_this_s), (h_this_trace, ia G 30 f_this_trace)] r [(h_this, ob 9 [.ref h_this_s, .ref h_this_kept, .ref h_this_laid, .int x_this_isKept, .ref h_this_pile, .ref h_this_tape, .int x_this_taped, .ref h_this_letters, .int x_this_at, .int x_this_begun, .int x_this_token, .int x_this_value, .int x_this_opened, .int x_this_steps, .ref h_this_code0, .ref h_this_read, .ref h_this_saved, .ref h_this_plan, .ref h_this_bestPlan, .int x_this_most, .int x_this_many, .int x_this_few, .int x_this_everHome, .ref h_this_offThen, .ref h_this_paidThen, .int x_this_firstFit, .ref h_this_rows, .int x_this_rowMany, .ref h_this_sorts, .ref h_this_sizes, .ref h_this_number, .ref h_this_holds, .ref h_this_heldOne, .ref h_this_trace, .int m_this_traced, .int x_this_own, .int m_this_isParted]), (h_this_s, ia G 313 f_this_s), (h_this_trace, ia G 30 m_this_trace)]) {h_this h_this_s h_this_kept h_this_laid h_this_pile h_this_tape h_this_letters h_this_code0 h_this_read h_this_saved h_this_plan h_this_bestPlan h_this_offThen h_this_paidThen h_this_rows h_this_sorts h_this_sizes h_this_number h_this_holds h_this_heldOne h_this_trace : Nat} {p0 : Int32} {p1 : Int32} {x_this_isKept : Int32} {x_this_taped : Int32} {x_this_at : Int32} {x_this_begun : Int32} {x_this_token : Int32} {x_this_value : Int32} {x_this_opened : Int32} {x_this_steps : Int32} {x_this_most : Int32} {x_this_many : Int32} {x_this_few : Int32} {x_this_everHome : Int32} {x_this_firstFit : Int32} {x_this_rowMany : Int32} {x_this_traced : Int32} {x_this_own : Int32} {x_this_isParted : Int32} {f_this_s : Nat → Int32} {f_this_trace : Nat → Int32} {r : Int32} {m_this_traced : Int32} {m_this_isParted : Int32} {m_this_trace : Nat → Int32} (hf : f_X9_landsAs self p0 p1 x_this_traced x_this_own x_this_isParted f_this_s f_this_trace = some (r, m_this_traced, m_this_isParted, m_this_trace)) : mFi l G yX9_landsAs cX9_landsAs 4 .int (H0 + 21) [.ref h_this, .int p0, .int p1] [(h_this, ob 9 [.ref h_this_s, .ref h_this_kept, .ref h_this_laid, .int x_this_isKept, .ref h_this_pile, .ref h_this_tape, .int x_this_taped, .ref h_this_letters, .int x_this_at, .int x_this_begun, .int x_this_token, .int x_this_value, .int x_this_opened, .int x_this_steps, .ref h_this_code0, .ref h_this_read, .ref h_this_saved, .ref h_this_plan, .ref h_this_bestPlan, .int x_this_most, .int x_this_many, .int x_this_few, .int x_this_everHome, .ref h_this_offThen, .ref h_this_paidThen, .int x_this_firstFit, .ref h_this_rows, .int x_this_rowMany, .ref h_this_sorts, .ref h_this_sizes, .ref h_this_number, .ref h_this_holds, .ref h_this_heldOne, .ref h_this_trace, .int x_this_traced, .int x_this_own, .int x_this_isParted]), (h_this_s, ia G 313 f_this_s), (h_this_trace, ia G 30 f_this_trace)] r [(h_this, ob 9 [.ref h_this_s, .ref h_this_kept, .ref h_this_laid, .int x_this_isKept, .ref h_this_pile, .ref h_this_tape, .int x_this_taped, .ref h_this_letters, .int x_this_at, .int x_this_begun, .int x_this_token, .int x_this_value, .int x_this_opened, .int x_this_steps, .ref h_this_code0, .ref h_this_read, .ref h_this_saved, .ref h_this_plan, .ref h_this_bestPlan, .int x_this_most, .int x_this_many, .int x_this_few, .int x_this_everHome, .ref h_this_offThen, .ref h_this_paidThen, .int x_this_firstFit, .ref h_this_rows, .int x_this_rowMany, .ref h_this_sorts, .ref h_this_sizes, .ref h_this_number, .ref h_this_holds, .ref h_this_heldOne, .ref h_this_trace, .int m_this_traced, .int x_this_own, .int m_this_isParted]), (h_this_s, ia G 313 f_this_s), (h_this_trace, ia G 30 m_this_trace)] := by
  refine mFi.of (by decide +kernel) (Nat.le_of_ble_eq_true rfl) ?_
  intro p e s m below meth c A C hr hlk h ls hl
  obtain ⟨hx, hb, hml, hown, hts⟩ := id C
  replace hl : lv_has ls 4 [(0, .ref h_this), (1, .int p0), (2, .int p1)] := hl
  unfold f_X9_landsAs at hf
  refine lv_iload_n hx hb dX9_landsAs_0 rfl (lv_at hl 1 rfl) ?_
  refine lv_iconst (v := (3 : Int32)) hx hb dX9_landsAs_1 rfl ?_
  refine lv_icmp_ne (tgt := 46) hx hb dX9_landsAs_2 rfl (fun c1 => ?_) (fun c1 => ?_)
  · replace hf := ifn c1 hf
    refine lv_aload_n hx hb dX9_landsAs_46 rfl (lv_at hl 0 rfl) ?_
    refine lv_bipush (v := (13 : Int32)) hx hb dX9_landsAs_47 rfl ?_
    replace hf := bd2_inv hf
    obtain ⟨y2, g3, hc4, hf⟩ := hf
    refine r_cvV (ws' := [(h_this, ob 9 [.ref h_this_s, .ref h_this_kept, .ref h_this_laid, .int x_this_isKept, .ref h_this_pile, .ref h_this_tape, .int x_this_taped, .ref h_this_letters, .int x_this_at, .int x_this_begun, .int x_this_token, .int x_this_value, .int x_this_opened, .int x_this_steps, .ref h_this_code0, .ref h_this_read, .ref h_this_saved, .ref h_this_plan, .ref h_this_bestPlan, .int x_this_most, .int x_this_many, .int x_this_few, .int x_this_everHome, .ref h_this_offThen, .ref h_this_paidThen, .int x_this_firstFit, .ref h_this_rows, .int x_this_rowMany, .ref h_this_sorts, .ref h_this_sizes, .ref h_this_number, .ref h_this_holds, .ref h_this_heldOne, .ref h_this_trace, .int y2, .int x_this_own, .int x_this_isParted]), (h_this_s, ia G 313 f_this_s), (h_this_trace, ia G 30 g3)]) C h (c_X9_starts hc4) mv_X9_347 rfl 0 rfl [0, 2] rfl rfl rfl rfl rfl hl.1 rfl (Nat.le_of_ble_eq_true rfl) (rok (by omega)) dX9_landsAs_49 (fun H locs h => ?_)
    refine lv_aload_n hx hb dX9_landsAs_52 rfl (lv_at hl 0 rfl) ?_
    refine lv_aload_n hx hb dX9_landsAs_53 rfl (lv_at hl 0 rfl) ?_
    refine lv_aload_n hx hb dX9_landsAs_54 rfl (lv_at hl 0 rfl) ?_
    refine r_get C h fk_X9_353 0 rfl rfl dX9_landsAs_55 ?_
    refine lv_iconst (v := (0 : Int32)) hx hb dX9_landsAs_58 rfl ?_
    replace hf := bd1_inv hf
    obtain ⟨r5, hc6, hf⟩ := hf
    refine r_ciV0 C h (c_X9_get hc6) mv_X9_79 rfl 0 rfl [0, 1] rfl rfl hl.1 rfl (Nat.le_of_ble_eq_true rfl) (rok (by omega)) dX9_landsAs_59 (fun H locs h => ?_)
    refine lv_iload_n hx hb dX9_landsAs_62 rfl (lv_at hl 2 rfl) ?_
    replace hf := bd3_inv hf
    obtain ⟨r7, y8, g9, hc10, hf⟩ := hf
    refine r_ciV (ws' := [(h_this, ob 9 [.ref h_this_s, .ref h_this_kept, .ref h_this_laid, .int x_this_isKept, .ref h_this_pile, .ref h_this_tape, .int x_this_taped, .ref h_this_letters, .int x_this_at, .int x_this_begun, .int x_this_token, .int x_this_value, .int x_this_opened, .int x_this_steps, .ref h_this_code0, .ref h_this_read, .ref h_this_saved, .ref h_this_plan, .ref h_this_bestPlan, .int x_this_most, .int x_this_many, .int x_this_few, .int x_this_everHome, .ref h_this_offThen, .ref h_this_paidThen, .int x_this_firstFit, .ref h_this_rows, .int x_this_rowMany, .ref h_this_sorts, .ref h_this_sizes, .ref h_this_number, .ref h_this_holds, .ref h_this_heldOne, .ref h_this_trace, .int y8, .int x_this_own, .int x_this_isParted]), (h_this_s, ia G 313 f_this_s), (h_this_trace, ia G 30 g9)]) C h (C_X9_tacksAs 4 hc10) mv_X9_356 rfl 0 rfl [0, 1, 2] rfl rfl rfl rfl rfl hl.1 rfl (Nat.le_of_ble_eq_true rfl) (rok (by omega)) dX9_landsAs_63 (fun H locs h => ?_)
    refine lv_istore_n (lv' := [(3, .int r7), (0, .ref h_this), (1, .int p0), (2, .int p1)]) hx hb dX9_landsAs_66 rfl hl (by decide) rfl (fun ls hl => ?_)
    refine lv_iload_n hx hb dX9_landsAs_67 rfl (lv_at hl 0 rfl) ?_
    refine lv_aload_n hx hb dX9_landsAs_68 rfl (lv_at hl 1 rfl) ?_
    refine lv_aload_n hx hb dX9_landsAs_69 rfl (lv_at hl 1 rfl) ?_
    refine lv_aload_n hx hb dX9_landsAs_70 rfl (lv_at hl 1 rfl) ?_
    refine r_get C h fk_X9_353 0 rfl rfl dX9_landsAs_71 ?_
    refine lv_iconst (v := (0 : Int32)) hx hb dX9_landsAs_74 rfl ?_
    replace hf := bd1_inv hf
    obtain ⟨r11, hc12, hf⟩ := hf
    refine r_ciV0 C h (c_X9_get hc12) mv_X9_79 rfl 0 rfl [0, 1] rfl rfl hl.1 rfl (Nat.le_of_ble_eq_true rfl) (rok (by omega)) dX9_landsAs_75 (fun H locs h => ?_)
    refine lv_iload_n hx hb dX9_landsAs_78 rfl (lv_at hl 3 rfl) ?_
    replace hf := bd4_inv hf
    obtain ⟨r13, y14, y15, g16, hc17, hf⟩ := hf
    refine r_ciV (ws' := [(h_this, ob 9 [.ref h_this_s, .ref h_this_kept, .ref h_this_laid, .int x_this_isKept, .ref h_this_pile, .ref h_this_tape, .int x_this_taped, .ref h_this_letters, .int x_this_at, .int x_this_begun, .int x_this_token, .int x_this_value, .int x_this_opened, .int x_this_steps, .ref h_this_code0, .ref h_this_read, .ref h_this_saved, .ref h_this_plan, .ref h_this_bestPlan, .int x_this_most, .int x_this_many, .int x_this_few, .int x_this_everHome, .ref h_this_offThen, .ref h_this_paidThen, .int x_this_firstFit, .ref h_this_rows, .int x_this_rowMany, .ref h_this_sorts, .ref h_this_sizes, .ref h_this_number, .ref h_this_holds, .ref h_this_heldOne, .ref h_this_trace, .int y14, .int x_this_own, .int y15]), (h_this_s, ia G 313 f_this_s), (h_this_trace, ia G 30 g16)]) C h (C_X9_soundsAs 4 hc17) mv_X9_359 rfl 0 rfl [0, 1, 2] rfl rfl rfl rfl rfl hl.1 rfl (Nat.le_of_ble_eq_true rfl) (rok (by omega)) dX9_landsAs_79 (fun H locs h => ?_)
    refine lv_iadd hx hb dX9_landsAs_82 ?_
    cases hf
    exact r_iret C h hr hlk rfl dX9_landsAs_83
  · replace hf := ifp c1 hf
    refine lv_aload_n hx hb dX9_landsAs_5 rfl (lv_at hl 0 rfl) ?_
    refine lv_bipush (v := (51 : Int32)) hx hb dX9_landsAs_6 rfl ?_
    replace hf := bd2_inv hf
    obtain ⟨y18, g19, hc20, hf⟩ := hf
    refine r_cvV (ws' := [(h_this, ob 9 [.ref h_this_s, .ref h_this_kept, .ref h_this_laid, .int x_this_isKept, .ref h_this_pile, .ref h_this_tape, .int x_this_taped, .ref h_this_letters, .int x_this_at, .int x_this_begun, .int x_this_token, .int x_this_value, .int x_this_opened, .int x_this_steps, .ref h_this_code0, .ref h_this_read, .ref h_this_saved, .ref h_this_plan, .ref h_this_bestPlan, .int x_this_most, .int x_this_many, .int x_this_few, .int x_this_everHome, .ref h_this_offThen, .ref h_this_paidThen, .int x_this_firstFit, .ref h_this_rows, .int x_this_rowMany, .ref h_this_sorts, .ref h_this_sizes, .ref h_this_number, .ref h_this_holds, .ref h_this_heldOne, .ref h_this_trace, .int y18, .int x_this_own, .int x_this_isParted]), (h_this_s, ia G 313 f_this_s), (h_this_trace, ia G 30 g19)]) C h (c_X9_starts hc20) mv_X9_347 rfl 0 rfl [0, 2] rfl rfl rfl rfl rfl hl.1 rfl (Nat.le_of_ble_eq_true rfl) (rok (by omega)) dX9_landsAs_8 (fun H locs h => ?_)
    refine lv_aload_n hx hb dX9_landsAs_11 rfl (lv_at hl 0 rfl) ?_
    refine lv_iconst (v := (2 : Int32)) hx hb dX9_landsAs_12 rfl ?_
    refine lv_iload_n hx hb dX9_landsAs_13 rfl (lv_at hl 2 rfl) ?_
    replace hf := bd4_inv hf
    obtain ⟨r21, y22, y23, g24, hc25, hf⟩ := hf
    refine r_ciV (ws' := [(h_this, ob 9 [.ref h_this_s, .ref h_this_kept, .ref h_this_laid, .int x_this_isKept, .ref h_this_pile, .ref h_this_tape, .int x_this_taped, .ref h_this_letters, .int x_this_at, .int x_this_begun, .int x_this_token, .int x_this_value, .int x_this_opened, .int x_this_steps, .ref h_this_code0, .ref h_this_read, .ref h_this_saved, .ref h_this_plan, .ref h_this_bestPlan, .int x_this_most, .int x_this_many, .int x_this_few, .int x_this_everHome, .ref h_this_offThen, .ref h_this_paidThen, .int x_this_firstFit, .ref h_this_rows, .int x_this_rowMany, .ref h_this_sorts, .ref h_this_sizes, .ref h_this_number, .ref h_this_holds, .ref h_this_heldOne, .ref h_this_trace, .int y22, .int x_this_own, .int y23]), (h_this_s, ia G 313 f_this_s), (h_this_trace, ia G 30 g24)]) C h (hself hc25) mv_X9_366 rfl 0 rfl [0, 1, 2] rfl rfl rfl rfl rfl hl.1 rfl (Nat.le_of_ble_eq_true rfl) (rok (by omega)) dX9_landsAs_14 (fun H locs h => ?_)
    refine lv_istore_n (lv' := [(3, .int r21), (0, .ref h_this), (1, .int p0), (2, .int p1)]) hx hb dX9_landsAs_17 rfl hl (by decide) rfl (fun ls hl => ?_)
    refine lv_aload_n hx hb dX9_landsAs_18 rfl (lv_at hl 1 rfl) ?_
    refine r_get C h fk_X9_362 0 rfl rfl dX9_landsAs_19 ?_
    refine lv_if_eq (tgt := 29) hx hb dX9_landsAs_22 rfl (fun c26 => ?_) (fun c26 => ?_)
    · replace hf := ifp c26 hf
      refine lv_iload_n hx hb dX9_landsAs_29 rfl (lv_at hl 0 rfl) ?_
      refine lv_aload_n hx hb dX9_landsAs_30 rfl (lv_at hl 1 rfl) ?_
      refine lv_iconst (v := (3 : Int32)) hx hb dX9_landsAs_31 rfl ?_
      refine lv_aload_n hx hb dX9_landsAs_32 rfl (lv_at hl 1 rfl) ?_
      refine lv_aload_n hx hb dX9_landsAs_33 rfl (lv_at hl 1 rfl) ?_
      refine r_get C h fk_X9_353 0 rfl rfl dX9_landsAs_34 ?_
      refine lv_iconst (v := (3 : Int32)) hx hb dX9_landsAs_37 rfl ?_
      replace hf := bd1_inv hf
      obtain ⟨r27, hc28, hf⟩ := hf
      refine r_ciV0 C h (c_X9_get hc28) mv_X9_79 rfl 0 rfl [0, 1] rfl rfl hl.1 rfl (Nat.le_of_ble_eq_true rfl) (rok (by omega)) dX9_landsAs_38 (fun H locs h => ?_)
      replace hf := bd3_inv hf
      obtain ⟨r29, y30, g31, hc32, hf⟩ := hf
      refine r_ciV (ws' := [(h_this, ob 9 [.ref h_this_s, .ref h_this_kept, .ref h_this_laid, .int x_this_isKept, .ref h_this_pile, .ref h_this_tape, .int x_this_taped, .ref h_this_letters, .int x_this_at, .int x_this_begun, .int x_this_token, .int x_this_value, .int x_this_opened, .int x_this_steps, .ref h_this_code0, .ref h_this_read, .ref h_this_saved, .ref h_this_plan, .ref h_this_bestPlan, .int x_this_most, .int x_this_many, .int x_this_few, .int x_this_everHome, .ref h_this_offThen, .ref h_this_paidThen, .int x_this_firstFit, .ref h_this_rows, .int x_this_rowMany, .ref h_this_sorts, .ref h_this_sizes, .ref h_this_number, .ref h_this_holds, .ref h_this_heldOne, .ref h_this_trace, .int y30, .int x_this_own, .int y23]), (h_this_s, ia G 313 f_this_s), (h_this_trace, ia G 30 g31)]) C h (C_X9_tacksAs 4 hc32) mv_X9_356 rfl 0 rfl [0, 1, 2] rfl rfl rfl rfl rfl hl.1 rfl (Nat.le_of_ble_eq_true rfl) (rok (by omega)) dX9_landsAs_41 (fun H locs h => ?_)
      refine lv_isub hx hb dX9_landsAs_44 ?_
      cases hf
      exact r_iret C h hr hlk rfl dX9_landsAs_45
    · replace hf := ifn c26 hf
      refine lv_iconst (v := (0 : Int32)) hx hb dX9_landsAs_25 rfl ?_
      refine lv_goto (tgt := 45) hx hb dX9_landsAs_26 rfl ?_
      cases hf
      exact r_iret C h hr hlk rfl dX9_landsAs_45
def F_X9_landsAs : Nat → Int32 → Int32 → Int32 → Int32 → Int32 → (Nat → Int32) → (Nat → Int32) → Option (Int32 × Int32 × Int32 × (Nat → Int32))
  | 0, _, _, _, _, _, _, _ => none
  | d + 1, p0, p1, x_this_traced, x_this_own, x_this_isParted, f_this_s, f_this_trace => f_X9_landsAs (F_X9_landsAs d) p0 p1 x_this_traced x_this_own x_this_isParted f_this_s f_this_trace
theorem C_X9_landsAs {l : Launch} {G : Gt} (d : Nat) : ∀ {h_this h_this_s h_this_kept h_this_laid h_this_pile h_this_tape h_this_letters h_this_code0 h_this_read h_this_saved h_this_plan h_this_bestPlan h_this_offThen h_this_paidThen h_this_rows h_this_sorts h_this_sizes h_this_number h_this_holds h_this_heldOne h_this_trace : Nat} {p0 : Int32} {p1 : Int32} {x_this_isKept : Int32} {x_this_taped : Int32} {x_this_at : Int32} {x_this_begun : Int32} {x_this_token : Int32} {x_this_value : Int32} {x_this_opened : Int32} {x_this_steps : Int32} {x_this_most : Int32} {x_this_many : Int32} {x_this_few : Int32} {x_this_everHome : Int32} {x_this_firstFit : Int32} {x_this_rowMany : Int32} {x_this_traced : Int32} {x_this_own : Int32} {x_this_isParted : Int32} {f_this_s : Nat → Int32} {f_this_trace : Nat → Int32} {r : Int32} {m_this_traced : Int32} {m_this_isParted : Int32} {m_this_trace : Nat → Int32} , F_X9_landsAs d p0 p1 x_this_traced x_this_own x_this_isParted f_this_s f_this_trace = some (r, m_this_traced, m_this_isParted, m_this_trace) → mFi l G yX9_landsAs cX9_landsAs 4 .int (d * 21) [.ref h_this, .int p0, .int p1] [(h_this, ob 9 [.ref h_this_s, .ref h_this_kept, .ref h_this_laid, .int x_this_isKept, .ref h_this_pile, .ref h_this_tape, .int x_this_taped, .ref h_this_letters, .int x_this_at, .int x_this_begun, .int x_this_token, .int x_this_value, .int x_this_opened, .int x_this_steps, .ref h_this_code0, .ref h_this_read, .ref h_this_saved, .ref h_this_plan, .ref h_this_bestPlan, .int x_this_most, .int x_this_many, .int x_this_few, .int x_this_everHome, .ref h_this_offThen, .ref h_this_paidThen, .int x_this_firstFit, .ref h_this_rows, .int x_this_rowMany, .ref h_this_sorts, .ref h_this_sizes, .ref h_this_number, .ref h_this_holds, .ref h_this_heldOne, .ref h_this_trace, .int x_this_traced, .int x_this_own, .int x_this_isParted]), (h_this_s, ia G 313 f_this_s), (h_this_trace, ia G 30 f_this_trace)] r [(h_this, ob 9 [.ref h_this_s, .ref h_this_kept, .ref h_this_laid, .int x_this_isKept, .ref h_this_pile, .ref h_this_tape, .int x_this_taped, .ref h_this_letters, .int x_this_at, .int x_this_begun, .int x_this_token, .int x_this_value, .int x_this_opened, .int x_this_steps, .ref h_this_code0, .ref h_this_read, .ref h_this_saved, .ref h_this_plan, .ref h_this_bestPlan, .int x_this_most, .int x_this_many, .int x_this_few, .int x_this_everHome, .ref h_this_offThen, .ref h_this_paidThen, .int x_this_firstFit, .ref h_this_rows, .int x_this_rowMany, .ref h_this_sorts, .ref h_this_sizes, .ref h_this_number, .ref h_this_holds, .ref h_this_heldOne, .ref h_this_trace, .int m_this_traced, .int x_this_own, .int m_this_isParted]), (h_this_s, ia G 313 f_this_s), (h_this_trace, ia G 30 m_this_trace)] := by
  induction d with
  | zero =>
    intros
    rename_i hf
    replace hf : (none : Option _) = some _ := hf
    cases hf
  | succ d ih =>
    intros
    rename_i hf
    rw [Nat.succ_mul]
    exact c_X9_landsAs (self := F_X9_landsAs d) ih hf
def f_X9_act_b108 (s0 : Int32) (y_this_traced : Int32) (y_this_own : Int32) (y_this_isParted : Int32) (g_this_trace : Nat → Int32) : Option (Int32 × Int32 × Int32 × Int32 × (Nat → Int32)) := (if y_this_isParted = 0 then some (s0, y_this_traced, y_this_own, y_this_isParted, g_this_trace) else some ((-15 : Int32), y_this_traced, y_this_own, y_this_isParted, g_this_trace))
def f_X9_act (p0 : Int32) (p1 : Int32) (p2 : Int32) (x_this_own : Int32) (x_this_isParted : Int32) (f_this_heldOne : Nat → Int32) (f_this_holds : Nat → Int32) (f_this_s : Nat → Int32) (f_this_trace : Nat → Int32) : Option (Int32 × Int32 × Int32 × Int32 × (Nat → Int32)) := bd1 (f_X9_isSheet p0) (fun r1 => (if r1 = 0 then some ((0 : Int32), (0 : Int32), x_this_own, x_this_isParted, f_this_trace) else bd1 (f_X9_in1 p1 (0 : Int32) (3 : Int32)) (fun r4 => (if r4 = 0 then some ((0 : Int32), (0 : Int32), x_this_own, x_this_isParted, f_this_trace) else bd1 (f_X9_heldOn p0 f_this_heldOne f_this_holds f_this_s) (fun r7 => (if r7 = 0 then chkI p0 4 (lt1 (f_this_heldOne p0.toNatClampNeg) (fun (t11 : Int32) => bd1 (f_X9_get t11 (0 : Int32) f_this_s) (fun r12 => (if p1 = 0 then bd3 (F_X9_sightsAs 4 r12 p2 (0 : Int32) t11 f_this_trace) (fun r32 y33 g34 => f_X9_act_b108 r32 y33 t11 (0 : Int32) g34) else (if p1 = (1 : Int32) then bd3 (F_X9_tacksAs 4 r12 p2 (0 : Int32) t11 f_this_s f_this_trace) (fun r28 y29 g30 => f_X9_act_b108 r28 y29 t11 (0 : Int32) g30) else (if p1 = (2 : Int32) then bd4 (F_X9_soundsAs 4 r12 p2 (0 : Int32) t11 (0 : Int32) f_this_s f_this_trace) (fun r23 y24 y25 g26 => f_X9_act_b108 r23 y24 t11 y25 g26) else bd4 (F_X9_landsAs 4 r12 p2 (0 : Int32) t11 (0 : Int32) f_this_s f_this_trace) (fun r17 y18 y19 g20 => f_X9_act_b108 r17 y18 t11 y19 g20))))))) else some ((0 : Int32), (0 : Int32), x_this_own, x_this_isParted, f_this_trace)))))))
set_option maxRecDepth 100000 in
set_option maxHeartbeats 4000000 in
theorem c_X9_act {l : Launch} {G : Gt} {h_this h_this_s h_this_kept h_this_laid h_this_pile h_this_tape h_this_letters h_this_code0 h_this_read h_this_saved h_this_plan h_this_bestPlan h_this_offThen h_this_paidThen h_this_rows h_this_sorts h_this_sizes h_this_number h_this_holds h_this_heldOne h_this_trace : Nat} {p0 : Int32} {p1 : Int32} {p2 : Int32} {x_this_isKept : Int32} {x_this_taped : Int32} {x_this_at : Int32} {x_this_begun : Int32} {x_this_token : Int32} {x_this_value : Int32} {x_this_opened : Int32} {x_this_steps : Int32} {x_this_most : Int32} {x_this_many : Int32} {x_this_few : Int32} {x_this_everHome : Int32} {x_this_firstFit : Int32} {x_this_rowMany : Int32} {x_this_traced : Int32} {x_this_own : Int32} {x_this_isParted : Int32} {f_this_heldOne : Nat → Int32} {f_this_holds : Nat → Int32} {f_this_s : Nat → Int32} {f_this_trace : Nat → Int32} {r : Int32} {m_this_traced : Int32} {m_this_own : Int32} {m_this_isParted : Int32} {m_this_trace : Nat → Int32} (hf : f_X9_act p0 p1 p2 x_this_own x_this_isParted f_this_heldOne f_this_holds f_this_s f_this_trace = some (r, m_this_traced, m_this_own, m_this_isParted, m_this_trace)) : mFi l G yX9_act cX9_act 6 .int 85 [.ref h_this, .int p0, .int p1, .int p2] [(h_this, ob 9 [.ref h_this_s, .ref h_this_kept, .ref h_this_laid, .int x_this_isKept, .ref h_this_pile, .ref h_this_tape, .int x_this_taped, .ref h_this_letters, .int x_this_at, .int x_this_begun, .int x_this_token, .int x_this_value, .int x_this_opened, .int x_this_steps, .ref h_this_code0, .ref h_this_read, .ref h_this_saved, .ref h_this_plan, .ref h_this_bestPlan, .int x_this_most, .int x_this_many, .int x_this_few, .int x_this_everHome, .ref h_this_offThen, .ref h_this_paidThen, .int x_this_firstFit, .ref h_this_rows, .int x_this_rowMany, .ref h_this_sorts, .ref h_this_sizes, .ref h_this_number, .ref h_this_holds, .ref h_this_heldOne, .ref h_this_trace, .int x_this_traced, .int x_this_own, .int x_this_isParted]), (h_this_heldOne, ia G 4 f_this_heldOne), (h_this_holds, ia G 4 f_this_holds), (h_this_s, ia G 313 f_this_s), (h_this_trace, ia G 30 f_this_trace)] r [(h_this, ob 9 [.ref h_this_s, .ref h_this_kept, .ref h_this_laid, .int x_this_isKept, .ref h_this_pile, .ref h_this_tape, .int x_this_taped, .ref h_this_letters, .int x_this_at, .int x_this_begun, .int x_this_token, .int x_this_value, .int x_this_opened, .int x_this_steps, .ref h_this_code0, .ref h_this_read, .ref h_this_saved, .ref h_this_plan, .ref h_this_bestPlan, .int x_this_most, .int x_this_many, .int x_this_few, .int x_this_everHome, .ref h_this_offThen, .ref h_this_paidThen, .int x_this_firstFit, .ref h_this_rows, .int x_this_rowMany, .ref h_this_sorts, .ref h_this_sizes, .ref h_this_number, .ref h_this_holds, .ref h_this_heldOne, .ref h_this_trace, .int m_this_traced, .int m_this_own, .int m_this_isParted]), (h_this_heldOne, ia G 4 f_this_heldOne), (h_this_holds, ia G 4 f_this_holds), (h_this_s, ia G 313 f_this_s), (h_this_trace, ia G 30 m_this_trace)] := by
  refine mFi.of (by decide +kernel) (Nat.le_of_ble_eq_true rfl) ?_
  intro p e s m below meth c A C hr hlk h ls hl
  obtain ⟨hx, hb, hml, hown, hts⟩ := id C
  replace hl : lv_has ls 6 [(0, .ref h_this), (1, .int p0), (2, .int p1), (3, .int p2)] := hl
  unfold f_X9_act at hf
  refine with_K G A 6 (fun K hK1 hK2 => ?_)
  have B108 : ∀ (s0 : Int32) (y_this_traced : Int32) (y_this_own : Int32) (y_this_isParted : Int32) (g_this_trace : Nat → Int32), f_X9_act_b108 s0 y_this_traced y_this_own y_this_isParted g_this_trace = some (r, m_this_traced, m_this_own, m_this_isParted, m_this_trace) → K 108 [.int s0] [(h_this, ob 9 [.ref h_this_s, .ref h_this_kept, .ref h_this_laid, .int x_this_isKept, .ref h_this_pile, .ref h_this_tape, .int x_this_taped, .ref h_this_letters, .int x_this_at, .int x_this_begun, .int x_this_token, .int x_this_value, .int x_this_opened, .int x_this_steps, .ref h_this_code0, .ref h_this_read, .ref h_this_saved, .ref h_this_plan, .ref h_this_bestPlan, .int x_this_most, .int x_this_many, .int x_this_few, .int x_this_everHome, .ref h_this_offThen, .ref h_this_paidThen, .int x_this_firstFit, .ref h_this_rows, .int x_this_rowMany, .ref h_this_sorts, .ref h_this_sizes, .ref h_this_number, .ref h_this_holds, .ref h_this_heldOne, .ref h_this_trace, .int y_this_traced, .int y_this_own, .int y_this_isParted]), (h_this_heldOne, ia G 4 f_this_heldOne), (h_this_holds, ia G 4 f_this_holds), (h_this_s, ia G 313 f_this_s), (h_this_trace, ia G 30 g_this_trace)] [(0, .ref h_this)] := by
    intro s0 y_this_traced y_this_own y_this_isParted g_this_trace hf
    unfold f_X9_act_b108 at hf
    refine hK1 _ _ _ _ (fun H locs ls h hl => ?_)
    refine lv_istore (lv' := [(5, .int s0), (0, .ref h_this)]) hx hb dX9_act_108 hl (by decide) rfl (fun ls hl => ?_)
    refine lv_aload_n hx hb dX9_act_110 rfl (lv_at hl 1 rfl) ?_
    refine r_get C h fk_X9_362 0 rfl rfl dX9_act_111 ?_
    refine lv_if_eq (tgt := 122) hx hb dX9_act_114 rfl (fun c22 => ?_) (fun c22 => ?_)
    · replace hf := ifp c22 hf
      refine lv_iload hx hb dX9_act_122 (lv_at hl 0 rfl) ?_
      cases hf
      exact r_iret C h hr hlk rfl dX9_act_124
    · replace hf := ifn c22 hf
      refine lv_bipush (v := (-15 : Int32)) hx hb dX9_act_117 rfl ?_
      refine lv_goto (tgt := 124) hx hb dX9_act_119 rfl ?_
      cases hf
      exact r_iret C h hr hlk rfl dX9_act_124
  refine lv_aload_n hx hb dX9_act_0 rfl (lv_at hl 0 rfl) ?_
  refine lv_iconst (v := (0 : Int32)) hx hb dX9_act_1 rfl ?_
  refine r_put (ws' := [(h_this, ob 9 [.ref h_this_s, .ref h_this_kept, .ref h_this_laid, .int x_this_isKept, .ref h_this_pile, .ref h_this_tape, .int x_this_taped, .ref h_this_letters, .int x_this_at, .int x_this_begun, .int x_this_token, .int x_this_value, .int x_this_opened, .int x_this_steps, .ref h_this_code0, .ref h_this_read, .ref h_this_saved, .ref h_this_plan, .ref h_this_bestPlan, .int x_this_most, .int x_this_many, .int x_this_few, .int x_this_everHome, .ref h_this_offThen, .ref h_this_paidThen, .int x_this_firstFit, .ref h_this_rows, .int x_this_rowMany, .ref h_this_sorts, .ref h_this_sizes, .ref h_this_number, .ref h_this_holds, .ref h_this_heldOne, .ref h_this_trace, .int (0 : Int32), .int x_this_own, .int x_this_isParted]), (h_this_heldOne, ia G 4 f_this_heldOne), (h_this_holds, ia G 4 f_this_holds), (h_this_s, ia G 313 f_this_s), (h_this_trace, ia G 30 f_this_trace)]) C h fw_X9_344 0 rfl rfl rfl (Nat.le_of_ble_eq_true rfl) dX9_act_2 rfl (fun H locs h => ?_)
  refine lv_iload_n hx hb dX9_act_5 rfl (lv_at hl 1 rfl) ?_
  replace hf := bd1_inv hf
  obtain ⟨r1, hc2, hf⟩ := hf
  refine r_ciS0 C h (c_X9_isSheet hc2) ms_X9_329 rfl [] rfl rfl hl.1 rfl (Nat.le_of_ble_eq_true rfl) (rok (by decide)) dX9_act_6 (fun H locs h => ?_)
  refine lv_if_eq (tgt := 29) hx hb dX9_act_9 rfl (fun c3 => ?_) (fun c3 => ?_)
  · replace hf := ifp c3 hf
    refine lv_iconst (v := (0 : Int32)) hx hb dX9_act_29 rfl ?_
    cases hf
    exact r_iret C h hr hlk rfl dX9_act_30
  · replace hf := ifn c3 hf
    refine lv_iload_n hx hb dX9_act_12 rfl (lv_at hl 2 rfl) ?_
    refine lv_iconst (v := (0 : Int32)) hx hb dX9_act_13 rfl ?_
    refine lv_iconst (v := (3 : Int32)) hx hb dX9_act_14 rfl ?_
    replace hf := bd1_inv hf
    obtain ⟨r4, hc5, hf⟩ := hf
    refine r_ciS0 C h (c_X9_in1 hc5) ms_X9_71 rfl [] rfl rfl hl.1 rfl (Nat.le_of_ble_eq_true rfl) (rok (by decide)) dX9_act_15 (fun H locs h => ?_)
    refine lv_if_eq (tgt := 29) hx hb dX9_act_18 rfl (fun c6 => ?_) (fun c6 => ?_)
    · replace hf := ifp c6 hf
      refine lv_iconst (v := (0 : Int32)) hx hb dX9_act_29 rfl ?_
      cases hf
      exact r_iret C h hr hlk rfl dX9_act_30
    · replace hf := ifn c6 hf
      refine lv_aload_n hx hb dX9_act_21 rfl (lv_at hl 0 rfl) ?_
      refine lv_iload_n hx hb dX9_act_22 rfl (lv_at hl 1 rfl) ?_
      replace hf := bd1_inv hf
      obtain ⟨r7, hc8, hf⟩ := hf
      refine r_ciV0 C h (c_X9_heldOn hc8) mv_X9_341 rfl 0 rfl [0, 1, 2, 3] rfl rfl hl.1 rfl (Nat.le_of_ble_eq_true rfl) (rok (by decide)) dX9_act_23 (fun H locs h => ?_)
      refine lv_if_eq (tgt := 31) hx hb dX9_act_26 rfl (fun c9 => ?_) (fun c9 => ?_)
      · replace hf := ifp c9 hf
        refine lv_aload_n hx hb dX9_act_31 rfl (lv_at hl 0 rfl) ?_
        refine lv_aload_n hx hb dX9_act_32 rfl (lv_at hl 0 rfl) ?_
        refine r_get C h fk_X9_65 0 rfl rfl dX9_act_33 ?_
        refine lv_iload_n hx hb dX9_act_36 rfl (lv_at hl 1 rfl) ?_
        replace hf := chkI_inv hf
        obtain ⟨hi10, hf⟩ := hf
        refine r_iald C h 1 rfl hi10 dX9_act_37 ?_
        refine lv_topi (fun t11 et11 => ?_)
        replace hf := lt1_inv et11 hf
        refine r_put (ws' := [(h_this, ob 9 [.ref h_this_s, .ref h_this_kept, .ref h_this_laid, .int x_this_isKept, .ref h_this_pile, .ref h_this_tape, .int x_this_taped, .ref h_this_letters, .int x_this_at, .int x_this_begun, .int x_this_token, .int x_this_value, .int x_this_opened, .int x_this_steps, .ref h_this_code0, .ref h_this_read, .ref h_this_saved, .ref h_this_plan, .ref h_this_bestPlan, .int x_this_most, .int x_this_many, .int x_this_few, .int x_this_everHome, .ref h_this_offThen, .ref h_this_paidThen, .int x_this_firstFit, .ref h_this_rows, .int x_this_rowMany, .ref h_this_sorts, .ref h_this_sizes, .ref h_this_number, .ref h_this_holds, .ref h_this_heldOne, .ref h_this_trace, .int (0 : Int32), .int t11, .int x_this_isParted]), (h_this_heldOne, ia G 4 f_this_heldOne), (h_this_holds, ia G 4 f_this_holds), (h_this_s, ia G 313 f_this_s), (h_this_trace, ia G 30 f_this_trace)]) C h fw_X9_353 0 rfl rfl rfl (Nat.le_of_ble_eq_true rfl) dX9_act_38 rfl (fun H locs h => ?_)
        refine lv_aload_n hx hb dX9_act_41 rfl (lv_at hl 0 rfl) ?_
        refine lv_iconst (v := (0 : Int32)) hx hb dX9_act_42 rfl ?_
        refine r_put (ws' := [(h_this, ob 9 [.ref h_this_s, .ref h_this_kept, .ref h_this_laid, .int x_this_isKept, .ref h_this_pile, .ref h_this_tape, .int x_this_taped, .ref h_this_letters, .int x_this_at, .int x_this_begun, .int x_this_token, .int x_this_value, .int x_this_opened, .int x_this_steps, .ref h_this_code0, .ref h_this_read, .ref h_this_saved, .ref h_this_plan, .ref h_this_bestPlan, .int x_this_most, .int x_this_many, .int x_this_few, .int x_this_everHome, .ref h_this_offThen, .ref h_this_paidThen, .int x_this_firstFit, .ref h_this_rows, .int x_this_rowMany, .ref h_this_sorts, .ref h_this_sizes, .ref h_this_number, .ref h_this_holds, .ref h_this_heldOne, .ref h_this_trace, .int (0 : Int32), .int t11, .int (0 : Int32)]), (h_this_heldOne, ia G 4 f_this_heldOne), (h_this_holds, ia G 4 f_this_holds), (h_this_s, ia G 313 f_this_s), (h_this_trace, ia G 30 f_this_trace)]) C h fw_X9_362 0 rfl rfl rfl (Nat.le_of_ble_eq_true rfl) dX9_act_43 rfl (fun H locs h => ?_)
        refine lv_aload_n hx hb dX9_act_46 rfl (lv_at hl 0 rfl) ?_
        refine lv_aload_n hx hb dX9_act_47 rfl (lv_at hl 0 rfl) ?_
        refine r_get C h fk_X9_353 0 rfl rfl dX9_act_48 ?_
        refine lv_iconst (v := (0 : Int32)) hx hb dX9_act_51 rfl ?_
        replace hf := bd1_inv hf
        obtain ⟨r12, hc13, hf⟩ := hf
        refine r_ciV0 C h (c_X9_get hc13) mv_X9_79 rfl 0 rfl [0, 3] rfl rfl hl.1 rfl (Nat.le_of_ble_eq_true rfl) (rok (by decide)) dX9_act_52 (fun H locs h => ?_)
        refine lv_istore (lv' := [(4, .int r12), (0, .ref h_this), (1, .int p0), (2, .int p1), (3, .int p2)]) hx hb dX9_act_55 hl (by decide) rfl (fun ls hl => ?_)
        refine lv_iload_n hx hb dX9_act_57 rfl (lv_at hl 3 rfl) ?_
        refine lv_if_ne (tgt := 71) hx hb dX9_act_58 rfl (fun c14 => ?_) (fun c14 => ?_)
        · replace hf := ifn c14 hf
          refine lv_iload_n hx hb dX9_act_71 rfl (lv_at hl 3 rfl) ?_
          refine lv_iconst (v := (1 : Int32)) hx hb dX9_act_72 rfl ?_
          refine lv_icmp_ne (tgt := 86) hx hb dX9_act_73 rfl (fun c15 => ?_) (fun c15 => ?_)
          · replace hf := ifn c15 hf
            refine lv_iload_n hx hb dX9_act_86 rfl (lv_at hl 3 rfl) ?_
            refine lv_iconst (v := (2 : Int32)) hx hb dX9_act_87 rfl ?_
            refine lv_icmp_ne (tgt := 101) hx hb dX9_act_88 rfl (fun c16 => ?_) (fun c16 => ?_)
            · replace hf := ifn c16 hf
              refine lv_aload_n hx hb dX9_act_101 rfl (lv_at hl 1 rfl) ?_
              refine lv_iload hx hb dX9_act_102 (lv_at hl 0 rfl) ?_
              refine lv_iload_n hx hb dX9_act_104 rfl (lv_at hl 4 rfl) ?_
              replace hf := bd4_inv hf
              obtain ⟨r17, y18, y19, g20, hc21, hf⟩ := hf
              refine r_ciV (ws' := [(h_this, ob 9 [.ref h_this_s, .ref h_this_kept, .ref h_this_laid, .int x_this_isKept, .ref h_this_pile, .ref h_this_tape, .int x_this_taped, .ref h_this_letters, .int x_this_at, .int x_this_begun, .int x_this_token, .int x_this_value, .int x_this_opened, .int x_this_steps, .ref h_this_code0, .ref h_this_read, .ref h_this_saved, .ref h_this_plan, .ref h_this_bestPlan, .int x_this_most, .int x_this_many, .int x_this_few, .int x_this_everHome, .ref h_this_offThen, .ref h_this_paidThen, .int x_this_firstFit, .ref h_this_rows, .int x_this_rowMany, .ref h_this_sorts, .ref h_this_sizes, .ref h_this_number, .ref h_this_holds, .ref h_this_heldOne, .ref h_this_trace, .int y18, .int t11, .int y19]), (h_this_heldOne, ia G 4 f_this_heldOne), (h_this_holds, ia G 4 f_this_holds), (h_this_s, ia G 313 f_this_s), (h_this_trace, ia G 30 g20)]) C h (C_X9_landsAs 4 hc21) mv_X9_366 rfl 0 rfl [0, 3, 4] rfl rfl rfl rfl rfl hl.1 rfl (Nat.le_of_ble_eq_true rfl) (rok (by decide)) dX9_act_105 (fun H locs h => ?_)
              exact hK2 _ _ _ _ (B108 r17 y18 t11 y19 g20 hf) _ _ _ h (lv_sub hl [1] rfl)
            · replace hf := ifp c16 hf
              refine lv_aload_n hx hb dX9_act_91 rfl (lv_at hl 1 rfl) ?_
              refine lv_iload hx hb dX9_act_92 (lv_at hl 0 rfl) ?_
              refine lv_iload_n hx hb dX9_act_94 rfl (lv_at hl 4 rfl) ?_
              replace hf := bd4_inv hf
              obtain ⟨r23, y24, y25, g26, hc27, hf⟩ := hf
              refine r_ciV (ws' := [(h_this, ob 9 [.ref h_this_s, .ref h_this_kept, .ref h_this_laid, .int x_this_isKept, .ref h_this_pile, .ref h_this_tape, .int x_this_taped, .ref h_this_letters, .int x_this_at, .int x_this_begun, .int x_this_token, .int x_this_value, .int x_this_opened, .int x_this_steps, .ref h_this_code0, .ref h_this_read, .ref h_this_saved, .ref h_this_plan, .ref h_this_bestPlan, .int x_this_most, .int x_this_many, .int x_this_few, .int x_this_everHome, .ref h_this_offThen, .ref h_this_paidThen, .int x_this_firstFit, .ref h_this_rows, .int x_this_rowMany, .ref h_this_sorts, .ref h_this_sizes, .ref h_this_number, .ref h_this_holds, .ref h_this_heldOne, .ref h_this_trace, .int y24, .int t11, .int y25]), (h_this_heldOne, ia G 4 f_this_heldOne), (h_this_holds, ia G 4 f_this_holds), (h_this_s, ia G 313 f_this_s), (h_this_trace, ia G 30 g26)]) C h (C_X9_soundsAs 4 hc27) mv_X9_359 rfl 0 rfl [0, 3, 4] rfl rfl rfl rfl rfl hl.1 rfl (Nat.le_of_ble_eq_true rfl) (rok (by decide)) dX9_act_95 (fun H locs h => ?_)
              refine lv_goto (tgt := 108) hx hb dX9_act_98 rfl ?_
              exact hK2 _ _ _ _ (B108 r23 y24 t11 y25 g26 hf) _ _ _ h (lv_sub hl [1] rfl)
          · replace hf := ifp c15 hf
            refine lv_aload_n hx hb dX9_act_76 rfl (lv_at hl 1 rfl) ?_
            refine lv_iload hx hb dX9_act_77 (lv_at hl 0 rfl) ?_
            refine lv_iload_n hx hb dX9_act_79 rfl (lv_at hl 4 rfl) ?_
            replace hf := bd3_inv hf
            obtain ⟨r28, y29, g30, hc31, hf⟩ := hf
            refine r_ciV (ws' := [(h_this, ob 9 [.ref h_this_s, .ref h_this_kept, .ref h_this_laid, .int x_this_isKept, .ref h_this_pile, .ref h_this_tape, .int x_this_taped, .ref h_this_letters, .int x_this_at, .int x_this_begun, .int x_this_token, .int x_this_value, .int x_this_opened, .int x_this_steps, .ref h_this_code0, .ref h_this_read, .ref h_this_saved, .ref h_this_plan, .ref h_this_bestPlan, .int x_this_most, .int x_this_many, .int x_this_few, .int x_this_everHome, .ref h_this_offThen, .ref h_this_paidThen, .int x_this_firstFit, .ref h_this_rows, .int x_this_rowMany, .ref h_this_sorts, .ref h_this_sizes, .ref h_this_number, .ref h_this_holds, .ref h_this_heldOne, .ref h_this_trace, .int y29, .int t11, .int (0 : Int32)]), (h_this_heldOne, ia G 4 f_this_heldOne), (h_this_holds, ia G 4 f_this_holds), (h_this_s, ia G 313 f_this_s), (h_this_trace, ia G 30 g30)]) C h (C_X9_tacksAs 4 hc31) mv_X9_356 rfl 0 rfl [0, 3, 4] rfl rfl rfl rfl rfl hl.1 rfl (Nat.le_of_ble_eq_true rfl) (rok (by decide)) dX9_act_80 (fun H locs h => ?_)
            refine lv_goto (tgt := 108) hx hb dX9_act_83 rfl ?_
            exact hK2 _ _ _ _ (B108 r28 y29 t11 (0 : Int32) g30 hf) _ _ _ h (lv_sub hl [1] rfl)
        · replace hf := ifp c14 hf
          refine lv_aload_n hx hb dX9_act_61 rfl (lv_at hl 1 rfl) ?_
          refine lv_iload hx hb dX9_act_62 (lv_at hl 0 rfl) ?_
          refine lv_iload_n hx hb dX9_act_64 rfl (lv_at hl 4 rfl) ?_
          replace hf := bd3_inv hf
          obtain ⟨r32, y33, g34, hc35, hf⟩ := hf
          refine r_ciV (ws' := [(h_this, ob 9 [.ref h_this_s, .ref h_this_kept, .ref h_this_laid, .int x_this_isKept, .ref h_this_pile, .ref h_this_tape, .int x_this_taped, .ref h_this_letters, .int x_this_at, .int x_this_begun, .int x_this_token, .int x_this_value, .int x_this_opened, .int x_this_steps, .ref h_this_code0, .ref h_this_read, .ref h_this_saved, .ref h_this_plan, .ref h_this_bestPlan, .int x_this_most, .int x_this_many, .int x_this_few, .int x_this_everHome, .ref h_this_offThen, .ref h_this_paidThen, .int x_this_firstFit, .ref h_this_rows, .int x_this_rowMany, .ref h_this_sorts, .ref h_this_sizes, .ref h_this_number, .ref h_this_holds, .ref h_this_heldOne, .ref h_this_trace, .int y33, .int t11, .int (0 : Int32)]), (h_this_heldOne, ia G 4 f_this_heldOne), (h_this_holds, ia G 4 f_this_holds), (h_this_s, ia G 313 f_this_s), (h_this_trace, ia G 30 g34)]) C h (C_X9_sightsAs 4 hc35) mv_X9_350 rfl 0 rfl [0, 4] rfl rfl rfl rfl rfl hl.1 rfl (Nat.le_of_ble_eq_true rfl) (rok (by decide)) dX9_act_65 (fun H locs h => ?_)
          refine lv_goto (tgt := 108) hx hb dX9_act_68 rfl ?_
          exact hK2 _ _ _ _ (B108 r32 y33 t11 (0 : Int32) g34 hf) _ _ _ h (lv_sub hl [1] rfl)
      · replace hf := ifn c9 hf
        refine lv_iconst (v := (0 : Int32)) hx hb dX9_act_29 rfl ?_
        cases hf
        exact r_iret C h hr hlk rfl dX9_act_30
def f_X9_trace (p0 : Int32) (x_this_traced : Int32) (f_this_trace : Nat → Int32) : Option (Int32) := bd1 (f_X9_in1 p0 (0 : Int32) (x_this_traced - (1 : Int32))) (fun r1 => (if r1 = 0 then some (-3 : Int32) else chkI p0 30 (some (f_this_trace p0.toNatClampNeg))))
set_option maxRecDepth 100000 in
set_option maxHeartbeats 4000000 in
theorem c_X9_trace {l : Launch} {G : Gt} {h_this h_this_s h_this_kept h_this_laid h_this_pile h_this_tape h_this_letters h_this_code0 h_this_read h_this_saved h_this_plan h_this_bestPlan h_this_offThen h_this_paidThen h_this_rows h_this_sorts h_this_sizes h_this_number h_this_holds h_this_heldOne h_this_trace : Nat} {p0 : Int32} {x_this_isKept : Int32} {x_this_taped : Int32} {x_this_at : Int32} {x_this_begun : Int32} {x_this_token : Int32} {x_this_value : Int32} {x_this_opened : Int32} {x_this_steps : Int32} {x_this_most : Int32} {x_this_many : Int32} {x_this_few : Int32} {x_this_everHome : Int32} {x_this_firstFit : Int32} {x_this_rowMany : Int32} {x_this_traced : Int32} {x_this_own : Int32} {x_this_isParted : Int32} {f_this_trace : Nat → Int32} {r : Int32} (hf : f_X9_trace p0 x_this_traced f_this_trace = some r) : mFi l G yX9_trace cX9_trace 2 .int 1 [.ref h_this, .int p0] [(h_this, ob 9 [.ref h_this_s, .ref h_this_kept, .ref h_this_laid, .int x_this_isKept, .ref h_this_pile, .ref h_this_tape, .int x_this_taped, .ref h_this_letters, .int x_this_at, .int x_this_begun, .int x_this_token, .int x_this_value, .int x_this_opened, .int x_this_steps, .ref h_this_code0, .ref h_this_read, .ref h_this_saved, .ref h_this_plan, .ref h_this_bestPlan, .int x_this_most, .int x_this_many, .int x_this_few, .int x_this_everHome, .ref h_this_offThen, .ref h_this_paidThen, .int x_this_firstFit, .ref h_this_rows, .int x_this_rowMany, .ref h_this_sorts, .ref h_this_sizes, .ref h_this_number, .ref h_this_holds, .ref h_this_heldOne, .ref h_this_trace, .int x_this_traced, .int x_this_own, .int x_this_isParted]), (h_this_trace, ia G 30 f_this_trace)] r [(h_this, ob 9 [.ref h_this_s, .ref h_this_kept, .ref h_this_laid, .int x_this_isKept, .ref h_this_pile, .ref h_this_tape, .int x_this_taped, .ref h_this_letters, .int x_this_at, .int x_this_begun, .int x_this_token, .int x_this_value, .int x_this_opened, .int x_this_steps, .ref h_this_code0, .ref h_this_read, .ref h_this_saved, .ref h_this_plan, .ref h_this_bestPlan, .int x_this_most, .int x_this_many, .int x_this_few, .int x_this_everHome, .ref h_this_offThen, .ref h_this_paidThen, .int x_this_firstFit, .ref h_this_rows, .int x_this_rowMany, .ref h_this_sorts, .ref h_this_sizes, .ref h_this_number, .ref h_this_holds, .ref h_this_heldOne, .ref h_this_trace, .int x_this_traced, .int x_this_own, .int x_this_isParted]), (h_this_trace, ia G 30 f_this_trace)] := by
  refine mFi.of (by decide +kernel) (Nat.le_of_ble_eq_true rfl) ?_
  intro p e s m below meth c A C hr hlk h ls hl
  obtain ⟨hx, hb, hml, hown, hts⟩ := id C
  replace hl : lv_has ls 2 [(0, .ref h_this), (1, .int p0)] := hl
  unfold f_X9_trace at hf
  refine lv_iload_n hx hb dX9_trace_0 rfl (lv_at hl 1 rfl) ?_
  refine lv_iconst (v := (0 : Int32)) hx hb dX9_trace_1 rfl ?_
  refine lv_aload_n hx hb dX9_trace_2 rfl (lv_at hl 0 rfl) ?_
  refine r_get C h fk_X9_344 0 rfl rfl dX9_trace_3 ?_
  refine lv_iconst (v := (1 : Int32)) hx hb dX9_trace_6 rfl ?_
  refine lv_isub hx hb dX9_trace_7 ?_
  replace hf := bd1_inv hf
  obtain ⟨r1, hc2, hf⟩ := hf
  refine r_ciS0 C h (c_X9_in1 hc2) ms_X9_71 rfl [] rfl rfl hl.1 rfl (Nat.le_of_ble_eq_true rfl) (rok (by decide)) dX9_trace_8 (fun H locs h => ?_)
  refine lv_if_eq (tgt := 23) hx hb dX9_trace_11 rfl (fun c3 => ?_) (fun c3 => ?_)
  · replace hf := ifp c3 hf
    refine lv_bipush (v := (-3 : Int32)) hx hb dX9_trace_23 rfl ?_
    cases hf
    exact r_iret C h hr hlk rfl dX9_trace_25
  · replace hf := ifn c3 hf
    refine lv_aload_n hx hb dX9_trace_14 rfl (lv_at hl 0 rfl) ?_
    refine r_get C h fk_X9_68 0 rfl rfl dX9_trace_15 ?_
    refine lv_iload_n hx hb dX9_trace_18 rfl (lv_at hl 1 rfl) ?_
    replace hf := chkI_inv hf
    obtain ⟨hi4, hf⟩ := hf
    refine r_iald C h 1 rfl hi4 dX9_trace_19 ?_
    refine lv_goto (tgt := 25) hx hb dX9_trace_20 rfl ?_
    cases hf
    exact r_iret C h hr hlk rfl dX9_trace_25
def f_X9_ones_L4 : Nat → Int32 → Int32 → Option (Int32)
  | 0, _, _ => none
  | n + 1, v1, v2 => (if v2 = 0 then some v1 else lt1 (v1 + (1 : Int32)) (fun (t2 : Int32) => lt1 (v2 &&& (v2 - (1 : Int32))) (fun (t3 : Int32) => (f_X9_ones_L4 n) t2 t3)))
def f_X9_ones (p0 : Int32) : Option (Int32) := f_X9_ones_L4 1000 (0 : Int32) p0
set_option maxRecDepth 100000 in
set_option maxHeartbeats 4000000 in
theorem c_X9_ones {l : Launch} {G : Gt} {p0 : Int32} {r : Int32} (hf : f_X9_ones p0 = some r) : mFi l G yX9_ones cX9_ones 3 .int 0 [.int p0] ([] : va_W) r ([] : va_W) := by
  refine mFi.of (by decide +kernel) (Nat.le_of_ble_eq_true rfl) ?_
  intro p e s m below meth c A C hr hlk h ls hl
  obtain ⟨hx, hb, hml, hown, hts⟩ := id C
  replace hl : lv_has ls 3 [(0, .int p0)] := hl
  unfold f_X9_ones at hf
  refine with_K G A 3 (fun K hK1 hK2 => ?_)
  have L4 : ∀ (n : Nat) (v1 : Int32) (v2 : Int32), f_X9_ones_L4 n v1 v2 = some r → K 4 ([] : List Value) ([] : va_W) [(1, .int v1), (2, .int v2)] := by
    intro n
    induction n with
    | zero =>
      intro v1 v2 hf
      replace hf : (none : Option _) = some _ := hf
      cases hf
    | succ n ih =>
      intro v1 v2 hf
      rw [f_X9_ones_L4] at hf
      refine hK1 _ _ _ _ (fun H locs ls h hl => ?_)
      refine lv_iload_n hx hb dX9_ones_4 rfl (lv_at hl 1 rfl) ?_
      refine lv_if_eq (tgt := 20) hx hb dX9_ones_5 rfl (fun c1 => ?_) (fun c1 => ?_)
      · replace hf := ifp c1 hf
        refine lv_iload_n hx hb dX9_ones_20 rfl (lv_at hl 0 rfl) ?_
        cases hf
        exact r_iret C h hr hlk rfl dX9_ones_21
      · replace hf := ifn c1 hf
        obtain ⟨t2, et2⟩ : ∃ y : Int32, y = v1 + (1 : Int32) := ⟨_, rfl⟩
        replace hf := lt1_inv et2 hf
        refine lv_iinc (v := t2) (lv' := [(1, .int t2), (2, .int v2)]) hx hb dX9_ones_8 hl (k := 0) rfl (by rw [et2]; rfl) (by decide) rfl (fun ls hl => ?_)
        refine lv_iload_n hx hb dX9_ones_11 rfl (lv_at hl 1 rfl) ?_
        refine lv_iload_n hx hb dX9_ones_12 rfl (lv_at hl 1 rfl) ?_
        refine lv_iconst (v := (1 : Int32)) hx hb dX9_ones_13 rfl ?_
        refine lv_isub hx hb dX9_ones_14 ?_
        refine lv_iand hx hb dX9_ones_15 ?_
        refine lv_topi (fun t3 et3 => ?_)
        replace hf := lt1_inv et3 hf
        refine lv_istore_n (lv' := [(2, .int t3), (1, .int t2)]) hx hb dX9_ones_16 rfl hl (by decide) rfl (fun ls hl => ?_)
        refine lv_goto (tgt := 4) hx hb dX9_ones_17 rfl ?_
        exact hK2 _ _ _ _ (ih t2 t3 hf) _ _ _ h (lv_sub hl [1, 0] rfl)
  refine lv_iconst (v := (0 : Int32)) hx hb dX9_ones_0 rfl ?_
  refine lv_istore_n (lv' := [(1, .int (0 : Int32)), (0, .int p0)]) hx hb dX9_ones_1 rfl hl (by decide) rfl (fun ls hl => ?_)
  refine lv_iload_n hx hb dX9_ones_2 rfl (lv_at hl 1 rfl) ?_
  refine lv_istore_n (lv' := [(2, .int p0), (1, .int (0 : Int32)), (0, .int p0)]) hx hb dX9_ones_3 rfl hl (by decide) rfl (fun ls hl => ?_)
  exact hK2 _ _ _ _ (L4 1000 (0 : Int32) p0 hf) _ _ _ h (lv_sub hl [1, 0] rfl)
def f_X9_many (p0 : Int32) (x_this_taped : Int32) (x_this_rowMany : Int32) (x_this_traced : Int32) (f_this_s : Nat → Int32) : Option (Int32) := (if p0 = (0 : Int32) then some (f_this_s 4) else (if p0 = (1 : Int32) then some (f_this_s 5) else (if p0 = (2 : Int32) then bd1 (f_X9_those (4 : Int32) f_this_s) (fun r8 => bd1 (f_X9_ones r8) (fun r10 => some r10)) else (if p0 = (3 : Int32) then some (f_this_s 6) else (if p0 = (4 : Int32) then some x_this_rowMany else (if p0 = (5 : Int32) then some x_this_taped else (if p0 = (6 : Int32) then some x_this_traced else some (-1 : Int32))))))))
set_option maxRecDepth 100000 in
set_option maxHeartbeats 4000000 in
theorem c_X9_many {l : Launch} {G : Gt} {h_this h_this_s h_this_kept h_this_laid h_this_pile h_this_tape h_this_letters h_this_code0 h_this_read h_this_saved h_this_plan h_this_bestPlan h_this_offThen h_this_paidThen h_this_rows h_this_sorts h_this_sizes h_this_number h_this_holds h_this_heldOne h_this_trace : Nat} {p0 : Int32} {x_this_isKept : Int32} {x_this_taped : Int32} {x_this_at : Int32} {x_this_begun : Int32} {x_this_token : Int32} {x_this_value : Int32} {x_this_opened : Int32} {x_this_steps : Int32} {x_this_most : Int32} {x_this_many : Int32} {x_this_few : Int32} {x_this_everHome : Int32} {x_this_firstFit : Int32} {x_this_rowMany : Int32} {x_this_traced : Int32} {x_this_own : Int32} {x_this_isParted : Int32} {f_this_s : Nat → Int32} {r : Int32} (hf : f_X9_many p0 x_this_taped x_this_rowMany x_this_traced f_this_s = some r) : mFi l G yX9_many cX9_many 2 .int 2 [.ref h_this, .int p0] [(h_this, ob 9 [.ref h_this_s, .ref h_this_kept, .ref h_this_laid, .int x_this_isKept, .ref h_this_pile, .ref h_this_tape, .int x_this_taped, .ref h_this_letters, .int x_this_at, .int x_this_begun, .int x_this_token, .int x_this_value, .int x_this_opened, .int x_this_steps, .ref h_this_code0, .ref h_this_read, .ref h_this_saved, .ref h_this_plan, .ref h_this_bestPlan, .int x_this_most, .int x_this_many, .int x_this_few, .int x_this_everHome, .ref h_this_offThen, .ref h_this_paidThen, .int x_this_firstFit, .ref h_this_rows, .int x_this_rowMany, .ref h_this_sorts, .ref h_this_sizes, .ref h_this_number, .ref h_this_holds, .ref h_this_heldOne, .ref h_this_trace, .int x_this_traced, .int x_this_own, .int x_this_isParted]), (h_this_s, ia G 313 f_this_s)] r [(h_this, ob 9 [.ref h_this_s, .ref h_this_kept, .ref h_this_laid, .int x_this_isKept, .ref h_this_pile, .ref h_this_tape, .int x_this_taped, .ref h_this_letters, .int x_this_at, .int x_this_begun, .int x_this_token, .int x_this_value, .int x_this_opened, .int x_this_steps, .ref h_this_code0, .ref h_this_read, .ref h_this_saved, .ref h_this_plan, .ref h_this_bestPlan, .int x_this_most, .int x_this_many, .int x_this_few, .int x_this_everHome, .ref h_this_offThen, .ref h_this_paidThen, .int x_this_firstFit, .ref h_this_rows, .int x_this_rowMany, .ref h_this_sorts, .ref h_this_sizes, .ref h_this_number, .ref h_this_holds, .ref h_this_heldOne, .ref h_this_trace, .int x_this_traced, .int x_this_own, .int x_this_isParted]), (h_this_s, ia G 313 f_this_s)] := by
  refine mFi.of (by decide +kernel) (Nat.le_of_ble_eq_true rfl) ?_
  intro p e s m below meth c A C hr hlk h ls hl
  obtain ⟨hx, hb, hml, hown, hts⟩ := id C
  replace hl : lv_has ls 2 [(0, .ref h_this), (1, .int p0)] := hl
  unfold f_X9_many at hf
  refine lv_iload_n hx hb dX9_many_0 rfl (lv_at hl 1 rfl) ?_
  by_cases c1 : p0 = (0 : Int32)
  · replace hf := ifp c1 hf
    refine r_tab (tgt := 44) C dX9_many_1 (0 : Int32) c1 (by decide) rfl rfl ?_
    refine lv_aload_n hx hb dX9_many_44 rfl (lv_at hl 0 rfl) ?_
    refine r_get C h fk_X9_9 0 rfl rfl dX9_many_45 ?_
    refine lv_iconst (v := (4 : Int32)) hx hb dX9_many_48 rfl ?_
    refine r_ialdL C h 1 rfl (vlit rfl) 4 rfl dX9_many_49 ?_
    cases hf
    exact r_iret C h hr hlk rfl dX9_many_50
  · replace hf := ifn c1 hf
    by_cases c2 : p0 = (1 : Int32)
    · replace hf := ifp c2 hf
      refine r_tab (tgt := 51) C dX9_many_1 (1 : Int32) c2 (by decide) rfl rfl ?_
      refine lv_aload_n hx hb dX9_many_51 rfl (lv_at hl 0 rfl) ?_
      refine r_get C h fk_X9_9 0 rfl rfl dX9_many_52 ?_
      refine lv_iconst (v := (5 : Int32)) hx hb dX9_many_55 rfl ?_
      refine r_ialdL C h 1 rfl (vlit rfl) 5 rfl dX9_many_56 ?_
      cases hf
      exact r_iret C h hr hlk rfl dX9_many_57
    · replace hf := ifn c2 hf
      by_cases c3 : p0 = (2 : Int32)
      · replace hf := ifp c3 hf
        refine r_tab (tgt := 58) C dX9_many_1 (2 : Int32) c3 (by decide) rfl rfl ?_
        refine lv_aload_n hx hb dX9_many_58 rfl (lv_at hl 0 rfl) ?_
        refine lv_iconst (v := (4 : Int32)) hx hb dX9_many_59 rfl ?_
        replace hf := bd1_inv hf
        obtain ⟨r8, hc9, hf⟩ := hf
        refine r_ciV0 C h (c_X9_those hc9) mv_X9_235 rfl 0 rfl [0, 1] rfl rfl hl.1 rfl (Nat.le_of_ble_eq_true rfl) (rok (by decide)) dX9_many_60 (fun H locs h => ?_)
        replace hf := bd1_inv hf
        obtain ⟨r10, hc11, hf⟩ := hf
        refine r_ciS0 C h (c_X9_ones hc11) ms_X9_369 rfl [] rfl rfl hl.1 rfl (Nat.le_of_ble_eq_true rfl) (rok (by decide)) dX9_many_63 (fun H locs h => ?_)
        cases hf
        exact r_iret C h hr hlk rfl dX9_many_66
      · replace hf := ifn c3 hf
        by_cases c4 : p0 = (3 : Int32)
        · replace hf := ifp c4 hf
          refine r_tab (tgt := 67) C dX9_many_1 (3 : Int32) c4 (by decide) rfl rfl ?_
          refine lv_aload_n hx hb dX9_many_67 rfl (lv_at hl 0 rfl) ?_
          refine r_get C h fk_X9_9 0 rfl rfl dX9_many_68 ?_
          refine lv_bipush (v := (6 : Int32)) hx hb dX9_many_71 rfl ?_
          refine r_ialdL C h 1 rfl (vlit rfl) 6 rfl dX9_many_73 ?_
          cases hf
          exact r_iret C h hr hlk rfl dX9_many_74
        · replace hf := ifn c4 hf
          by_cases c5 : p0 = (4 : Int32)
          · replace hf := ifp c5 hf
            refine r_tab (tgt := 75) C dX9_many_1 (4 : Int32) c5 (by decide) rfl rfl ?_
            refine lv_aload_n hx hb dX9_many_75 rfl (lv_at hl 0 rfl) ?_
            refine r_get C h fk_X9_320 0 rfl rfl dX9_many_76 ?_
            cases hf
            exact r_iret C h hr hlk rfl dX9_many_79
          · replace hf := ifn c5 hf
            by_cases c6 : p0 = (5 : Int32)
            · replace hf := ifp c6 hf
              refine r_tab (tgt := 80) C dX9_many_1 (5 : Int32) c6 (by decide) rfl rfl ?_
              refine lv_aload_n hx hb dX9_many_80 rfl (lv_at hl 0 rfl) ?_
              refine r_get C h fk_X9_127 0 rfl rfl dX9_many_81 ?_
              cases hf
              exact r_iret C h hr hlk rfl dX9_many_84
            · replace hf := ifn c6 hf
              by_cases c7 : p0 = (6 : Int32)
              · replace hf := ifp c7 hf
                refine r_tab (tgt := 85) C dX9_many_1 (6 : Int32) c7 (by decide) rfl rfl ?_
                refine lv_aload_n hx hb dX9_many_85 rfl (lv_at hl 0 rfl) ?_
                refine r_get C h fk_X9_344 0 rfl rfl dX9_many_86 ?_
                cases hf
                exact r_iret C h hr hlk rfl dX9_many_89
              · replace hf := ifn c7 hf
                refine r_tabD (tgt := 90) C dX9_many_1 [(0 : Int32), (1 : Int32), (2 : Int32), (3 : Int32), (4 : Int32), (5 : Int32), (6 : Int32)] (by decide) (nel_c c1 (nel_c c2 (nel_c c3 (nel_c c4 (nel_c c5 (nel_c c6 (nel_c c7 nel_0))))))) rfl ?_
                refine lv_iconst (v := (-1 : Int32)) hx hb dX9_many_90 rfl ?_
                cases hf
                exact r_iret C h hr hlk rfl dX9_many_91
def f_X9_keep_L2 (f_this_s : Nat → Int32) : Nat → Int32 → (Nat → Int32) → Option (Int32 × Int32 × (Nat → Int32))
  | 0, _, _ => none
  | n + 1, v1, g_this_kept => (if (313 : Int32) ≤ v1 then some ((1 : Int32), (1 : Int32), g_this_kept) else chkI v1 313 (lt1 (f_this_s v1.toNatClampNeg) (fun (t3 : Int32) => chkI v1 313 (lt1 (v1 + (1 : Int32)) (fun (t5 : Int32) => (f_X9_keep_L2 f_this_s n) t5 (upd g_this_kept v1.toNatClampNeg t3))))))
def f_X9_keep (f_this_kept : Nat → Int32) (f_this_s : Nat → Int32) : Option (Int32 × Int32 × (Nat → Int32)) := f_X9_keep_L2 f_this_s 1000 (0 : Int32) f_this_kept
set_option maxRecDepth 100000 in
set_option maxHeartbeats 4000000 in
theorem c_X9_keep {l : Launch} {G : Gt} {h_this h_this_s h_this_kept h_this_laid h_this_pile h_this_tape h_this_letters h_this_code0 h_this_read h_this_saved h_this_plan h_this_bestPlan h_this_offThen h_this_paidThen h_this_rows h_this_sorts h_this_sizes h_this_number h_this_holds h_this_heldOne h_this_trace : Nat} {x_this_isKept : Int32} {x_this_taped : Int32} {x_this_at : Int32} {x_this_begun : Int32} {x_this_token : Int32} {x_this_value : Int32} {x_this_opened : Int32} {x_this_steps : Int32} {x_this_most : Int32} {x_this_many : Int32} {x_this_few : Int32} {x_this_everHome : Int32} {x_this_firstFit : Int32} {x_this_rowMany : Int32} {x_this_traced : Int32} {x_this_own : Int32} {x_this_isParted : Int32} {f_this_kept : Nat → Int32} {f_this_s : Nat → Int32} {r : Int32} {m_this_isKept : Int32} {m_this_kept : Nat → Int32} (hf : f_X9_keep f_this_kept f_this_s = some (r, m_this_isKept, m_this_kept)) : mFi l G yX9_keep cX9_keep 2 .int 0 [.ref h_this] [(h_this, ob 9 [.ref h_this_s, .ref h_this_kept, .ref h_this_laid, .int x_this_isKept, .ref h_this_pile, .ref h_this_tape, .int x_this_taped, .ref h_this_letters, .int x_this_at, .int x_this_begun, .int x_this_token, .int x_this_value, .int x_this_opened, .int x_this_steps, .ref h_this_code0, .ref h_this_read, .ref h_this_saved, .ref h_this_plan, .ref h_this_bestPlan, .int x_this_most, .int x_this_many, .int x_this_few, .int x_this_everHome, .ref h_this_offThen, .ref h_this_paidThen, .int x_this_firstFit, .ref h_this_rows, .int x_this_rowMany, .ref h_this_sorts, .ref h_this_sizes, .ref h_this_number, .ref h_this_holds, .ref h_this_heldOne, .ref h_this_trace, .int x_this_traced, .int x_this_own, .int x_this_isParted]), (h_this_kept, ia G 313 f_this_kept), (h_this_s, ia G 313 f_this_s)] r [(h_this, ob 9 [.ref h_this_s, .ref h_this_kept, .ref h_this_laid, .int m_this_isKept, .ref h_this_pile, .ref h_this_tape, .int x_this_taped, .ref h_this_letters, .int x_this_at, .int x_this_begun, .int x_this_token, .int x_this_value, .int x_this_opened, .int x_this_steps, .ref h_this_code0, .ref h_this_read, .ref h_this_saved, .ref h_this_plan, .ref h_this_bestPlan, .int x_this_most, .int x_this_many, .int x_this_few, .int x_this_everHome, .ref h_this_offThen, .ref h_this_paidThen, .int x_this_firstFit, .ref h_this_rows, .int x_this_rowMany, .ref h_this_sorts, .ref h_this_sizes, .ref h_this_number, .ref h_this_holds, .ref h_this_heldOne, .ref h_this_trace, .int x_this_traced, .int x_this_own, .int x_this_isParted]), (h_this_kept, ia G 313 m_this_kept), (h_this_s, ia G 313 f_this_s)] := by
  refine mFi.of (by decide +kernel) (Nat.le_of_ble_eq_true rfl) ?_
  intro p e s m below meth c A C hr hlk h ls hl
  obtain ⟨hx, hb, hml, hown, hts⟩ := id C
  replace hl : lv_has ls 2 [(0, .ref h_this)] := hl
  unfold f_X9_keep at hf
  refine with_K G A 2 (fun K hK1 hK2 => ?_)
  have L2 : ∀ (n : Nat) (v1 : Int32) (g_this_kept : Nat → Int32), f_X9_keep_L2 f_this_s n v1 g_this_kept = some (r, m_this_isKept, m_this_kept) → K 2 ([] : List Value) [(h_this, ob 9 [.ref h_this_s, .ref h_this_kept, .ref h_this_laid, .int x_this_isKept, .ref h_this_pile, .ref h_this_tape, .int x_this_taped, .ref h_this_letters, .int x_this_at, .int x_this_begun, .int x_this_token, .int x_this_value, .int x_this_opened, .int x_this_steps, .ref h_this_code0, .ref h_this_read, .ref h_this_saved, .ref h_this_plan, .ref h_this_bestPlan, .int x_this_most, .int x_this_many, .int x_this_few, .int x_this_everHome, .ref h_this_offThen, .ref h_this_paidThen, .int x_this_firstFit, .ref h_this_rows, .int x_this_rowMany, .ref h_this_sorts, .ref h_this_sizes, .ref h_this_number, .ref h_this_holds, .ref h_this_heldOne, .ref h_this_trace, .int x_this_traced, .int x_this_own, .int x_this_isParted]), (h_this_kept, ia G 313 g_this_kept), (h_this_s, ia G 313 f_this_s)] [(0, .ref h_this), (1, .int v1)] := by
    intro n
    induction n with
    | zero =>
      intro v1 g_this_kept hf
      replace hf : (none : Option _) = some _ := hf
      cases hf
    | succ n ih =>
      intro v1 g_this_kept hf
      rw [f_X9_keep_L2] at hf
      refine hK1 _ _ _ _ (fun H locs ls h hl => ?_)
      refine lv_iload_n hx hb dX9_keep_2 rfl (lv_at hl 1 rfl) ?_
      refine lv_sipush (v := (313 : Int32)) hx hb dX9_keep_3 rfl ?_
      refine lv_icmp_ge (tgt := 27) hx hb dX9_keep_6 rfl (fun c1 => ?_) (fun c1 => ?_)
      · replace hf := ifp c1 hf
        refine lv_aload_n hx hb dX9_keep_27 rfl (lv_at hl 0 rfl) ?_
        refine lv_iconst (v := (1 : Int32)) hx hb dX9_keep_28 rfl ?_
        refine r_put (ws' := [(h_this, ob 9 [.ref h_this_s, .ref h_this_kept, .ref h_this_laid, .int (1 : Int32), .ref h_this_pile, .ref h_this_tape, .int x_this_taped, .ref h_this_letters, .int x_this_at, .int x_this_begun, .int x_this_token, .int x_this_value, .int x_this_opened, .int x_this_steps, .ref h_this_code0, .ref h_this_read, .ref h_this_saved, .ref h_this_plan, .ref h_this_bestPlan, .int x_this_most, .int x_this_many, .int x_this_few, .int x_this_everHome, .ref h_this_offThen, .ref h_this_paidThen, .int x_this_firstFit, .ref h_this_rows, .int x_this_rowMany, .ref h_this_sorts, .ref h_this_sizes, .ref h_this_number, .ref h_this_holds, .ref h_this_heldOne, .ref h_this_trace, .int x_this_traced, .int x_this_own, .int x_this_isParted]), (h_this_kept, ia G 313 g_this_kept), (h_this_s, ia G 313 f_this_s)]) C h fw_X9_372 0 rfl rfl rfl (Nat.le_of_ble_eq_true rfl) dX9_keep_29 rfl (fun H locs h => ?_)
        refine lv_iconst (v := (1 : Int32)) hx hb dX9_keep_32 rfl ?_
        cases hf
        exact r_iret C h hr hlk rfl dX9_keep_33
      · replace hf := ifn c1 hf
        refine lv_aload_n hx hb dX9_keep_9 rfl (lv_at hl 0 rfl) ?_
        refine r_get C h fk_X9_13 0 rfl rfl dX9_keep_10 ?_
        refine lv_iload_n hx hb dX9_keep_13 rfl (lv_at hl 1 rfl) ?_
        refine lv_aload_n hx hb dX9_keep_14 rfl (lv_at hl 0 rfl) ?_
        refine r_get C h fk_X9_9 0 rfl rfl dX9_keep_15 ?_
        refine lv_iload_n hx hb dX9_keep_18 rfl (lv_at hl 1 rfl) ?_
        replace hf := chkI_inv hf
        obtain ⟨hi2, hf⟩ := hf
        refine r_iald C h 2 rfl hi2 dX9_keep_19 ?_
        refine lv_topi (fun t3 et3 => ?_)
        replace hf := lt1_inv et3 hf
        replace hf := chkI_inv hf
        obtain ⟨hi4, hf⟩ := hf
        refine r_iast (ws' := [(h_this, ob 9 [.ref h_this_s, .ref h_this_kept, .ref h_this_laid, .int x_this_isKept, .ref h_this_pile, .ref h_this_tape, .int x_this_taped, .ref h_this_letters, .int x_this_at, .int x_this_begun, .int x_this_token, .int x_this_value, .int x_this_opened, .int x_this_steps, .ref h_this_code0, .ref h_this_read, .ref h_this_saved, .ref h_this_plan, .ref h_this_bestPlan, .int x_this_most, .int x_this_many, .int x_this_few, .int x_this_everHome, .ref h_this_offThen, .ref h_this_paidThen, .int x_this_firstFit, .ref h_this_rows, .int x_this_rowMany, .ref h_this_sorts, .ref h_this_sizes, .ref h_this_number, .ref h_this_holds, .ref h_this_heldOne, .ref h_this_trace, .int x_this_traced, .int x_this_own, .int x_this_isParted]), (h_this_kept, ia G 313 (upd g_this_kept v1.toNatClampNeg t3)), (h_this_s, ia G 313 f_this_s)]) C h 1 rfl hi4 dX9_keep_20 rfl (fun H locs h => ?_)
        obtain ⟨t5, et5⟩ : ∃ y : Int32, y = v1 + (1 : Int32) := ⟨_, rfl⟩
        replace hf := lt1_inv et5 hf
        refine lv_iinc (v := t5) (lv' := [(1, .int t5), (0, .ref h_this)]) hx hb dX9_keep_21 hl (k := 1) rfl (by rw [et5]; rfl) (by decide) rfl (fun ls hl => ?_)
        refine lv_goto (tgt := 2) hx hb dX9_keep_24 rfl ?_
        exact hK2 _ _ _ _ (ih t5 (upd g_this_kept v1.toNatClampNeg t3) hf) _ _ _ h (lv_sub hl [1, 0] rfl)
  refine lv_iconst (v := (0 : Int32)) hx hb dX9_keep_0 rfl ?_
  refine lv_istore_n (lv' := [(1, .int (0 : Int32)), (0, .ref h_this)]) hx hb dX9_keep_1 rfl hl (by decide) rfl (fun ls hl => ?_)
  exact hK2 _ _ _ _ (L2 1000 (0 : Int32) f_this_kept hf) _ _ _ h (lv_sub hl [1, 0] rfl)
def f_X9_again_L12 (f_this_kept : Nat → Int32) : Nat → Int32 → (Nat → Int32) → Option (Int32 × (Nat → Int32))
  | 0, _, _ => none
  | n + 1, v1, g_this_s => (if (313 : Int32) ≤ v1 then some (g_this_s 4, g_this_s) else chkI v1 313 (lt1 (f_this_kept v1.toNatClampNeg) (fun (t4 : Int32) => chkI v1 313 (lt1 (v1 + (1 : Int32)) (fun (t6 : Int32) => (f_X9_again_L12 f_this_kept n) t6 (upd g_this_s v1.toNatClampNeg t4))))))
def f_X9_again (x_this_isKept : Int32) (f_this_kept : Nat → Int32) (f_this_s : Nat → Int32) : Option (Int32 × (Nat → Int32)) := (if x_this_isKept = 0 then some ((-3 : Int32), f_this_s) else f_X9_again_L12 f_this_kept 1000 (0 : Int32) f_this_s)
set_option maxRecDepth 100000 in
set_option maxHeartbeats 4000000 in
theorem c_X9_again {l : Launch} {G : Gt} {h_this h_this_s h_this_kept h_this_laid h_this_pile h_this_tape h_this_letters h_this_code0 h_this_read h_this_saved h_this_plan h_this_bestPlan h_this_offThen h_this_paidThen h_this_rows h_this_sorts h_this_sizes h_this_number h_this_holds h_this_heldOne h_this_trace : Nat} {x_this_isKept : Int32} {x_this_taped : Int32} {x_this_at : Int32} {x_this_begun : Int32} {x_this_token : Int32} {x_this_value : Int32} {x_this_opened : Int32} {x_this_steps : Int32} {x_this_most : Int32} {x_this_many : Int32} {x_this_few : Int32} {x_this_everHome : Int32} {x_this_firstFit : Int32} {x_this_rowMany : Int32} {x_this_traced : Int32} {x_this_own : Int32} {x_this_isParted : Int32} {f_this_kept : Nat → Int32} {f_this_s : Nat → Int32} {r : Int32} {m_this_s : Nat → Int32} (hf : f_X9_again x_this_isKept f_this_kept f_this_s = some (r, m_this_s)) : mFi l G yX9_again cX9_again 2 .int 0 [.ref h_this] [(h_this, ob 9 [.ref h_this_s, .ref h_this_kept, .ref h_this_laid, .int x_this_isKept, .ref h_this_pile, .ref h_this_tape, .int x_this_taped, .ref h_this_letters, .int x_this_at, .int x_this_begun, .int x_this_token, .int x_this_value, .int x_this_opened, .int x_this_steps, .ref h_this_code0, .ref h_this_read, .ref h_this_saved, .ref h_this_plan, .ref h_this_bestPlan, .int x_this_most, .int x_this_many, .int x_this_few, .int x_this_everHome, .ref h_this_offThen, .ref h_this_paidThen, .int x_this_firstFit, .ref h_this_rows, .int x_this_rowMany, .ref h_this_sorts, .ref h_this_sizes, .ref h_this_number, .ref h_this_holds, .ref h_this_heldOne, .ref h_this_trace, .int x_this_traced, .int x_this_own, .int x_this_isParted]), (h_this_kept, ia G 313 f_this_kept), (h_this_s, ia G 313 f_this_s)] r [(h_this, ob 9 [.ref h_this_s, .ref h_this_kept, .ref h_this_laid, .int x_this_isKept, .ref h_this_pile, .ref h_this_tape, .int x_this_taped, .ref h_this_letters, .int x_this_at, .int x_this_begun, .int x_this_token, .int x_this_value, .int x_this_opened, .int x_this_steps, .ref h_this_code0, .ref h_this_read, .ref h_this_saved, .ref h_this_plan, .ref h_this_bestPlan, .int x_this_most, .int x_this_many, .int x_this_few, .int x_this_everHome, .ref h_this_offThen, .ref h_this_paidThen, .int x_this_firstFit, .ref h_this_rows, .int x_this_rowMany, .ref h_this_sorts, .ref h_this_sizes, .ref h_this_number, .ref h_this_holds, .ref h_this_heldOne, .ref h_this_trace, .int x_this_traced, .int x_this_own, .int x_this_isParted]), (h_this_kept, ia G 313 f_this_kept), (h_this_s, ia G 313 m_this_s)] := by
  refine mFi.of (by decide +kernel) (Nat.le_of_ble_eq_true rfl) ?_
  intro p e s m below meth c A C hr hlk h ls hl
  obtain ⟨hx, hb, hml, hown, hts⟩ := id C
  replace hl : lv_has ls 2 [(0, .ref h_this)] := hl
  unfold f_X9_again at hf
  refine with_K G A 2 (fun K hK1 hK2 => ?_)
  have L12 : ∀ (n : Nat) (v1 : Int32) (g_this_s : Nat → Int32), f_X9_again_L12 f_this_kept n v1 g_this_s = some (r, m_this_s) → K 12 ([] : List Value) [(h_this, ob 9 [.ref h_this_s, .ref h_this_kept, .ref h_this_laid, .int x_this_isKept, .ref h_this_pile, .ref h_this_tape, .int x_this_taped, .ref h_this_letters, .int x_this_at, .int x_this_begun, .int x_this_token, .int x_this_value, .int x_this_opened, .int x_this_steps, .ref h_this_code0, .ref h_this_read, .ref h_this_saved, .ref h_this_plan, .ref h_this_bestPlan, .int x_this_most, .int x_this_many, .int x_this_few, .int x_this_everHome, .ref h_this_offThen, .ref h_this_paidThen, .int x_this_firstFit, .ref h_this_rows, .int x_this_rowMany, .ref h_this_sorts, .ref h_this_sizes, .ref h_this_number, .ref h_this_holds, .ref h_this_heldOne, .ref h_this_trace, .int x_this_traced, .int x_this_own, .int x_this_isParted]), (h_this_kept, ia G 313 f_this_kept), (h_this_s, ia G 313 g_this_s)] [(0, .ref h_this), (1, .int v1)] := by
    intro n
    induction n with
    | zero =>
      intro v1 g_this_s hf
      replace hf : (none : Option _) = some _ := hf
      cases hf
    | succ n ih =>
      intro v1 g_this_s hf
      rw [f_X9_again_L12] at hf
      refine hK1 _ _ _ _ (fun H locs ls h hl => ?_)
      refine lv_iload_n hx hb dX9_again_12 rfl (lv_at hl 1 rfl) ?_
      refine lv_sipush (v := (313 : Int32)) hx hb dX9_again_13 rfl ?_
      refine lv_icmp_ge (tgt := 37) hx hb dX9_again_16 rfl (fun c2 => ?_) (fun c2 => ?_)
      · replace hf := ifp c2 hf
        refine lv_aload_n hx hb dX9_again_37 rfl (lv_at hl 0 rfl) ?_
        refine r_get C h fk_X9_9 0 rfl rfl dX9_again_38 ?_
        refine lv_iconst (v := (4 : Int32)) hx hb dX9_again_41 rfl ?_
        refine r_ialdL C h 2 rfl (vlit rfl) 4 rfl dX9_again_42 ?_
        cases hf
        exact r_iret C h hr hlk rfl dX9_again_43
      · replace hf := ifn c2 hf
        refine lv_aload_n hx hb dX9_again_19 rfl (lv_at hl 0 rfl) ?_
        refine r_get C h fk_X9_9 0 rfl rfl dX9_again_20 ?_
        refine lv_iload_n hx hb dX9_again_23 rfl (lv_at hl 1 rfl) ?_
        refine lv_aload_n hx hb dX9_again_24 rfl (lv_at hl 0 rfl) ?_
        refine r_get C h fk_X9_13 0 rfl rfl dX9_again_25 ?_
        refine lv_iload_n hx hb dX9_again_28 rfl (lv_at hl 1 rfl) ?_
        replace hf := chkI_inv hf
        obtain ⟨hi3, hf⟩ := hf
        refine r_iald C h 1 rfl hi3 dX9_again_29 ?_
        refine lv_topi (fun t4 et4 => ?_)
        replace hf := lt1_inv et4 hf
        replace hf := chkI_inv hf
        obtain ⟨hi5, hf⟩ := hf
        refine r_iast (ws' := [(h_this, ob 9 [.ref h_this_s, .ref h_this_kept, .ref h_this_laid, .int x_this_isKept, .ref h_this_pile, .ref h_this_tape, .int x_this_taped, .ref h_this_letters, .int x_this_at, .int x_this_begun, .int x_this_token, .int x_this_value, .int x_this_opened, .int x_this_steps, .ref h_this_code0, .ref h_this_read, .ref h_this_saved, .ref h_this_plan, .ref h_this_bestPlan, .int x_this_most, .int x_this_many, .int x_this_few, .int x_this_everHome, .ref h_this_offThen, .ref h_this_paidThen, .int x_this_firstFit, .ref h_this_rows, .int x_this_rowMany, .ref h_this_sorts, .ref h_this_sizes, .ref h_this_number, .ref h_this_holds, .ref h_this_heldOne, .ref h_this_trace, .int x_this_traced, .int x_this_own, .int x_this_isParted]), (h_this_kept, ia G 313 f_this_kept), (h_this_s, ia G 313 (upd g_this_s v1.toNatClampNeg t4))]) C h 2 rfl hi5 dX9_again_30 rfl (fun H locs h => ?_)
        obtain ⟨t6, et6⟩ : ∃ y : Int32, y = v1 + (1 : Int32) := ⟨_, rfl⟩
        replace hf := lt1_inv et6 hf
        refine lv_iinc (v := t6) (lv' := [(1, .int t6), (0, .ref h_this)]) hx hb dX9_again_31 hl (k := 1) rfl (by rw [et6]; rfl) (by decide) rfl (fun ls hl => ?_)
        refine lv_goto (tgt := 12) hx hb dX9_again_34 rfl ?_
        exact hK2 _ _ _ _ (ih t6 (upd g_this_s v1.toNatClampNeg t4) hf) _ _ _ h (lv_sub hl [1, 0] rfl)
  refine lv_aload_n hx hb dX9_again_0 rfl (lv_at hl 0 rfl) ?_
  refine r_get C h fk_X9_372 0 rfl rfl dX9_again_1 ?_
  refine lv_if_ne (tgt := 10) hx hb dX9_again_4 rfl (fun c1 => ?_) (fun c1 => ?_)
  · replace hf := ifn c1 hf
    refine lv_iconst (v := (0 : Int32)) hx hb dX9_again_10 rfl ?_
    refine lv_istore_n (lv' := [(1, .int (0 : Int32)), (0, .ref h_this)]) hx hb dX9_again_11 rfl hl (by decide) rfl (fun ls hl => ?_)
    exact hK2 _ _ _ _ (L12 1000 (0 : Int32) f_this_s hf) _ _ _ h (lv_sub hl [1, 0] rfl)
  · replace hf := ifp c1 hf
    refine lv_bipush (v := (-3 : Int32)) hx hb dX9_again_7 rfl ?_
    cases hf
    exact r_iret C h hr hlk rfl dX9_again_9
