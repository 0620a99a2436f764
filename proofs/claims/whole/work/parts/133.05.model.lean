set_option maxRecDepth 100000 in
set_option maxHeartbeats 4000000 in
theorem c_X9_prove {l : Launch} {G : Gt} {h_this h_this_s h_this_kept h_this_laid h_this_pile h_this_tape h_this_letters h_this_code0 h_this_read h_this_saved h_this_plan h_this_bestPlan h_this_offThen h_this_paidThen h_this_rows h_this_sorts h_this_sizes h_this_number h_this_holds h_this_heldOne h_this_trace : Nat} {p0 : Int32} {x_this_isKept : Int32} {x_this_taped : Int32} {x_this_at : Int32} {x_this_begun : Int32} {x_this_token : Int32} {x_this_value : Int32} {x_this_opened : Int32} {x_this_steps : Int32} {x_this_most : Int32} {x_this_many : Int32} {x_this_few : Int32} {x_this_everHome : Int32} {x_this_firstFit : Int32} {x_this_rowMany : Int32} {x_this_traced : Int32} {x_this_own : Int32} {x_this_isParted : Int32} {f_this_bestPlan : Nat → Int32} {f_this_laid : Nat → Int32} {f_this_pile : Nat → Int32} {f_this_plan : Nat → Int32} {f_this_rows : Nat → Int32} {f_this_s : Nat → Int32} {f_this_saved : Nat → Int32} {r : Int32} {m_this_most : Int32} {m_this_many : Int32} {m_this_few : Int32} {m_this_everHome : Int32} {m_this_rowMany : Int32} {m_this_bestPlan : Nat → Int32} {m_this_laid : Nat → Int32} {m_this_pile : Nat → Int32} {m_this_plan : Nat → Int32} {m_this_rows : Nat → Int32} {m_this_s : Nat → Int32} {m_this_saved : Nat → Int32} (hf : f_X9_prove p0 x_this_most x_this_many x_this_few x_this_everHome x_this_rowMany f_this_bestPlan f_this_laid f_this_pile f_this_plan f_this_rows f_this_s f_this_saved = some (r, m_this_most, m_this_many, m_this_few, m_this_everHome, m_this_rowMany, m_this_bestPlan, m_this_laid, m_this_pile, m_this_plan, m_this_rows, m_this_s, m_this_saved)) : mFi l G yX9_prove cX9_prove 3 .int 44 [.ref h_this, .int p0] [(h_this, ob 9 [.ref h_this_s, .ref h_this_kept, .ref h_this_laid, .int x_this_isKept, .ref h_this_pile, .ref h_this_tape, .int x_this_taped, .ref h_this_letters, .int x_this_at, .int x_this_begun, .int x_this_token, .int x_this_value, .int x_this_opened, .int x_this_steps, .ref h_this_code0, .ref h_this_read, .ref h_this_saved, .ref h_this_plan, .ref h_this_bestPlan, .int x_this_most, .int x_this_many, .int x_this_few, .int x_this_everHome, .ref h_this_offThen, .ref h_this_paidThen, .int x_this_firstFit, .ref h_this_rows, .int x_this_rowMany, .ref h_this_sorts, .ref h_this_sizes, .ref h_this_number, .ref h_this_holds, .ref h_this_heldOne, .ref h_this_trace, .int x_this_traced, .int x_this_own, .int x_this_isParted]), (h_this_bestPlan, ia G 4 f_this_bestPlan), (h_this_laid, ia G 65 f_this_laid), (h_this_pile, ia G 200 f_this_pile), (h_this_plan, ia G 4 f_this_plan), (h_this_rows, ia G 12 f_this_rows), (h_this_s, ia G 313 f_this_s), (h_this_saved, ia G 325 f_this_saved)] r [(h_this, ob 9 [.ref h_this_s, .ref h_this_kept, .ref h_this_laid, .int x_this_isKept, .ref h_this_pile, .ref h_this_tape, .int x_this_taped, .ref h_this_letters, .int x_this_at, .int x_this_begun, .int x_this_token, .int x_this_value, .int x_this_opened, .int x_this_steps, .ref h_this_code0, .ref h_this_read, .ref h_this_saved, .ref h_this_plan, .ref h_this_bestPlan, .int m_this_most, .int m_this_many, .int m_this_few, .int m_this_everHome, .ref h_this_offThen, .ref h_this_paidThen, .int x_this_firstFit, .ref h_this_rows, .int m_this_rowMany, .ref h_this_sorts, .ref h_this_sizes, .ref h_this_number, .ref h_this_holds, .ref h_this_heldOne, .ref h_this_trace, .int x_this_traced, .int x_this_own, .int x_this_isParted]), (h_this_bestPlan, ia G 4 m_this_bestPlan), (h_this_laid, ia G 65 m_this_laid), (h_this_pile, ia G 200 m_this_pile), (h_this_plan, ia G 4 m_this_plan), (h_this_rows, ia G 12 m_this_rows), (h_this_s, ia G 313 m_this_s), (h_this_saved, ia G 325 m_this_saved)] := by
  refine mFi.of (by decide +kernel) (Nat.le_of_ble_eq_true rfl) ?_
  intro p e s m below meth c A C hr hlk h ls hl
  obtain ⟨hx, hb, hml, hown, hts⟩ := id C
  replace hl : lv_has ls 3 [(0, .ref h_this), (1, .int p0)] := hl
  unfold f_X9_prove at hf
  refine with_K G A 3 (fun K hK1 hK2 => ?_)
  have L30 : ∀ (n : Nat) (v2 : Int32) (y_this_most : Int32) (y_this_many : Int32) (y_this_few : Int32) (y_this_everHome : Int32) (y_this_rowMany : Int32) (g_this_bestPlan : Nat → Int32) (g_this_laid : Nat → Int32) (g_this_pile : Nat → Int32) (g_this_plan : Nat → Int32) (g_this_rows : Nat → Int32) (g_this_s : Nat → Int32) (g_this_saved : Nat → Int32), f_X9_prove_L30 n v2 y_this_most y_this_many y_this_few y_this_everHome y_this_rowMany g_this_bestPlan g_this_laid g_this_pile g_this_plan g_this_rows g_this_s g_this_saved = some (r, m_this_most, m_this_many, m_this_few, m_this_everHome, m_this_rowMany, m_this_bestPlan, m_this_laid, m_this_pile, m_this_plan, m_this_rows, m_this_s, m_this_saved) → K 30 ([] : List Value) [(h_this, ob 9 [.ref h_this_s, .ref h_this_kept, .ref h_this_laid, .int x_this_isKept, .ref h_this_pile, .ref h_this_tape, .int x_this_taped, .ref h_this_letters, .int x_this_at, .int x_this_begun, .int x_this_token, .int x_this_value, .int x_this_opened, .int x_this_steps, .ref h_this_code0, .ref h_this_read, .ref h_this_saved, .ref h_this_plan, .ref h_this_bestPlan, .int y_this_most, .int y_this_many, .int y_this_few, .int y_this_everHome, .ref h_this_offThen, .ref h_this_paidThen, .int x_this_firstFit, .ref h_this_rows, .int y_this_rowMany, .ref h_this_sorts, .ref h_this_sizes, .ref h_this_number, .ref h_this_holds, .ref h_this_heldOne, .ref h_this_trace, .int x_this_traced, .int x_this_own, .int x_this_isParted]), (h_this_bestPlan, ia G 4 g_this_bestPlan), (h_this_laid, ia G 65 g_this_laid), (h_this_pile, ia G 200 g_this_pile), (h_this_plan, ia G 4 g_this_plan), (h_this_rows, ia G 12 g_this_rows), (h_this_s, ia G 313 g_this_s), (h_this_saved, ia G 325 g_this_saved)] [(0, .ref h_this), (2, .int v2)] := by
    intro n
    induction n with
    | zero =>
      intro v2 y_this_most y_this_many y_this_few y_this_everHome y_this_rowMany g_this_bestPlan g_this_laid g_this_pile g_this_plan g_this_rows g_this_s g_this_saved hf
      replace hf : (none : Option _) = some _ := hf
      cases hf
    | succ n ih =>
      intro v2 y_this_most y_this_many y_this_few y_this_everHome y_this_rowMany g_this_bestPlan g_this_laid g_this_pile g_this_plan g_this_rows g_this_s g_this_saved hf
      rw [f_X9_prove_L30] at hf
      refine hK1 _ _ _ _ (fun H locs ls h hl => ?_)
      refine lv_iload_n hx hb dX9_prove_30 rfl (lv_at hl 1 rfl) ?_
      refine lv_aload_n hx hb dX9_prove_31 rfl (lv_at hl 0 rfl) ?_
      refine r_get C h fk_X9_320 0 rfl rfl dX9_prove_32 ?_
      refine lv_icmp_ge (tgt := 93) hx hb dX9_prove_35 rfl (fun c18 => ?_) (fun c18 => ?_)
      · replace hf := ifp c18 hf
        refine lv_aload_n hx hb dX9_prove_93 rfl (lv_at hl 0 rfl) ?_
        replace hf := bd1_inv hf
        obtain ⟨g19, hc20, hf⟩ := hf
        refine r_cvV (ws' := [(h_this, ob 9 [.ref h_this_s, .ref h_this_kept, .ref h_this_laid, .int x_this_isKept, .ref h_this_pile, .ref h_this_tape, .int x_this_taped, .ref h_this_letters, .int x_this_at, .int x_this_begun, .int x_this_token, .int x_this_value, .int x_this_opened, .int x_this_steps, .ref h_this_code0, .ref h_this_read, .ref h_this_saved, .ref h_this_plan, .ref h_this_bestPlan, .int y_this_most, .int y_this_many, .int y_this_few, .int y_this_everHome, .ref h_this_offThen, .ref h_this_paidThen, .int x_this_firstFit, .ref h_this_rows, .int y_this_rowMany, .ref h_this_sorts, .ref h_this_sizes, .ref h_this_number, .ref h_this_holds, .ref h_this_heldOne, .ref h_this_trace, .int x_this_traced, .int x_this_own, .int x_this_isParted]), (h_this_bestPlan, ia G 4 g_this_bestPlan), (h_this_laid, ia G 65 g_this_laid), (h_this_pile, ia G 200 g_this_pile), (h_this_plan, ia G 4 g_this_plan), (h_this_rows, ia G 12 g_this_rows), (h_this_s, ia G 313 g19), (h_this_saved, ia G 325 g_this_saved)]) C h (c_X9_layBack hc20) mv_X9_247 rfl 0 rfl [0, 2, 6] rfl rfl [6] [(h_this_s, ia G 313 g19)] rfl rfl (by decide +kernel) rfl hl.1 rfl (Nat.le_of_ble_eq_true rfl) (rok (by decide)) dX9_prove_94 (fun H locs h => ?_)
        refine lv_aload_n hx hb dX9_prove_97 rfl (lv_at hl 0 rfl) ?_
        refine r_get C h fk_X9_320 0 rfl rfl dX9_prove_98 ?_
        obtain ⟨rfl, rfl, rfl, rfl, rfl, rfl, rfl, rfl, rfl, rfl, rfl, rfl, rfl⟩ := sm13 hf
        exact r_iret C h hr hlk rfl dX9_prove_101
      · replace hf := ifn c18 hf
        refine lv_aload_n hx hb dX9_prove_38 rfl (lv_at hl 0 rfl) ?_
        refine r_get C h fk_X9_50 0 rfl rfl dX9_prove_39 ?_
        refine lv_iconst (v := (3 : Int32)) hx hb dX9_prove_42 rfl ?_
        refine lv_iload_n hx hb dX9_prove_43 rfl (lv_at hl 1 rfl) ?_
        refine lv_imul hx hb dX9_prove_44 ?_
        refine lv_aload_n hx hb dX9_prove_45 rfl (lv_at hl 0 rfl) ?_
        refine r_get C h fk_X9_41 0 rfl rfl dX9_prove_46 ?_
        refine lv_iload_n hx hb dX9_prove_49 rfl (lv_at hl 1 rfl) ?_
        replace hf := chkI_inv hf
        obtain ⟨hi21, hf⟩ := hf
        refine r_iald C h 1 rfl hi21 dX9_prove_50 ?_
        refine lv_topi (fun t22 et22 => ?_)
        replace hf := lt1_inv et22 hf
        replace hf := chkI_inv hf
        obtain ⟨hi23, hf⟩ := hf
        refine r_iast (ws' := [(h_this, ob 9 [.ref h_this_s, .ref h_this_kept, .ref h_this_laid, .int x_this_isKept, .ref h_this_pile, .ref h_this_tape, .int x_this_taped, .ref h_this_letters, .int x_this_at, .int x_this_begun, .int x_this_token, .int x_this_value, .int x_this_opened, .int x_this_steps, .ref h_this_code0, .ref h_this_read, .ref h_this_saved, .ref h_this_plan, .ref h_this_bestPlan, .int y_this_most, .int y_this_many, .int y_this_few, .int y_this_everHome, .ref h_this_offThen, .ref h_this_paidThen, .int x_this_firstFit, .ref h_this_rows, .int y_this_rowMany, .ref h_this_sorts, .ref h_this_sizes, .ref h_this_number, .ref h_this_holds, .ref h_this_heldOne, .ref h_this_trace, .int x_this_traced, .int x_this_own, .int x_this_isParted]), (h_this_bestPlan, ia G 4 g_this_bestPlan), (h_this_laid, ia G 65 g_this_laid), (h_this_pile, ia G 200 g_this_pile), (h_this_plan, ia G 4 g_this_plan), (h_this_rows, ia G 12 (upd g_this_rows ((3 : Int32) * v2).toNatClampNeg t22)), (h_this_s, ia G 313 g_this_s), (h_this_saved, ia G 325 g_this_saved)]) C h 5 rfl hi23 dX9_prove_51 rfl (fun H locs h => ?_)
        refine lv_aload_n hx hb dX9_prove_52 rfl (lv_at hl 0 rfl) ?_
        refine r_get C h fk_X9_50 0 rfl rfl dX9_prove_53 ?_
        refine lv_iconst (v := (3 : Int32)) hx hb dX9_prove_56 rfl ?_
        refine lv_iload_n hx hb dX9_prove_57 rfl (lv_at hl 1 rfl) ?_
        refine lv_imul hx hb dX9_prove_58 ?_
        refine lv_iconst (v := (1 : Int32)) hx hb dX9_prove_59 rfl ?_
        refine lv_iadd hx hb dX9_prove_60 ?_
        refine lv_aload_n hx hb dX9_prove_61 rfl (lv_at hl 0 rfl) ?_
        refine lv_aload_n hx hb dX9_prove_62 rfl (lv_at hl 0 rfl) ?_
        refine r_get C h fk_X9_41 0 rfl rfl dX9_prove_63 ?_
        refine lv_iload_n hx hb dX9_prove_66 rfl (lv_at hl 1 rfl) ?_
        replace hf := chkI_inv hf
        obtain ⟨hi24, hf⟩ := hf
        refine r_iald C h 1 rfl hi24 dX9_prove_67 ?_
        replace hf := bd3_inv hf
        obtain ⟨r25, g26, g27, hc28, hf⟩ := hf
        refine r_ciV (ws' := [(h_this, ob 9 [.ref h_this_s, .ref h_this_kept, .ref h_this_laid, .int x_this_isKept, .ref h_this_pile, .ref h_this_tape, .int x_this_taped, .ref h_this_letters, .int x_this_at, .int x_this_begun, .int x_this_token, .int x_this_value, .int x_this_opened, .int x_this_steps, .ref h_this_code0, .ref h_this_read, .ref h_this_saved, .ref h_this_plan, .ref h_this_bestPlan, .int y_this_most, .int y_this_many, .int y_this_few, .int y_this_everHome, .ref h_this_offThen, .ref h_this_paidThen, .int x_this_firstFit, .ref h_this_rows, .int y_this_rowMany, .ref h_this_sorts, .ref h_this_sizes, .ref h_this_number, .ref h_this_holds, .ref h_this_heldOne, .ref h_this_trace, .int x_this_traced, .int x_this_own, .int x_this_isParted]), (h_this_bestPlan, ia G 4 g_this_bestPlan), (h_this_laid, ia G 65 g_this_laid), (h_this_pile, ia G 200 g26), (h_this_plan, ia G 4 g_this_plan), (h_this_rows, ia G 12 (upd g_this_rows ((3 : Int32) * v2).toNatClampNeg t22)), (h_this_s, ia G 313 g27), (h_this_saved, ia G 325 g_this_saved)]) C h (c_X9_goesBy hc28) mv_X9_238 rfl 0 rfl [0, 3, 6] rfl rfl [3, 6] [(h_this_pile, ia G 200 g26), (h_this_s, ia G 313 g27)] rfl rfl (by decide +kernel) rfl hl.1 rfl (Nat.le_of_ble_eq_true rfl) (rok (by decide)) dX9_prove_68 (fun H locs h => ?_)
        replace hf := chkI_inv hf
        obtain ⟨hi29, hf⟩ := hf
        refine r_iast (ws' := [(h_this, ob 9 [.ref h_this_s, .ref h_this_kept, .ref h_this_laid, .int x_this_isKept, .ref h_this_pile, .ref h_this_tape, .int x_this_taped, .ref h_this_letters, .int x_this_at, .int x_this_begun, .int x_this_token, .int x_this_value, .int x_this_opened, .int x_this_steps, .ref h_this_code0, .ref h_this_read, .ref h_this_saved, .ref h_this_plan, .ref h_this_bestPlan, .int y_this_most, .int y_this_many, .int y_this_few, .int y_this_everHome, .ref h_this_offThen, .ref h_this_paidThen, .int x_this_firstFit, .ref h_this_rows, .int y_this_rowMany, .ref h_this_sorts, .ref h_this_sizes, .ref h_this_number, .ref h_this_holds, .ref h_this_heldOne, .ref h_this_trace, .int x_this_traced, .int x_this_own, .int x_this_isParted]), (h_this_bestPlan, ia G 4 g_this_bestPlan), (h_this_laid, ia G 65 g_this_laid), (h_this_pile, ia G 200 g26), (h_this_plan, ia G 4 g_this_plan), (h_this_rows, ia G 12 (upd (upd g_this_rows ((3 : Int32) * v2).toNatClampNeg t22) (((3 : Int32) * v2) + (1 : Int32)).toNatClampNeg r25)), (h_this_s, ia G 313 g27), (h_this_saved, ia G 325 g_this_saved)]) C h 5 rfl hi29 dX9_prove_71 rfl (fun H locs h => ?_)
        refine lv_aload_n hx hb dX9_prove_72 rfl (lv_at hl 0 rfl) ?_
        refine r_get C h fk_X9_50 0 rfl rfl dX9_prove_73 ?_
        refine lv_iconst (v := (3 : Int32)) hx hb dX9_prove_76 rfl ?_
        refine lv_iload_n hx hb dX9_prove_77 rfl (lv_at hl 1 rfl) ?_
        refine lv_imul hx hb dX9_prove_78 ?_
        refine lv_iconst (v := (2 : Int32)) hx hb dX9_prove_79 rfl ?_
        refine lv_iadd hx hb dX9_prove_80 ?_
        refine lv_aload_n hx hb dX9_prove_81 rfl (lv_at hl 0 rfl) ?_
        refine lv_iconst (v := (4 : Int32)) hx hb dX9_prove_82 rfl ?_
        replace hf := bd1_inv hf
        obtain ⟨r30, hc31, hf⟩ := hf
        refine r_ciV0 C h (c_X9_those hc31) mv_X9_235 rfl 0 rfl [0, 6] rfl rfl hl.1 rfl (Nat.le_of_ble_eq_true rfl) (rok (by decide)) dX9_prove_83 (fun H locs h => ?_)
        replace hf := chkI_inv hf
        obtain ⟨hi32, hf⟩ := hf
        refine r_iast (ws' := [(h_this, ob 9 [.ref h_this_s, .ref h_this_kept, .ref h_this_laid, .int x_this_isKept, .ref h_this_pile, .ref h_this_tape, .int x_this_taped, .ref h_this_letters, .int x_this_at, .int x_this_begun, .int x_this_token, .int x_this_value, .int x_this_opened, .int x_this_steps, .ref h_this_code0, .ref h_this_read, .ref h_this_saved, .ref h_this_plan, .ref h_this_bestPlan, .int y_this_most, .int y_this_many, .int y_this_few, .int y_this_everHome, .ref h_this_offThen, .ref h_this_paidThen, .int x_this_firstFit, .ref h_this_rows, .int y_this_rowMany, .ref h_this_sorts, .ref h_this_sizes, .ref h_this_number, .ref h_this_holds, .ref h_this_heldOne, .ref h_this_trace, .int x_this_traced, .int x_this_own, .int x_this_isParted]), (h_this_bestPlan, ia G 4 g_this_bestPlan), (h_this_laid, ia G 65 g_this_laid), (h_this_pile, ia G 200 g26), (h_this_plan, ia G 4 g_this_plan), (h_this_rows, ia G 12 (upd (upd (upd g_this_rows ((3 : Int32) * v2).toNatClampNeg t22) (((3 : Int32) * v2) + (1 : Int32)).toNatClampNeg r25) (((3 : Int32) * v2) + (2 : Int32)).toNatClampNeg r30)), (h_this_s, ia G 313 g27), (h_this_saved, ia G 325 g_this_saved)]) C h 5 rfl hi32 dX9_prove_86 rfl (fun H locs h => ?_)
        obtain ⟨t33, et33⟩ : ∃ y : Int32, y = v2 + (1 : Int32) := ⟨_, rfl⟩
        replace hf := lt1_inv et33 hf
        refine lv_iinc (v := t33) (lv' := [(2, .int t33), (0, .ref h_this)]) hx hb dX9_prove_87 hl (k := 1) rfl (by rw [et33]; rfl) (by decide) rfl (fun ls hl => ?_)
        refine lv_goto (tgt := 30) hx hb dX9_prove_90 rfl ?_
        exact hK2 _ _ _ _ (ih t33 y_this_most y_this_many y_this_few y_this_everHome y_this_rowMany g_this_bestPlan g_this_laid g26 g_this_plan (upd (upd (upd g_this_rows ((3 : Int32) * v2).toNatClampNeg t22) (((3 : Int32) * v2) + (1 : Int32)).toNatClampNeg r25) (((3 : Int32) * v2) + (2 : Int32)).toNatClampNeg r30) g27 g_this_saved hf) _ _ _ h (lv_sub hl [1, 0] rfl)
  refine lv_iload_n hx hb dX9_prove_0 rfl (lv_at hl 1 rfl) ?_
  replace hf := bd1_inv hf
  obtain ⟨r1, hc2, hf⟩ := hf
  refine r_ciS0 C h (c_X9_isPlan hc2) ms_X9_291 rfl [] rfl rfl hl.1 rfl (Nat.le_of_ble_eq_true rfl) (rok (by decide)) dX9_prove_1 (fun H locs h => ?_)
  refine lv_if_ne (tgt := 9) hx hb dX9_prove_4 rfl (fun c3 => ?_) (fun c3 => ?_)
  · replace hf := ifn c3 hf
    refine lv_aload_n hx hb dX9_prove_9 rfl (lv_at hl 0 rfl) ?_
    refine lv_iload_n hx hb dX9_prove_10 rfl (lv_at hl 1 rfl) ?_
    refine lv_iconst (v := (0 : Int32)) hx hb dX9_prove_11 rfl ?_
    replace hf := bd9_inv hf
    obtain ⟨y4, y5, y6, y7, g8, g9, g10, g11, g12, hc13, hf⟩ := hf
    refine r_cvV (ws' := [(h_this, ob 9 [.ref h_this_s, .ref h_this_kept, .ref h_this_laid, .int x_this_isKept, .ref h_this_pile, .ref h_this_tape, .int x_this_taped, .ref h_this_letters, .int x_this_at, .int x_this_begun, .int x_this_token, .int x_this_value, .int x_this_opened, .int x_this_steps, .ref h_this_code0, .ref h_this_read, .ref h_this_saved, .ref h_this_plan, .ref h_this_bestPlan, .int y4, .int y5, .int y6, .int y7, .ref h_this_offThen, .ref h_this_paidThen, .int x_this_firstFit, .ref h_this_rows, .int x_this_rowMany, .ref h_this_sorts, .ref h_this_sizes, .ref h_this_number, .ref h_this_holds, .ref h_this_heldOne, .ref h_this_trace, .int x_this_traced, .int x_this_own, .int x_this_isParted]), (h_this_bestPlan, ia G 4 g8), (h_this_laid, ia G 65 f_this_laid), (h_this_pile, ia G 200 g9), (h_this_plan, ia G 4 g10), (h_this_rows, ia G 12 f_this_rows), (h_this_s, ia G 313 g11), (h_this_saved, ia G 325 g12)]) C h (c_X9_triesAll hc13) mv_X9_294 rfl 0 rfl [0, 1, 3, 4, 6, 7] rfl rfl [0, 1, 3, 4, 6, 7] [(h_this, ob 9 [.ref h_this_s, .ref h_this_kept, .ref h_this_laid, .int x_this_isKept, .ref h_this_pile, .ref h_this_tape, .int x_this_taped, .ref h_this_letters, .int x_this_at, .int x_this_begun, .int x_this_token, .int x_this_value, .int x_this_opened, .int x_this_steps, .ref h_this_code0, .ref h_this_read, .ref h_this_saved, .ref h_this_plan, .ref h_this_bestPlan, .int y4, .int y5, .int y6, .int y7, .ref h_this_offThen, .ref h_this_paidThen, .int x_this_firstFit, .ref h_this_rows, .int x_this_rowMany, .ref h_this_sorts, .ref h_this_sizes, .ref h_this_number, .ref h_this_holds, .ref h_this_heldOne, .ref h_this_trace, .int x_this_traced, .int x_this_own, .int x_this_isParted]), (h_this_bestPlan, ia G 4 g8), (h_this_pile, ia G 200 g9), (h_this_plan, ia G 4 g10), (h_this_s, ia G 313 g11), (h_this_saved, ia G 325 g12)] rfl rfl (by decide +kernel) rfl hl.1 rfl (Nat.le_of_ble_eq_true rfl) (rok (by decide)) dX9_prove_12 (fun H locs h => ?_)
    refine lv_aload_n hx hb dX9_prove_15 rfl (lv_at hl 0 rfl) ?_
    refine lv_aload_n hx hb dX9_prove_16 rfl (lv_at hl 0 rfl) ?_
    refine lv_iload_n hx hb dX9_prove_17 rfl (lv_at hl 1 rfl) ?_
    replace hf := bd1_inv hf
    obtain ⟨r14, hc15, hf⟩ := hf
    refine r_ciV0 C h (c_X9_daysOf hc15) mv_X9_288 rfl 0 rfl [0, 6] rfl rfl hl.1 rfl (Nat.le_of_ble_eq_true rfl) (rok (by decide)) dX9_prove_18 (fun H locs h => ?_)
    refine r_put (ws' := [(h_this, ob 9 [.ref h_this_s, .ref h_this_kept, .ref h_this_laid, .int x_this_isKept, .ref h_this_pile, .ref h_this_tape, .int x_this_taped, .ref h_this_letters, .int x_this_at, .int x_this_begun, .int x_this_token, .int x_this_value, .int x_this_opened, .int x_this_steps, .ref h_this_code0, .ref h_this_read, .ref h_this_saved, .ref h_this_plan, .ref h_this_bestPlan, .int y4, .int y5, .int y6, .int y7, .ref h_this_offThen, .ref h_this_paidThen, .int x_this_firstFit, .ref h_this_rows, .int r14, .ref h_this_sorts, .ref h_this_sizes, .ref h_this_number, .ref h_this_holds, .ref h_this_heldOne, .ref h_this_trace, .int x_this_traced, .int x_this_own, .int x_this_isParted]), (h_this_bestPlan, ia G 4 g8), (h_this_laid, ia G 65 f_this_laid), (h_this_pile, ia G 200 g9), (h_this_plan, ia G 4 g10), (h_this_rows, ia G 12 f_this_rows), (h_this_s, ia G 313 g11), (h_this_saved, ia G 325 g12)]) C h fw_X9_320 0 rfl rfl rfl (Nat.le_of_ble_eq_true rfl) dX9_prove_21 rfl (fun H locs h => ?_)
    refine lv_aload_n hx hb dX9_prove_24 rfl (lv_at hl 0 rfl) ?_
    replace hf := bd1_inv hf
    obtain ⟨g16, hc17, hf⟩ := hf
    refine r_cvV (ws' := [(h_this, ob 9 [.ref h_this_s, .ref h_this_kept, .ref h_this_laid, .int x_this_isKept, .ref h_this_pile, .ref h_this_tape, .int x_this_taped, .ref h_this_letters, .int x_this_at, .int x_this_begun, .int x_this_token, .int x_this_value, .int x_this_opened, .int x_this_steps, .ref h_this_code0, .ref h_this_read, .ref h_this_saved, .ref h_this_plan, .ref h_this_bestPlan, .int y4, .int y5, .int y6, .int y7, .ref h_this_offThen, .ref h_this_paidThen, .int x_this_firstFit, .ref h_this_rows, .int r14, .ref h_this_sorts, .ref h_this_sizes, .ref h_this_number, .ref h_this_holds, .ref h_this_heldOne, .ref h_this_trace, .int x_this_traced, .int x_this_own, .int x_this_isParted]), (h_this_bestPlan, ia G 4 g8), (h_this_laid, ia G 65 g16), (h_this_pile, ia G 200 g9), (h_this_plan, ia G 4 g10), (h_this_rows, ia G 12 f_this_rows), (h_this_s, ia G 313 g11), (h_this_saved, ia G 325 g12)]) C h (c_X9_layDown hc17) mv_X9_241 rfl 0 rfl [0, 2, 6] rfl rfl [2] [(h_this_laid, ia G 65 g16)] rfl rfl (by decide +kernel) rfl hl.1 rfl (Nat.le_of_ble_eq_true rfl) (rok (by decide)) dX9_prove_25 (fun H locs h => ?_)
    refine lv_iconst (v := (0 : Int32)) hx hb dX9_prove_28 rfl ?_
    refine lv_istore_n (lv' := [(2, .int (0 : Int32)), (0, .ref h_this), (1, .int p0)]) hx hb dX9_prove_29 rfl hl (by decide) rfl (fun ls hl => ?_)
    exact hK2 _ _ _ _ (L30 1000 (0 : Int32) y4 y5 y6 y7 r14 g8 g16 g9 g10 f_this_rows g11 g12 hf) _ _ _ h (lv_sub hl [1, 0] rfl)
  · replace hf := ifp c3 hf
    refine lv_iconst (v := (-1 : Int32)) hx hb dX9_prove_7 rfl ?_
    clear L30 hK2 hK1
    obtain ⟨rfl, rfl, rfl, rfl, rfl, rfl, rfl, rfl, rfl, rfl, rfl, rfl, rfl⟩ := sm13 hf
    exact r_iret C h hr hlk rfl dX9_prove_8
