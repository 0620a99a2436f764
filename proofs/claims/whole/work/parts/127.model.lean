def f_X9_readsRule_b59 (p0 : Int32) (x_this_taped : Int32) (f_this_letters : Nat → Int32) (f_this_tape : Nat → Int32) (y_this_at : Int32) (y_this_begun : Int32) (y_this_token : Int32) (y_this_value : Int32) (y_this_opened : Int32) (y_this_steps : Int32) (g_this_code0 : Nat → Int32) (g_this_read : Nat → Int32) : Option (Int32 × Int32 × Int32 × Int32 × Int32 × Int32 × Int32 × (Nat → Int32) × (Nat → Int32)) := bd1 (f_X9_in1 y_this_token (6 : Int32) (8 : Int32)) (fun r18 => (if r18 = 0 then some ((0 : Int32), y_this_at, y_this_begun, y_this_token, y_this_value, y_this_opened, y_this_steps, g_this_code0, g_this_read) else lt1 (y_this_token - (6 : Int32)) (fun (t21 : Int32) => chkI (((3 : Int32) * p0) + (1 : Int32)) 24 (chkI (((3 : Int32) * p0) + (2 : Int32)) 24 (bd4 (f_X9_next x_this_taped y_this_at y_this_value f_this_letters f_this_tape) (fun y24 y25 y26 y27 => bd5 (f_X9_takes (259 : Int32) x_this_taped y24 y25 y26 y27 f_this_letters f_this_tape) (fun r29 y30 y31 y32 y33 => chkB r29 (some (r29, y30, y31, y32, y33, y_this_opened, y_this_steps, g_this_code0, upd (upd g_this_read (((3 : Int32) * p0) + (1 : Int32)).toNatClampNeg t21) (((3 : Int32) * p0) + (2 : Int32)).toNatClampNeg y_this_steps)))))))))
def f_X9_readsRule (p0 : Int32) (x_this_taped : Int32) (x_this_at : Int32) (x_this_begun : Int32) (x_this_token : Int32) (x_this_value : Int32) (x_this_opened : Int32) (x_this_steps : Int32) (f_this_code0 : Nat → Int32) (f_this_letters : Nat → Int32) (f_this_read : Nat → Int32) (f_this_tape : Nat → Int32) : Option (Int32 × Int32 × Int32 × Int32 × Int32 × Int32 × Int32 × (Nat → Int32) × (Nat → Int32)) := (if p0 = (8 : Int32) then some ((0 : Int32), x_this_at, x_this_begun, x_this_token, x_this_value, x_this_opened, x_this_steps, f_this_code0, f_this_read) else bd1 (f_X9_in1 x_this_token (0 : Int32) (5 : Int32)) (fun r2 => (if r2 = 0 then some ((0 : Int32), x_this_at, x_this_begun, x_this_token, x_this_value, x_this_opened, x_this_steps, f_this_code0, f_this_read) else chkI ((3 : Int32) * p0) 24 (bd4 (f_X9_next x_this_taped x_this_at x_this_value f_this_letters f_this_tape) (fun y6 y7 y8 y9 => bd5 (f_X9_takes (9 : Int32) x_this_taped y6 y7 y8 y9 f_this_letters f_this_tape) (fun r11 y12 y13 y14 y15 => (if r11 = 0 then f_X9_readsRule_b59 p0 x_this_taped f_this_letters f_this_tape y12 y13 y14 y15 (0 : Int32) x_this_steps f_this_code0 (upd f_this_read ((3 : Int32) * p0).toNatClampNeg x_this_token) else bd8 (F_X9_readsCondition 6 x_this_taped y12 y13 y14 y15 (0 : Int32) x_this_steps f_this_code0 f_this_letters f_this_tape) (fun r36 y37 y38 y39 y40 y41 y42 g43 => (if r36 = 0 then some ((0 : Int32), y37, y38, y39, y40, y41, y42, g43, upd f_this_read ((3 : Int32) * p0).toNatClampNeg x_this_token) else f_X9_readsRule_b59 p0 x_this_taped f_this_letters f_this_tape y37 y38 y39 y40 y41 y42 g43 (upd f_this_read ((3 : Int32) * p0).toNatClampNeg x_this_token))))))))))
set_option maxRecDepth 100000 in
set_option maxHeartbeats 4000000 in
theorem c_X9_readsRule {l : Launch} {G : Gt} {h_this h_this_s h_this_kept h_this_laid h_this_pile h_this_tape h_this_letters h_this_code0 h_this_read h_this_saved h_this_plan h_this_bestPlan h_this_offThen h_this_paidThen h_this_rows h_this_sorts h_this_sizes h_this_number h_this_holds h_this_heldOne h_this_trace : Nat} {p0 : Int32} {x_this_isKept : Int32} {x_this_taped : Int32} {x_this_at : Int32} {x_this_begun : Int32} {x_this_token : Int32} {x_this_value : Int32} {x_this_opened : Int32} {x_this_steps : Int32} {x_this_most : Int32} {x_this_many : Int32} {x_this_few : Int32} {x_this_everHome : Int32} {x_this_firstFit : Int32} {x_this_rowMany : Int32} {x_this_traced : Int32} {x_this_own : Int32} {x_this_isParted : Int32} {f_this_code0 : Nat → Int32} {f_this_letters : Nat → Int32} {f_this_read : Nat → Int32} {f_this_tape : Nat → Int32} {r : Int32} {m_this_at : Int32} {m_this_begun : Int32} {m_this_token : Int32} {m_this_value : Int32} {m_this_opened : Int32} {m_this_steps : Int32} {m_this_code0 : Nat → Int32} {m_this_read : Nat → Int32} (hf : f_X9_readsRule p0 x_this_taped x_this_at x_this_begun x_this_token x_this_value x_this_opened x_this_steps f_this_code0 f_this_letters f_this_read f_this_tape = some (r, m_this_at, m_this_begun, m_this_token, m_this_value, m_this_opened, m_this_steps, m_this_code0, m_this_read)) : mFi l G yX9_readsRule cX9_readsRule 2 .boolean 49 [.ref h_this, .int p0] [(h_this, ob 9 [.ref h_this_s, .ref h_this_kept, .ref h_this_laid, .int x_this_isKept, .ref h_this_pile, .ref h_this_tape, .int x_this_taped, .ref h_this_letters, .int x_this_at, .int x_this_begun, .int x_this_token, .int x_this_value, .int x_this_opened, .int x_this_steps, .ref h_this_code0, .ref h_this_read, .ref h_this_saved, .ref h_this_plan, .ref h_this_bestPlan, .int x_this_most, .int x_this_many, .int x_this_few, .int x_this_everHome, .ref h_this_offThen, .ref h_this_paidThen, .int x_this_firstFit, .ref h_this_rows, .int x_this_rowMany, .ref h_this_sorts, .ref h_this_sizes, .ref h_this_number, .ref h_this_holds, .ref h_this_heldOne, .ref h_this_trace, .int x_this_traced, .int x_this_own, .int x_this_isParted]), (h_this_code0, ia G 200 f_this_code0), (h_this_letters, ca G 144 f_this_letters), (h_this_read, ia G 24 f_this_read), (h_this_tape, ia G 200 f_this_tape)] r [(h_this, ob 9 [.ref h_this_s, .ref h_this_kept, .ref h_this_laid, .int x_this_isKept, .ref h_this_pile, .ref h_this_tape, .int x_this_taped, .ref h_this_letters, .int m_this_at, .int m_this_begun, .int m_this_token, .int m_this_value, .int m_this_opened, .int m_this_steps, .ref h_this_code0, .ref h_this_read, .ref h_this_saved, .ref h_this_plan, .ref h_this_bestPlan, .int x_this_most, .int x_this_many, .int x_this_few, .int x_this_everHome, .ref h_this_offThen, .ref h_this_paidThen, .int x_this_firstFit, .ref h_this_rows, .int x_this_rowMany, .ref h_this_sorts, .ref h_this_sizes, .ref h_this_number, .ref h_this_holds, .ref h_this_heldOne, .ref h_this_trace, .int x_this_traced, .int x_this_own, .int x_this_isParted]), (h_this_code0, ia G 200 m_this_code0), (h_this_letters, ca G 144 f_this_letters), (h_this_read, ia G 24 m_this_read), (h_this_tape, ia G 200 f_this_tape)] := by
  refine mFi.of (by decide +kernel) (Nat.le_of_ble_eq_true rfl) ?_
  intro p e s m below meth c A C hr hlk h ls hl
  obtain ⟨hx, hb, hml, hown, hts⟩ := id C
  replace hl : lv_has ls 2 [(0, .ref h_this), (1, .int p0)] := hl
  unfold f_X9_readsRule at hf
  refine with_K G A 2 (fun K hK1 hK2 => ?_)
  have B59 : ∀ (y_this_at : Int32) (y_this_begun : Int32) (y_this_token : Int32) (y_this_value : Int32) (y_this_opened : Int32) (y_this_steps : Int32) (g_this_code0 : Nat → Int32) (g_this_read : Nat → Int32), f_X9_readsRule_b59 p0 x_this_taped f_this_letters f_this_tape y_this_at y_this_begun y_this_token y_this_value y_this_opened y_this_steps g_this_code0 g_this_read = some (r, m_this_at, m_this_begun, m_this_token, m_this_value, m_this_opened, m_this_steps, m_this_code0, m_this_read) → K 59 ([] : List Value) [(h_this, ob 9 [.ref h_this_s, .ref h_this_kept, .ref h_this_laid, .int x_this_isKept, .ref h_this_pile, .ref h_this_tape, .int x_this_taped, .ref h_this_letters, .int y_this_at, .int y_this_begun, .int y_this_token, .int y_this_value, .int y_this_opened, .int y_this_steps, .ref h_this_code0, .ref h_this_read, .ref h_this_saved, .ref h_this_plan, .ref h_this_bestPlan, .int x_this_most, .int x_this_many, .int x_this_few, .int x_this_everHome, .ref h_this_offThen, .ref h_this_paidThen, .int x_this_firstFit, .ref h_this_rows, .int x_this_rowMany, .ref h_this_sorts, .ref h_this_sizes, .ref h_this_number, .ref h_this_holds, .ref h_this_heldOne, .ref h_this_trace, .int x_this_traced, .int x_this_own, .int x_this_isParted]), (h_this_code0, ia G 200 g_this_code0), (h_this_letters, ca G 144 f_this_letters), (h_this_read, ia G 24 g_this_read), (h_this_tape, ia G 200 f_this_tape)] [(0, .ref h_this), (1, .int p0)] := by
    intro y_this_at y_this_begun y_this_token y_this_value y_this_opened y_this_steps g_this_code0 g_this_read hf
    unfold f_X9_readsRule_b59 at hf
    refine hK1 _ _ _ _ (fun H locs ls h hl => ?_)
    refine lv_aload_n hx hb dX9_readsRule_59 rfl (lv_at hl 0 rfl) ?_
    refine r_get C h fk_X9_140 0 rfl rfl dX9_readsRule_60 ?_
    refine lv_bipush (v := (6 : Int32)) hx hb dX9_readsRule_63 rfl ?_
    refine lv_bipush (v := (8 : Int32)) hx hb dX9_readsRule_65 rfl ?_
    replace hf := bd1_inv hf
    obtain ⟨r18, hc19, hf⟩ := hf
    refine r_ciS0 C h (c_X9_in1 hc19) ms_X9_71 rfl [] rfl rfl hl.1 rfl (Nat.le_of_ble_eq_true rfl) (rok (by decide)) dX9_readsRule_67 (fun H locs h => ?_)
    refine lv_if_ne (tgt := 75) hx hb dX9_readsRule_70 rfl (fun c20 => ?_) (fun c20 => ?_)
    · replace hf := ifn c20 hf
      refine lv_aload_n hx hb dX9_readsRule_75 rfl (lv_at hl 0 rfl) ?_
      refine r_get C h fk_X9_32 0 rfl rfl dX9_readsRule_76 ?_
      refine lv_iconst (v := (3 : Int32)) hx hb dX9_readsRule_79 rfl ?_
      refine lv_iload_n hx hb dX9_readsRule_80 rfl (lv_at hl 1 rfl) ?_
      refine lv_imul hx hb dX9_readsRule_81 ?_
      refine lv_iconst (v := (1 : Int32)) hx hb dX9_readsRule_82 rfl ?_
      refine lv_iadd hx hb dX9_readsRule_83 ?_
      refine lv_aload_n hx hb dX9_readsRule_84 rfl (lv_at hl 0 rfl) ?_
      refine r_get C h fk_X9_140 0 rfl rfl dX9_readsRule_85 ?_
      refine lv_bipush (v := (6 : Int32)) hx hb dX9_readsRule_88 rfl ?_
      refine lv_isub hx hb dX9_readsRule_90 ?_
      refine lv_topi (fun t21 et21 => ?_)
      replace hf := lt1_inv et21 hf
      replace hf := chkI_inv hf
      obtain ⟨hi22, hf⟩ := hf
      refine r_iast (ws' := [(h_this, ob 9 [.ref h_this_s, .ref h_this_kept, .ref h_this_laid, .int x_this_isKept, .ref h_this_pile, .ref h_this_tape, .int x_this_taped, .ref h_this_letters, .int y_this_at, .int y_this_begun, .int y_this_token, .int y_this_value, .int y_this_opened, .int y_this_steps, .ref h_this_code0, .ref h_this_read, .ref h_this_saved, .ref h_this_plan, .ref h_this_bestPlan, .int x_this_most, .int x_this_many, .int x_this_few, .int x_this_everHome, .ref h_this_offThen, .ref h_this_paidThen, .int x_this_firstFit, .ref h_this_rows, .int x_this_rowMany, .ref h_this_sorts, .ref h_this_sizes, .ref h_this_number, .ref h_this_holds, .ref h_this_heldOne, .ref h_this_trace, .int x_this_traced, .int x_this_own, .int x_this_isParted]), (h_this_code0, ia G 200 g_this_code0), (h_this_letters, ca G 144 f_this_letters), (h_this_read, ia G 24 (upd g_this_read (((3 : Int32) * p0) + (1 : Int32)).toNatClampNeg t21)), (h_this_tape, ia G 200 f_this_tape)]) C h 3 rfl hi22 dX9_readsRule_91 rfl (fun H locs h => ?_)
      refine lv_aload_n hx hb dX9_readsRule_92 rfl (lv_at hl 0 rfl) ?_
      refine r_get C h fk_X9_32 0 rfl rfl dX9_readsRule_93 ?_
      refine lv_iconst (v := (3 : Int32)) hx hb dX9_readsRule_96 rfl ?_
      refine lv_iload_n hx hb dX9_readsRule_97 rfl (lv_at hl 1 rfl) ?_
      refine lv_imul hx hb dX9_readsRule_98 ?_
      refine lv_iconst (v := (2 : Int32)) hx hb dX9_readsRule_99 rfl ?_
      refine lv_iadd hx hb dX9_readsRule_100 ?_
      refine lv_aload_n hx hb dX9_readsRule_101 rfl (lv_at hl 0 rfl) ?_
      refine r_get C h fk_X9_158 0 rfl rfl dX9_readsRule_102 ?_
      replace hf := chkI_inv hf
      obtain ⟨hi23, hf⟩ := hf
      refine r_iast (ws' := [(h_this, ob 9 [.ref h_this_s, .ref h_this_kept, .ref h_this_laid, .int x_this_isKept, .ref h_this_pile, .ref h_this_tape, .int x_this_taped, .ref h_this_letters, .int y_this_at, .int y_this_begun, .int y_this_token, .int y_this_value, .int y_this_opened, .int y_this_steps, .ref h_this_code0, .ref h_this_read, .ref h_this_saved, .ref h_this_plan, .ref h_this_bestPlan, .int x_this_most, .int x_this_many, .int x_this_few, .int x_this_everHome, .ref h_this_offThen, .ref h_this_paidThen, .int x_this_firstFit, .ref h_this_rows, .int x_this_rowMany, .ref h_this_sorts, .ref h_this_sizes, .ref h_this_number, .ref h_this_holds, .ref h_this_heldOne, .ref h_this_trace, .int x_this_traced, .int x_this_own, .int x_this_isParted]), (h_this_code0, ia G 200 g_this_code0), (h_this_letters, ca G 144 f_this_letters), (h_this_read, ia G 24 (upd (upd g_this_read (((3 : Int32) * p0) + (1 : Int32)).toNatClampNeg t21) (((3 : Int32) * p0) + (2 : Int32)).toNatClampNeg y_this_steps)), (h_this_tape, ia G 200 f_this_tape)]) C h 3 rfl hi23 dX9_readsRule_105 rfl (fun H locs h => ?_)
      refine lv_aload_n hx hb dX9_readsRule_106 rfl (lv_at hl 0 rfl) ?_
      replace hf := bd4_inv hf
      obtain ⟨y24, y25, y26, y27, hc28, hf⟩ := hf
      refine r_cvV (ws' := [(h_this, ob 9 [.ref h_this_s, .ref h_this_kept, .ref h_this_laid, .int x_this_isKept, .ref h_this_pile, .ref h_this_tape, .int x_this_taped, .ref h_this_letters, .int y24, .int y25, .int y26, .int y27, .int y_this_opened, .int y_this_steps, .ref h_this_code0, .ref h_this_read, .ref h_this_saved, .ref h_this_plan, .ref h_this_bestPlan, .int x_this_most, .int x_this_many, .int x_this_few, .int x_this_everHome, .ref h_this_offThen, .ref h_this_paidThen, .int x_this_firstFit, .ref h_this_rows, .int x_this_rowMany, .ref h_this_sorts, .ref h_this_sizes, .ref h_this_number, .ref h_this_holds, .ref h_this_heldOne, .ref h_this_trace, .int x_this_traced, .int x_this_own, .int x_this_isParted]), (h_this_code0, ia G 200 g_this_code0), (h_this_letters, ca G 144 f_this_letters), (h_this_read, ia G 24 (upd (upd g_this_read (((3 : Int32) * p0) + (1 : Int32)).toNatClampNeg t21) (((3 : Int32) * p0) + (2 : Int32)).toNatClampNeg y_this_steps)), (h_this_tape, ia G 200 f_this_tape)]) C h (c_X9_next hc28) mv_X9_155 rfl 0 rfl [0, 2, 4] rfl rfl [0] [(h_this, ob 9 [.ref h_this_s, .ref h_this_kept, .ref h_this_laid, .int x_this_isKept, .ref h_this_pile, .ref h_this_tape, .int x_this_taped, .ref h_this_letters, .int y24, .int y25, .int y26, .int y27, .int y_this_opened, .int y_this_steps, .ref h_this_code0, .ref h_this_read, .ref h_this_saved, .ref h_this_plan, .ref h_this_bestPlan, .int x_this_most, .int x_this_many, .int x_this_few, .int x_this_everHome, .ref h_this_offThen, .ref h_this_paidThen, .int x_this_firstFit, .ref h_this_rows, .int x_this_rowMany, .ref h_this_sorts, .ref h_this_sizes, .ref h_this_number, .ref h_this_holds, .ref h_this_heldOne, .ref h_this_trace, .int x_this_traced, .int x_this_own, .int x_this_isParted])] rfl rfl (by decide +kernel) rfl hl.1 rfl (Nat.le_of_ble_eq_true rfl) (rok (by decide)) dX9_readsRule_107 (fun H locs h => ?_)
      refine lv_aload_n hx hb dX9_readsRule_110 rfl (lv_at hl 0 rfl) ?_
      refine lv_sipush (v := (259 : Int32)) hx hb dX9_readsRule_111 rfl ?_
      replace hf := bd5_inv hf
      obtain ⟨r29, y30, y31, y32, y33, hc34, hf⟩ := hf
      refine r_ciV (ws' := [(h_this, ob 9 [.ref h_this_s, .ref h_this_kept, .ref h_this_laid, .int x_this_isKept, .ref h_this_pile, .ref h_this_tape, .int x_this_taped, .ref h_this_letters, .int y30, .int y31, .int y32, .int y33, .int y_this_opened, .int y_this_steps, .ref h_this_code0, .ref h_this_read, .ref h_this_saved, .ref h_this_plan, .ref h_this_bestPlan, .int x_this_most, .int x_this_many, .int x_this_few, .int x_this_everHome, .ref h_this_offThen, .ref h_this_paidThen, .int x_this_firstFit, .ref h_this_rows, .int x_this_rowMany, .ref h_this_sorts, .ref h_this_sizes, .ref h_this_number, .ref h_this_holds, .ref h_this_heldOne, .ref h_this_trace, .int x_this_traced, .int x_this_own, .int x_this_isParted]), (h_this_code0, ia G 200 g_this_code0), (h_this_letters, ca G 144 f_this_letters), (h_this_read, ia G 24 (upd (upd g_this_read (((3 : Int32) * p0) + (1 : Int32)).toNatClampNeg t21) (((3 : Int32) * p0) + (2 : Int32)).toNatClampNeg y_this_steps)), (h_this_tape, ia G 200 f_this_tape)]) C h (c_X9_takes hc34) mv_X9_175 rfl 0 rfl [0, 2, 4] rfl rfl [0] [(h_this, ob 9 [.ref h_this_s, .ref h_this_kept, .ref h_this_laid, .int x_this_isKept, .ref h_this_pile, .ref h_this_tape, .int x_this_taped, .ref h_this_letters, .int y30, .int y31, .int y32, .int y33, .int y_this_opened, .int y_this_steps, .ref h_this_code0, .ref h_this_read, .ref h_this_saved, .ref h_this_plan, .ref h_this_bestPlan, .int x_this_most, .int x_this_many, .int x_this_few, .int x_this_everHome, .ref h_this_offThen, .ref h_this_paidThen, .int x_this_firstFit, .ref h_this_rows, .int x_this_rowMany, .ref h_this_sorts, .ref h_this_sizes, .ref h_this_number, .ref h_this_holds, .ref h_this_heldOne, .ref h_this_trace, .int x_this_traced, .int x_this_own, .int x_this_isParted])] rfl rfl (by decide +kernel) rfl hl.1 rfl (Nat.le_of_ble_eq_true rfl) (rok (by decide)) dX9_readsRule_114 (fun H locs h => ?_)
      replace hf := chkB_inv hf
      obtain ⟨hb35, hf⟩ := hf
      obtain ⟨rfl, rfl, rfl, rfl, rfl, rfl, rfl, rfl, rfl⟩ := sm9 hf
      exact r_iret C h hr hlk hb35 dX9_readsRule_117
    · replace hf := ifp c20 hf
      refine lv_iconst (v := (0 : Int32)) hx hb dX9_readsRule_73 rfl ?_
      obtain ⟨rfl, rfl, rfl, rfl, rfl, rfl, rfl, rfl, rfl⟩ := sm9 hf
      exact r_iret C h hr hlk rfl dX9_readsRule_74
  refine lv_iload_n hx hb dX9_readsRule_0 rfl (lv_at hl 1 rfl) ?_
  refine lv_bipush (v := (8 : Int32)) hx hb dX9_readsRule_1 rfl ?_
  refine lv_icmp_eq (tgt := 18) hx hb dX9_readsRule_3 rfl (fun c1 => ?_) (fun c1 => ?_)
  · replace hf := ifp c1 hf
    refine lv_iconst (v := (0 : Int32)) hx hb dX9_readsRule_18 rfl ?_
    obtain ⟨rfl, rfl, rfl, rfl, rfl, rfl, rfl, rfl, rfl⟩ := sm9 hf
    exact r_iret C h hr hlk rfl dX9_readsRule_19
  · replace hf := ifn c1 hf
    refine lv_aload_n hx hb dX9_readsRule_6 rfl (lv_at hl 0 rfl) ?_
    refine r_get C h fk_X9_140 0 rfl rfl dX9_readsRule_7 ?_
    refine lv_iconst (v := (0 : Int32)) hx hb dX9_readsRule_10 rfl ?_
    refine lv_iconst (v := (5 : Int32)) hx hb dX9_readsRule_11 rfl ?_
    replace hf := bd1_inv hf
    obtain ⟨r2, hc3, hf⟩ := hf
    refine r_ciS0 C h (c_X9_in1 hc3) ms_X9_71 rfl [] rfl rfl hl.1 rfl (Nat.le_of_ble_eq_true rfl) (rok (by decide)) dX9_readsRule_12 (fun H locs h => ?_)
    refine lv_if_ne (tgt := 20) hx hb dX9_readsRule_15 rfl (fun c4 => ?_) (fun c4 => ?_)
    · replace hf := ifn c4 hf
      refine lv_aload_n hx hb dX9_readsRule_20 rfl (lv_at hl 0 rfl) ?_
      refine r_get C h fk_X9_32 0 rfl rfl dX9_readsRule_21 ?_
      refine lv_iconst (v := (3 : Int32)) hx hb dX9_readsRule_24 rfl ?_
      refine lv_iload_n hx hb dX9_readsRule_25 rfl (lv_at hl 1 rfl) ?_
      refine lv_imul hx hb dX9_readsRule_26 ?_
      refine lv_aload_n hx hb dX9_readsRule_27 rfl (lv_at hl 0 rfl) ?_
      refine r_get C h fk_X9_140 0 rfl rfl dX9_readsRule_28 ?_
      replace hf := chkI_inv hf
      obtain ⟨hi5, hf⟩ := hf
      refine r_iast (ws' := [(h_this, ob 9 [.ref h_this_s, .ref h_this_kept, .ref h_this_laid, .int x_this_isKept, .ref h_this_pile, .ref h_this_tape, .int x_this_taped, .ref h_this_letters, .int x_this_at, .int x_this_begun, .int x_this_token, .int x_this_value, .int x_this_opened, .int x_this_steps, .ref h_this_code0, .ref h_this_read, .ref h_this_saved, .ref h_this_plan, .ref h_this_bestPlan, .int x_this_most, .int x_this_many, .int x_this_few, .int x_this_everHome, .ref h_this_offThen, .ref h_this_paidThen, .int x_this_firstFit, .ref h_this_rows, .int x_this_rowMany, .ref h_this_sorts, .ref h_this_sizes, .ref h_this_number, .ref h_this_holds, .ref h_this_heldOne, .ref h_this_trace, .int x_this_traced, .int x_this_own, .int x_this_isParted]), (h_this_code0, ia G 200 f_this_code0), (h_this_letters, ca G 144 f_this_letters), (h_this_read, ia G 24 (upd f_this_read ((3 : Int32) * p0).toNatClampNeg x_this_token)), (h_this_tape, ia G 200 f_this_tape)]) C h 3 rfl hi5 dX9_readsRule_31 rfl (fun H locs h => ?_)
      refine lv_aload_n hx hb dX9_readsRule_32 rfl (lv_at hl 0 rfl) ?_
      replace hf := bd4_inv hf
      obtain ⟨y6, y7, y8, y9, hc10, hf⟩ := hf
      refine r_cvV (ws' := [(h_this, ob 9 [.ref h_this_s, .ref h_this_kept, .ref h_this_laid, .int x_this_isKept, .ref h_this_pile, .ref h_this_tape, .int x_this_taped, .ref h_this_letters, .int y6, .int y7, .int y8, .int y9, .int x_this_opened, .int x_this_steps, .ref h_this_code0, .ref h_this_read, .ref h_this_saved, .ref h_this_plan, .ref h_this_bestPlan, .int x_this_most, .int x_this_many, .int x_this_few, .int x_this_everHome, .ref h_this_offThen, .ref h_this_paidThen, .int x_this_firstFit, .ref h_this_rows, .int x_this_rowMany, .ref h_this_sorts, .ref h_this_sizes, .ref h_this_number, .ref h_this_holds, .ref h_this_heldOne, .ref h_this_trace, .int x_this_traced, .int x_this_own, .int x_this_isParted]), (h_this_code0, ia G 200 f_this_code0), (h_this_letters, ca G 144 f_this_letters), (h_this_read, ia G 24 (upd f_this_read ((3 : Int32) * p0).toNatClampNeg x_this_token)), (h_this_tape, ia G 200 f_this_tape)]) C h (c_X9_next hc10) mv_X9_155 rfl 0 rfl [0, 2, 4] rfl rfl [0] [(h_this, ob 9 [.ref h_this_s, .ref h_this_kept, .ref h_this_laid, .int x_this_isKept, .ref h_this_pile, .ref h_this_tape, .int x_this_taped, .ref h_this_letters, .int y6, .int y7, .int y8, .int y9, .int x_this_opened, .int x_this_steps, .ref h_this_code0, .ref h_this_read, .ref h_this_saved, .ref h_this_plan, .ref h_this_bestPlan, .int x_this_most, .int x_this_many, .int x_this_few, .int x_this_everHome, .ref h_this_offThen, .ref h_this_paidThen, .int x_this_firstFit, .ref h_this_rows, .int x_this_rowMany, .ref h_this_sorts, .ref h_this_sizes, .ref h_this_number, .ref h_this_holds, .ref h_this_heldOne, .ref h_this_trace, .int x_this_traced, .int x_this_own, .int x_this_isParted])] rfl rfl (by decide +kernel) rfl hl.1 rfl (Nat.le_of_ble_eq_true rfl) (rok (by decide)) dX9_readsRule_33 (fun H locs h => ?_)
      refine lv_aload_n hx hb dX9_readsRule_36 rfl (lv_at hl 0 rfl) ?_
      refine lv_iconst (v := (0 : Int32)) hx hb dX9_readsRule_37 rfl ?_
      refine r_put (ws' := [(h_this, ob 9 [.ref h_this_s, .ref h_this_kept, .ref h_this_laid, .int x_this_isKept, .ref h_this_pile, .ref h_this_tape, .int x_this_taped, .ref h_this_letters, .int y6, .int y7, .int y8, .int y9, .int (0 : Int32), .int x_this_steps, .ref h_this_code0, .ref h_this_read, .ref h_this_saved, .ref h_this_plan, .ref h_this_bestPlan, .int x_this_most, .int x_this_many, .int x_this_few, .int x_this_everHome, .ref h_this_offThen, .ref h_this_paidThen, .int x_this_firstFit, .ref h_this_rows, .int x_this_rowMany, .ref h_this_sorts, .ref h_this_sizes, .ref h_this_number, .ref h_this_holds, .ref h_this_heldOne, .ref h_this_trace, .int x_this_traced, .int x_this_own, .int x_this_isParted]), (h_this_code0, ia G 200 f_this_code0), (h_this_letters, ca G 144 f_this_letters), (h_this_read, ia G 24 (upd f_this_read ((3 : Int32) * p0).toNatClampNeg x_this_token)), (h_this_tape, ia G 200 f_this_tape)]) C h fw_X9_169 0 rfl rfl rfl (Nat.le_of_ble_eq_true rfl) dX9_readsRule_38 rfl (fun H locs h => ?_)
      refine lv_aload_n hx hb dX9_readsRule_41 rfl (lv_at hl 0 rfl) ?_
      refine lv_bipush (v := (9 : Int32)) hx hb dX9_readsRule_42 rfl ?_
      replace hf := bd5_inv hf
      obtain ⟨r11, y12, y13, y14, y15, hc16, hf⟩ := hf
      refine r_ciV (ws' := [(h_this, ob 9 [.ref h_this_s, .ref h_this_kept, .ref h_this_laid, .int x_this_isKept, .ref h_this_pile, .ref h_this_tape, .int x_this_taped, .ref h_this_letters, .int y12, .int y13, .int y14, .int y15, .int (0 : Int32), .int x_this_steps, .ref h_this_code0, .ref h_this_read, .ref h_this_saved, .ref h_this_plan, .ref h_this_bestPlan, .int x_this_most, .int x_this_many, .int x_this_few, .int x_this_everHome, .ref h_this_offThen, .ref h_this_paidThen, .int x_this_firstFit, .ref h_this_rows, .int x_this_rowMany, .ref h_this_sorts, .ref h_this_sizes, .ref h_this_number, .ref h_this_holds, .ref h_this_heldOne, .ref h_this_trace, .int x_this_traced, .int x_this_own, .int x_this_isParted]), (h_this_code0, ia G 200 f_this_code0), (h_this_letters, ca G 144 f_this_letters), (h_this_read, ia G 24 (upd f_this_read ((3 : Int32) * p0).toNatClampNeg x_this_token)), (h_this_tape, ia G 200 f_this_tape)]) C h (c_X9_takes hc16) mv_X9_175 rfl 0 rfl [0, 2, 4] rfl rfl [0] [(h_this, ob 9 [.ref h_this_s, .ref h_this_kept, .ref h_this_laid, .int x_this_isKept, .ref h_this_pile, .ref h_this_tape, .int x_this_taped, .ref h_this_letters, .int y12, .int y13, .int y14, .int y15, .int (0 : Int32), .int x_this_steps, .ref h_this_code0, .ref h_this_read, .ref h_this_saved, .ref h_this_plan, .ref h_this_bestPlan, .int x_this_most, .int x_this_many, .int x_this_few, .int x_this_everHome, .ref h_this_offThen, .ref h_this_paidThen, .int x_this_firstFit, .ref h_this_rows, .int x_this_rowMany, .ref h_this_sorts, .ref h_this_sizes, .ref h_this_number, .ref h_this_holds, .ref h_this_heldOne, .ref h_this_trace, .int x_this_traced, .int x_this_own, .int x_this_isParted])] rfl rfl (by decide +kernel) rfl hl.1 rfl (Nat.le_of_ble_eq_true rfl) (rok (by decide)) dX9_readsRule_44 (fun H locs h => ?_)
      refine lv_if_eq (tgt := 59) hx hb dX9_readsRule_47 rfl (fun c17 => ?_) (fun c17 => ?_)
      · replace hf := ifp c17 hf
        exact hK2 _ _ _ _ (B59 y12 y13 y14 y15 (0 : Int32) x_this_steps f_this_code0 (upd f_this_read ((3 : Int32) * p0).toNatClampNeg x_this_token) hf) _ _ _ h (lv_sub hl [0, 1] rfl)
      · replace hf := ifn c17 hf
        refine lv_aload_n hx hb dX9_readsRule_50 rfl (lv_at hl 0 rfl) ?_
        replace hf := bd8_inv hf
        obtain ⟨r36, y37, y38, y39, y40, y41, y42, g43, hc44, hf⟩ := hf
        refine r_ciV (ws' := [(h_this, ob 9 [.ref h_this_s, .ref h_this_kept, .ref h_this_laid, .int x_this_isKept, .ref h_this_pile, .ref h_this_tape, .int x_this_taped, .ref h_this_letters, .int y37, .int y38, .int y39, .int y40, .int y41, .int y42, .ref h_this_code0, .ref h_this_read, .ref h_this_saved, .ref h_this_plan, .ref h_this_bestPlan, .int x_this_most, .int x_this_many, .int x_this_few, .int x_this_everHome, .ref h_this_offThen, .ref h_this_paidThen, .int x_this_firstFit, .ref h_this_rows, .int x_this_rowMany, .ref h_this_sorts, .ref h_this_sizes, .ref h_this_number, .ref h_this_holds, .ref h_this_heldOne, .ref h_this_trace, .int x_this_traced, .int x_this_own, .int x_this_isParted]), (h_this_code0, ia G 200 g43), (h_this_letters, ca G 144 f_this_letters), (h_this_read, ia G 24 (upd f_this_read ((3 : Int32) * p0).toNatClampNeg x_this_token)), (h_this_tape, ia G 200 f_this_tape)]) C h (C_X9_readsCondition 6 hc44) mv_X9_172 rfl 0 rfl [0, 1, 2, 4] rfl rfl [0, 1] [(h_this, ob 9 [.ref h_this_s, .ref h_this_kept, .ref h_this_laid, .int x_this_isKept, .ref h_this_pile, .ref h_this_tape, .int x_this_taped, .ref h_this_letters, .int y37, .int y38, .int y39, .int y40, .int y41, .int y42, .ref h_this_code0, .ref h_this_read, .ref h_this_saved, .ref h_this_plan, .ref h_this_bestPlan, .int x_this_most, .int x_this_many, .int x_this_few, .int x_this_everHome, .ref h_this_offThen, .ref h_this_paidThen, .int x_this_firstFit, .ref h_this_rows, .int x_this_rowMany, .ref h_this_sorts, .ref h_this_sizes, .ref h_this_number, .ref h_this_holds, .ref h_this_heldOne, .ref h_this_trace, .int x_this_traced, .int x_this_own, .int x_this_isParted]), (h_this_code0, ia G 200 g43)] rfl rfl (by decide +kernel) rfl hl.1 rfl (Nat.le_of_ble_eq_true rfl) (rok (by decide)) dX9_readsRule_51 (fun H locs h => ?_)
        refine lv_if_ne (tgt := 59) hx hb dX9_readsRule_54 rfl (fun c45 => ?_) (fun c45 => ?_)
        · replace hf := ifn c45 hf
          exact hK2 _ _ _ _ (B59 y37 y38 y39 y40 y41 y42 g43 (upd f_this_read ((3 : Int32) * p0).toNatClampNeg x_this_token) hf) _ _ _ h (lv_sub hl [0, 1] rfl)
        · replace hf := ifp c45 hf
          refine lv_iconst (v := (0 : Int32)) hx hb dX9_readsRule_57 rfl ?_
          obtain ⟨rfl, rfl, rfl, rfl, rfl, rfl, rfl, rfl, rfl⟩ := sm9 hf
          exact r_iret C h hr hlk rfl dX9_readsRule_58
    · replace hf := ifp c4 hf
      refine lv_iconst (v := (0 : Int32)) hx hb dX9_readsRule_18 rfl ?_
      obtain ⟨rfl, rfl, rfl, rfl, rfl, rfl, rfl, rfl, rfl⟩ := sm9 hf
      exact r_iret C h hr hlk rfl dX9_readsRule_19
def f_X9_rules_L98 : Nat → Int32 → Int32 → Int32 → Int32 → Int32 → Int32 → Int32 → Int32 → Int32 → (Nat → Int32) → (Nat → Int32) → (Nat → Int32) → Option (Int32 × Int32 × Int32 × Int32 × Int32 × Int32 × Int32 × Int32 × (Nat → Int32) × (Nat → Int32) × (Nat → Int32))
  | 0, _, _, _, _, _, _, _, _, _, _, _, _ => none
  | n + 1, v1, v3, y_this_taped, y_this_at, y_this_begun, y_this_token, y_this_value, y_this_opened, y_this_steps, g_this_code0, g_this_read, g_this_s => (if y_this_steps ≤ v3 then some (v1, y_this_taped, y_this_at, y_this_begun, y_this_token, y_this_value, y_this_opened, y_this_steps, g_this_code0, g_this_read, g_this_s) else chkI v3 200 (lt1 (g_this_code0 v3.toNatClampNeg) (fun (t11 : Int32) => chkI ((113 : Int32) + v3) 313 (lt1 (v3 + (1 : Int32)) (fun (t13 : Int32) => (f_X9_rules_L98 n) v1 t13 y_this_taped y_this_at y_this_begun y_this_token y_this_value y_this_opened y_this_steps g_this_code0 g_this_read (upd g_this_s ((113 : Int32) + v3).toNatClampNeg t11))))))
def f_X9_rules_b96 (v1 : Int32) (y_this_taped : Int32) (y_this_at : Int32) (y_this_begun : Int32) (y_this_token : Int32) (y_this_value : Int32) (y_this_opened : Int32) (y_this_steps : Int32) (g_this_code0 : Nat → Int32) (g_this_read : Nat → Int32) (g_this_s : Nat → Int32) : Option (Int32 × Int32 × Int32 × Int32 × Int32 × Int32 × Int32 × Int32 × (Nat → Int32) × (Nat → Int32) × (Nat → Int32)) := f_X9_rules_L98 1000 v1 (0 : Int32) y_this_taped y_this_at y_this_begun y_this_token y_this_value y_this_opened y_this_steps g_this_code0 g_this_read g_this_s
def f_X9_rules_L68 : Nat → Int32 → Int32 → Int32 → Int32 → Int32 → Int32 → Int32 → Int32 → Int32 → (Nat → Int32) → (Nat → Int32) → (Nat → Int32) → Option (Int32 × Int32 × Int32 × Int32 × Int32 × Int32 × Int32 × Int32 × (Nat → Int32) × (Nat → Int32) × (Nat → Int32))
  | 0, _, _, _, _, _, _, _, _, _, _, _, _ => none
  | n + 1, v1, v3, y_this_taped, y_this_at, y_this_begun, y_this_token, y_this_value, y_this_opened, y_this_steps, g_this_code0, g_this_read, g_this_s => (if ((3 : Int32) * v1) ≤ v3 then f_X9_rules_b96 v1 y_this_taped y_this_at y_this_begun y_this_token y_this_value y_this_opened y_this_steps g_this_code0 g_this_read g_this_s else chkI v3 24 (lt1 (g_this_read v3.toNatClampNeg) (fun (t15 : Int32) => chkI ((89 : Int32) + v3) 313 (lt1 (v3 + (1 : Int32)) (fun (t17 : Int32) => (f_X9_rules_L68 n) v1 t17 y_this_taped y_this_at y_this_begun y_this_token y_this_value y_this_opened y_this_steps g_this_code0 g_this_read (upd g_this_s ((89 : Int32) + v3).toNatClampNeg t15))))))
def f_X9_rules_b42 (f_this_s : Nat → Int32) (v1 : Int32) (v2 : Int32) (y_this_at : Int32) (y_this_begun : Int32) (y_this_token : Int32) (y_this_value : Int32) (y_this_opened : Int32) (y_this_steps : Int32) (g_this_code0 : Nat → Int32) (g_this_read : Nat → Int32) : Option (Int32 × Int32 × Int32 × Int32 × Int32 × Int32 × Int32 × Int32 × (Nat → Int32) × (Nat → Int32) × (Nat → Int32)) := (if v2 = 0 then some ((-100 : Int32) - y_this_begun, (0 : Int32), y_this_at, y_this_begun, y_this_token, y_this_value, y_this_opened, y_this_steps, g_this_code0, g_this_read, f_this_s) else f_X9_rules_L68 1000 v1 (0 : Int32) (0 : Int32) y_this_at y_this_begun y_this_token y_this_value y_this_opened y_this_steps g_this_code0 g_this_read (upd f_this_s 5 v1))
def f_X9_rules_L18 (x_this_taped : Int32) (f_this_letters : Nat → Int32) (f_this_s : Nat → Int32) (f_this_tape : Nat → Int32) : Nat → Int32 → Int32 → Int32 → Int32 → Int32 → Int32 → Int32 → Int32 → (Nat → Int32) → (Nat → Int32) → Option (Int32 × Int32 × Int32 × Int32 × Int32 × Int32 × Int32 × Int32 × (Nat → Int32) × (Nat → Int32) × (Nat → Int32))
  | 0, _, _, _, _, _, _, _, _, _, _ => none
  | n + 1, v1, v2, y_this_at, y_this_begun, y_this_token, y_this_value, y_this_opened, y_this_steps, g_this_code0, g_this_read => (if v2 = 0 then f_X9_rules_b42 f_this_s v1 v2 y_this_at y_this_begun y_this_token y_this_value y_this_opened y_this_steps g_this_code0 g_this_read else (if y_this_token = (-1 : Int32) then f_X9_rules_b42 f_this_s v1 v2 y_this_at y_this_begun y_this_token y_this_value y_this_opened y_this_steps g_this_code0 g_this_read else bd9 (f_X9_readsRule v1 x_this_taped y_this_at y_this_begun y_this_token y_this_value y_this_opened y_this_steps g_this_code0 f_this_letters g_this_read f_this_tape) (fun r19 y20 y21 y22 y23 y24 y25 g26 g27 => lt1 (v1 + (1 : Int32)) (fun (t29 : Int32) => (f_X9_rules_L18 x_this_taped f_this_letters f_this_s f_this_tape n) t29 r19 y20 y21 y22 y23 y24 y25 g26 g27))))
def f_X9_rules (x_this_taped : Int32) (x_this_value : Int32) (x_this_opened : Int32) (f_this_code0 : Nat → Int32) (f_this_letters : Nat → Int32) (f_this_read : Nat → Int32) (f_this_s : Nat → Int32) (f_this_tape : Nat → Int32) : Option (Int32 × Int32 × Int32 × Int32 × Int32 × Int32 × Int32 × Int32 × (Nat → Int32) × (Nat → Int32) × (Nat → Int32)) := bd4 (f_X9_next x_this_taped (0 : Int32) x_this_value f_this_letters f_this_tape) (fun y1 y2 y3 y4 => f_X9_rules_L18 x_this_taped f_this_letters f_this_s f_this_tape 1000 (0 : Int32) (1 : Int32) y1 y2 y3 y4 x_this_opened (0 : Int32) f_this_code0 f_this_read)
set_option maxRecDepth 100000 in
set_option maxHeartbeats 4000000 in
theorem c_X9_rules {l : Launch} {G : Gt} {h_this h_this_s h_this_kept h_this_laid h_this_pile h_this_tape h_this_letters h_this_code0 h_this_read h_this_saved h_this_plan h_this_bestPlan h_this_offThen h_this_paidThen h_this_rows h_this_sorts h_this_sizes h_this_number h_this_holds h_this_heldOne h_this_trace : Nat} {x_this_isKept : Int32} {x_this_taped : Int32} {x_this_at : Int32} {x_this_begun : Int32} {x_this_token : Int32} {x_this_value : Int32} {x_this_opened : Int32} {x_this_steps : Int32} {x_this_most : Int32} {x_this_many : Int32} {x_this_few : Int32} {x_this_everHome : Int32} {x_this_firstFit : Int32} {x_this_rowMany : Int32} {x_this_traced : Int32} {x_this_own : Int32} {x_this_isParted : Int32} {f_this_code0 : Nat → Int32} {f_this_letters : Nat → Int32} {f_this_read : Nat → Int32} {f_this_s : Nat → Int32} {f_this_tape : Nat → Int32} {r : Int32} {m_this_taped : Int32} {m_this_at : Int32} {m_this_begun : Int32} {m_this_token : Int32} {m_this_value : Int32} {m_this_opened : Int32} {m_this_steps : Int32} {m_this_code0 : Nat → Int32} {m_this_read : Nat → Int32} {m_this_s : Nat → Int32} (hf : f_X9_rules x_this_taped x_this_value x_this_opened f_this_code0 f_this_letters f_this_read f_this_s f_this_tape = some (r, m_this_taped, m_this_at, m_this_begun, m_this_token, m_this_value, m_this_opened, m_this_steps, m_this_code0, m_this_read, m_this_s)) : mFi l G yX9_rules cX9_rules 4 .int 50 [.ref h_this] [(h_this, ob 9 [.ref h_this_s, .ref h_this_kept, .ref h_this_laid, .int x_this_isKept, .ref h_this_pile, .ref h_this_tape, .int x_this_taped, .ref h_this_letters, .int x_this_at, .int x_this_begun, .int x_this_token, .int x_this_value, .int x_this_opened, .int x_this_steps, .ref h_this_code0, .ref h_this_read, .ref h_this_saved, .ref h_this_plan, .ref h_this_bestPlan, .int x_this_most, .int x_this_many, .int x_this_few, .int x_this_everHome, .ref h_this_offThen, .ref h_this_paidThen, .int x_this_firstFit, .ref h_this_rows, .int x_this_rowMany, .ref h_this_sorts, .ref h_this_sizes, .ref h_this_number, .ref h_this_holds, .ref h_this_heldOne, .ref h_this_trace, .int x_this_traced, .int x_this_own, .int x_this_isParted]), (h_this_code0, ia G 200 f_this_code0), (h_this_letters, ca G 144 f_this_letters), (h_this_read, ia G 24 f_this_read), (h_this_s, ia G 313 f_this_s), (h_this_tape, ia G 200 f_this_tape)] r [(h_this, ob 9 [.ref h_this_s, .ref h_this_kept, .ref h_this_laid, .int x_this_isKept, .ref h_this_pile, .ref h_this_tape, .int m_this_taped, .ref h_this_letters, .int m_this_at, .int m_this_begun, .int m_this_token, .int m_this_value, .int m_this_opened, .int m_this_steps, .ref h_this_code0, .ref h_this_read, .ref h_this_saved, .ref h_this_plan, .ref h_this_bestPlan, .int x_this_most, .int x_this_many, .int x_this_few, .int x_this_everHome, .ref h_this_offThen, .ref h_this_paidThen, .int x_this_firstFit, .ref h_this_rows, .int x_this_rowMany, .ref h_this_sorts, .ref h_this_sizes, .ref h_this_number, .ref h_this_holds, .ref h_this_heldOne, .ref h_this_trace, .int x_this_traced, .int x_this_own, .int x_this_isParted]), (h_this_code0, ia G 200 m_this_code0), (h_this_letters, ca G 144 f_this_letters), (h_this_read, ia G 24 m_this_read), (h_this_s, ia G 313 m_this_s), (h_this_tape, ia G 200 f_this_tape)] := by
  refine mFi.of (by decide +kernel) (Nat.le_of_ble_eq_true rfl) ?_
  intro p e s m below meth c A C hr hlk h ls hl
  obtain ⟨hx, hb, hml, hown, hts⟩ := id C
  replace hl : lv_has ls 4 [(0, .ref h_this)] := hl
  unfold f_X9_rules at hf
  refine with_K G A 4 (fun K hK1 hK2 => ?_)
  have L98 : ∀ (n : Nat) (v1 : Int32) (v3 : Int32) (y_this_taped : Int32) (y_this_at : Int32) (y_this_begun : Int32) (y_this_token : Int32) (y_this_value : Int32) (y_this_opened : Int32) (y_this_steps : Int32) (g_this_code0 : Nat → Int32) (g_this_read : Nat → Int32) (g_this_s : Nat → Int32), f_X9_rules_L98 n v1 v3 y_this_taped y_this_at y_this_begun y_this_token y_this_value y_this_opened y_this_steps g_this_code0 g_this_read g_this_s = some (r, m_this_taped, m_this_at, m_this_begun, m_this_token, m_this_value, m_this_opened, m_this_steps, m_this_code0, m_this_read, m_this_s) → K 98 ([] : List Value) [(h_this, ob 9 [.ref h_this_s, .ref h_this_kept, .ref h_this_laid, .int x_this_isKept, .ref h_this_pile, .ref h_this_tape, .int y_this_taped, .ref h_this_letters, .int y_this_at, .int y_this_begun, .int y_this_token, .int y_this_value, .int y_this_opened, .int y_this_steps, .ref h_this_code0, .ref h_this_read, .ref h_this_saved, .ref h_this_plan, .ref h_this_bestPlan, .int x_this_most, .int x_this_many, .int x_this_few, .int x_this_everHome, .ref h_this_offThen, .ref h_this_paidThen, .int x_this_firstFit, .ref h_this_rows, .int x_this_rowMany, .ref h_this_sorts, .ref h_this_sizes, .ref h_this_number, .ref h_this_holds, .ref h_this_heldOne, .ref h_this_trace, .int x_this_traced, .int x_this_own, .int x_this_isParted]), (h_this_code0, ia G 200 g_this_code0), (h_this_letters, ca G 144 f_this_letters), (h_this_read, ia G 24 g_this_read), (h_this_s, ia G 313 g_this_s), (h_this_tape, ia G 200 f_this_tape)] [(0, .ref h_this), (1, .int v1), (3, .int v3)] := by
    intro n
    induction n with
    | zero =>
      intro v1 v3 y_this_taped y_this_at y_this_begun y_this_token y_this_value y_this_opened y_this_steps g_this_code0 g_this_read g_this_s hf
      replace hf : (none : Option _) = some _ := hf
      cases hf
    | succ n ih =>
      intro v1 v3 y_this_taped y_this_at y_this_begun y_this_token y_this_value y_this_opened y_this_steps g_this_code0 g_this_read g_this_s hf
      rw [f_X9_rules_L98] at hf
      refine hK1 _ _ _ _ (fun H locs ls h hl => ?_)
      refine lv_iload_n hx hb dX9_rules_98 rfl (lv_at hl 2 rfl) ?_
      refine lv_aload_n hx hb dX9_rules_99 rfl (lv_at hl 0 rfl) ?_
      refine r_get C h fk_X9_158 0 rfl rfl dX9_rules_100 ?_
      refine lv_icmp_ge (tgt := 127) hx hb dX9_rules_103 rfl (fun c9 => ?_) (fun c9 => ?_)
      · replace hf := ifp c9 hf
        refine lv_iload_n hx hb dX9_rules_127 rfl (lv_at hl 1 rfl) ?_
        obtain ⟨rfl, rfl, rfl, rfl, rfl, rfl, rfl, rfl, rfl, rfl, rfl⟩ := sm11 hf
        exact r_iret C h hr hlk rfl dX9_rules_128
      · replace hf := ifn c9 hf
        refine lv_aload_n hx hb dX9_rules_106 rfl (lv_at hl 0 rfl) ?_
        refine r_get C h fk_X9_9 0 rfl rfl dX9_rules_107 ?_
        refine lv_bipush (v := (113 : Int32)) hx hb dX9_rules_110 rfl ?_
        refine lv_iload_n hx hb dX9_rules_112 rfl (lv_at hl 2 rfl) ?_
        refine lv_iadd hx hb dX9_rules_113 ?_
        refine lv_aload_n hx hb dX9_rules_114 rfl (lv_at hl 0 rfl) ?_
        refine r_get C h fk_X9_29 0 rfl rfl dX9_rules_115 ?_
        refine lv_iload_n hx hb dX9_rules_118 rfl (lv_at hl 2 rfl) ?_
        replace hf := chkI_inv hf
        obtain ⟨hi10, hf⟩ := hf
        refine r_iald C h 1 rfl hi10 dX9_rules_119 ?_
        refine lv_topi (fun t11 et11 => ?_)
        replace hf := lt1_inv et11 hf
        replace hf := chkI_inv hf
        obtain ⟨hi12, hf⟩ := hf
        refine r_iast (ws' := [(h_this, ob 9 [.ref h_this_s, .ref h_this_kept, .ref h_this_laid, .int x_this_isKept, .ref h_this_pile, .ref h_this_tape, .int y_this_taped, .ref h_this_letters, .int y_this_at, .int y_this_begun, .int y_this_token, .int y_this_value, .int y_this_opened, .int y_this_steps, .ref h_this_code0, .ref h_this_read, .ref h_this_saved, .ref h_this_plan, .ref h_this_bestPlan, .int x_this_most, .int x_this_many, .int x_this_few, .int x_this_everHome, .ref h_this_offThen, .ref h_this_paidThen, .int x_this_firstFit, .ref h_this_rows, .int x_this_rowMany, .ref h_this_sorts, .ref h_this_sizes, .ref h_this_number, .ref h_this_holds, .ref h_this_heldOne, .ref h_this_trace, .int x_this_traced, .int x_this_own, .int x_this_isParted]), (h_this_code0, ia G 200 g_this_code0), (h_this_letters, ca G 144 f_this_letters), (h_this_read, ia G 24 g_this_read), (h_this_s, ia G 313 (upd g_this_s ((113 : Int32) + v3).toNatClampNeg t11)), (h_this_tape, ia G 200 f_this_tape)]) C h 4 rfl hi12 dX9_rules_120 rfl (fun H locs h => ?_)
        obtain ⟨t13, et13⟩ : ∃ y : Int32, y = v3 + (1 : Int32) := ⟨_, rfl⟩
        replace hf := lt1_inv et13 hf
        refine lv_iinc (v := t13) (lv' := [(3, .int t13), (0, .ref h_this), (1, .int v1)]) hx hb dX9_rules_121 hl (k := 2) rfl (by rw [et13]; rfl) (by decide) rfl (fun ls hl => ?_)
        refine lv_goto (tgt := 98) hx hb dX9_rules_124 rfl ?_
        exact hK2 _ _ _ _ (ih v1 t13 y_this_taped y_this_at y_this_begun y_this_token y_this_value y_this_opened y_this_steps g_this_code0 g_this_read (upd g_this_s ((113 : Int32) + v3).toNatClampNeg t11) hf) _ _ _ h (lv_sub hl [1, 2, 0] rfl)
  have B96 : ∀ (v1 : Int32) (y_this_taped : Int32) (y_this_at : Int32) (y_this_begun : Int32) (y_this_token : Int32) (y_this_value : Int32) (y_this_opened : Int32) (y_this_steps : Int32) (g_this_code0 : Nat → Int32) (g_this_read : Nat → Int32) (g_this_s : Nat → Int32), f_X9_rules_b96 v1 y_this_taped y_this_at y_this_begun y_this_token y_this_value y_this_opened y_this_steps g_this_code0 g_this_read g_this_s = some (r, m_this_taped, m_this_at, m_this_begun, m_this_token, m_this_value, m_this_opened, m_this_steps, m_this_code0, m_this_read, m_this_s) → K 96 ([] : List Value) [(h_this, ob 9 [.ref h_this_s, .ref h_this_kept, .ref h_this_laid, .int x_this_isKept, .ref h_this_pile, .ref h_this_tape, .int y_this_taped, .ref h_this_letters, .int y_this_at, .int y_this_begun, .int y_this_token, .int y_this_value, .int y_this_opened, .int y_this_steps, .ref h_this_code0, .ref h_this_read, .ref h_this_saved, .ref h_this_plan, .ref h_this_bestPlan, .int x_this_most, .int x_this_many, .int x_this_few, .int x_this_everHome, .ref h_this_offThen, .ref h_this_paidThen, .int x_this_firstFit, .ref h_this_rows, .int x_this_rowMany, .ref h_this_sorts, .ref h_this_sizes, .ref h_this_number, .ref h_this_holds, .ref h_this_heldOne, .ref h_this_trace, .int x_this_traced, .int x_this_own, .int x_this_isParted]), (h_this_code0, ia G 200 g_this_code0), (h_this_letters, ca G 144 f_this_letters), (h_this_read, ia G 24 g_this_read), (h_this_s, ia G 313 g_this_s), (h_this_tape, ia G 200 f_this_tape)] [(0, .ref h_this), (1, .int v1)] := by
    intro v1 y_this_taped y_this_at y_this_begun y_this_token y_this_value y_this_opened y_this_steps g_this_code0 g_this_read g_this_s hf
    unfold f_X9_rules_b96 at hf
    refine hK1 _ _ _ _ (fun H locs ls h hl => ?_)
    refine lv_iconst (v := (0 : Int32)) hx hb dX9_rules_96 rfl ?_
    refine lv_istore_n (lv' := [(3, .int (0 : Int32)), (0, .ref h_this), (1, .int v1)]) hx hb dX9_rules_97 rfl hl (by decide) rfl (fun ls hl => ?_)
    exact hK2 _ _ _ _ (L98 1000 v1 (0 : Int32) y_this_taped y_this_at y_this_begun y_this_token y_this_value y_this_opened y_this_steps g_this_code0 g_this_read g_this_s hf) _ _ _ h (lv_sub hl [1, 2, 0] rfl)
  have L68 : ∀ (n : Nat) (v1 : Int32) (v3 : Int32) (y_this_taped : Int32) (y_this_at : Int32) (y_this_begun : Int32) (y_this_token : Int32) (y_this_value : Int32) (y_this_opened : Int32) (y_this_steps : Int32) (g_this_code0 : Nat → Int32) (g_this_read : Nat → Int32) (g_this_s : Nat → Int32), f_X9_rules_L68 n v1 v3 y_this_taped y_this_at y_this_begun y_this_token y_this_value y_this_opened y_this_steps g_this_code0 g_this_read g_this_s = some (r, m_this_taped, m_this_at, m_this_begun, m_this_token, m_this_value, m_this_opened, m_this_steps, m_this_code0, m_this_read, m_this_s) → K 68 ([] : List Value) [(h_this, ob 9 [.ref h_this_s, .ref h_this_kept, .ref h_this_laid, .int x_this_isKept, .ref h_this_pile, .ref h_this_tape, .int y_this_taped, .ref h_this_letters, .int y_this_at, .int y_this_begun, .int y_this_token, .int y_this_value, .int y_this_opened, .int y_this_steps, .ref h_this_code0, .ref h_this_read, .ref h_this_saved, .ref h_this_plan, .ref h_this_bestPlan, .int x_this_most, .int x_this_many, .int x_this_few, .int x_this_everHome, .ref h_this_offThen, .ref h_this_paidThen, .int x_this_firstFit, .ref h_this_rows, .int x_this_rowMany, .ref h_this_sorts, .ref h_this_sizes, .ref h_this_number, .ref h_this_holds, .ref h_this_heldOne, .ref h_this_trace, .int x_this_traced, .int x_this_own, .int x_this_isParted]), (h_this_code0, ia G 200 g_this_code0), (h_this_letters, ca G 144 f_this_letters), (h_this_read, ia G 24 g_this_read), (h_this_s, ia G 313 g_this_s), (h_this_tape, ia G 200 f_this_tape)] [(0, .ref h_this), (1, .int v1), (3, .int v3)] := by
    intro n
    induction n with
    | zero =>
      intro v1 v3 y_this_taped y_this_at y_this_begun y_this_token y_this_value y_this_opened y_this_steps g_this_code0 g_this_read g_this_s hf
      replace hf : (none : Option _) = some _ := hf
      cases hf
    | succ n ih =>
      intro v1 v3 y_this_taped y_this_at y_this_begun y_this_token y_this_value y_this_opened y_this_steps g_this_code0 g_this_read g_this_s hf
      rw [f_X9_rules_L68] at hf
      refine hK1 _ _ _ _ (fun H locs ls h hl => ?_)
      refine lv_iload_n hx hb dX9_rules_68 rfl (lv_at hl 2 rfl) ?_
      refine lv_iconst (v := (3 : Int32)) hx hb dX9_rules_69 rfl ?_
      refine lv_iload_n hx hb dX9_rules_70 rfl (lv_at hl 1 rfl) ?_
      refine lv_imul hx hb dX9_rules_71 ?_
      refine lv_icmp_ge (tgt := 96) hx hb dX9_rules_72 rfl (fun c8 => ?_) (fun c8 => ?_)
      · replace hf := ifp c8 hf
        exact hK2 _ _ _ _ (B96 v1 y_this_taped y_this_at y_this_begun y_this_token y_this_value y_this_opened y_this_steps g_this_code0 g_this_read g_this_s hf) _ _ _ h (lv_sub hl [0, 1] rfl)
      · replace hf := ifn c8 hf
        refine lv_aload_n hx hb dX9_rules_75 rfl (lv_at hl 0 rfl) ?_
        refine r_get C h fk_X9_9 0 rfl rfl dX9_rules_76 ?_
        refine lv_bipush (v := (89 : Int32)) hx hb dX9_rules_79 rfl ?_
        refine lv_iload_n hx hb dX9_rules_81 rfl (lv_at hl 2 rfl) ?_
        refine lv_iadd hx hb dX9_rules_82 ?_
        refine lv_aload_n hx hb dX9_rules_83 rfl (lv_at hl 0 rfl) ?_
        refine r_get C h fk_X9_32 0 rfl rfl dX9_rules_84 ?_
        refine lv_iload_n hx hb dX9_rules_87 rfl (lv_at hl 2 rfl) ?_
        replace hf := chkI_inv hf
        obtain ⟨hi14, hf⟩ := hf
        refine r_iald C h 3 rfl hi14 dX9_rules_88 ?_
        refine lv_topi (fun t15 et15 => ?_)
        replace hf := lt1_inv et15 hf
        replace hf := chkI_inv hf
        obtain ⟨hi16, hf⟩ := hf
        refine r_iast (ws' := [(h_this, ob 9 [.ref h_this_s, .ref h_this_kept, .ref h_this_laid, .int x_this_isKept, .ref h_this_pile, .ref h_this_tape, .int y_this_taped, .ref h_this_letters, .int y_this_at, .int y_this_begun, .int y_this_token, .int y_this_value, .int y_this_opened, .int y_this_steps, .ref h_this_code0, .ref h_this_read, .ref h_this_saved, .ref h_this_plan, .ref h_this_bestPlan, .int x_this_most, .int x_this_many, .int x_this_few, .int x_this_everHome, .ref h_this_offThen, .ref h_this_paidThen, .int x_this_firstFit, .ref h_this_rows, .int x_this_rowMany, .ref h_this_sorts, .ref h_this_sizes, .ref h_this_number, .ref h_this_holds, .ref h_this_heldOne, .ref h_this_trace, .int x_this_traced, .int x_this_own, .int x_this_isParted]), (h_this_code0, ia G 200 g_this_code0), (h_this_letters, ca G 144 f_this_letters), (h_this_read, ia G 24 g_this_read), (h_this_s, ia G 313 (upd g_this_s ((89 : Int32) + v3).toNatClampNeg t15)), (h_this_tape, ia G 200 f_this_tape)]) C h 4 rfl hi16 dX9_rules_89 rfl (fun H locs h => ?_)
        obtain ⟨t17, et17⟩ : ∃ y : Int32, y = v3 + (1 : Int32) := ⟨_, rfl⟩
        replace hf := lt1_inv et17 hf
        refine lv_iinc (v := t17) (lv' := [(3, .int t17), (0, .ref h_this), (1, .int v1)]) hx hb dX9_rules_90 hl (k := 2) rfl (by rw [et17]; rfl) (by decide) rfl (fun ls hl => ?_)
        refine lv_goto (tgt := 68) hx hb dX9_rules_93 rfl ?_
        exact hK2 _ _ _ _ (ih v1 t17 y_this_taped y_this_at y_this_begun y_this_token y_this_value y_this_opened y_this_steps g_this_code0 g_this_read (upd g_this_s ((89 : Int32) + v3).toNatClampNeg t15) hf) _ _ _ h (lv_sub hl [1, 2, 0] rfl)
  have B42 : ∀ (v1 : Int32) (v2 : Int32) (y_this_at : Int32) (y_this_begun : Int32) (y_this_token : Int32) (y_this_value : Int32) (y_this_opened : Int32) (y_this_steps : Int32) (g_this_code0 : Nat → Int32) (g_this_read : Nat → Int32), f_X9_rules_b42 f_this_s v1 v2 y_this_at y_this_begun y_this_token y_this_value y_this_opened y_this_steps g_this_code0 g_this_read = some (r, m_this_taped, m_this_at, m_this_begun, m_this_token, m_this_value, m_this_opened, m_this_steps, m_this_code0, m_this_read, m_this_s) → K 42 ([] : List Value) [(h_this, ob 9 [.ref h_this_s, .ref h_this_kept, .ref h_this_laid, .int x_this_isKept, .ref h_this_pile, .ref h_this_tape, .int x_this_taped, .ref h_this_letters, .int y_this_at, .int y_this_begun, .int y_this_token, .int y_this_value, .int y_this_opened, .int y_this_steps, .ref h_this_code0, .ref h_this_read, .ref h_this_saved, .ref h_this_plan, .ref h_this_bestPlan, .int x_this_most, .int x_this_many, .int x_this_few, .int x_this_everHome, .ref h_this_offThen, .ref h_this_paidThen, .int x_this_firstFit, .ref h_this_rows, .int x_this_rowMany, .ref h_this_sorts, .ref h_this_sizes, .ref h_this_number, .ref h_this_holds, .ref h_this_heldOne, .ref h_this_trace, .int x_this_traced, .int x_this_own, .int x_this_isParted]), (h_this_code0, ia G 200 g_this_code0), (h_this_letters, ca G 144 f_this_letters), (h_this_read, ia G 24 g_this_read), (h_this_s, ia G 313 f_this_s), (h_this_tape, ia G 200 f_this_tape)] [(0, .ref h_this), (1, .int v1), (2, .int v2)] := by
    intro v1 v2 y_this_at y_this_begun y_this_token y_this_value y_this_opened y_this_steps g_this_code0 g_this_read hf
    unfold f_X9_rules_b42 at hf
    refine hK1 _ _ _ _ (fun H locs ls h hl => ?_)
    refine lv_aload_n hx hb dX9_rules_42 rfl (lv_at hl 0 rfl) ?_
    refine lv_iconst (v := (0 : Int32)) hx hb dX9_rules_43 rfl ?_
    refine r_put (ws' := [(h_this, ob 9 [.ref h_this_s, .ref h_this_kept, .ref h_this_laid, .int x_this_isKept, .ref h_this_pile, .ref h_this_tape, .int (0 : Int32), .ref h_this_letters, .int y_this_at, .int y_this_begun, .int y_this_token, .int y_this_value, .int y_this_opened, .int y_this_steps, .ref h_this_code0, .ref h_this_read, .ref h_this_saved, .ref h_this_plan, .ref h_this_bestPlan, .int x_this_most, .int x_this_many, .int x_this_few, .int x_this_everHome, .ref h_this_offThen, .ref h_this_paidThen, .int x_this_firstFit, .ref h_this_rows, .int x_this_rowMany, .ref h_this_sorts, .ref h_this_sizes, .ref h_this_number, .ref h_this_holds, .ref h_this_heldOne, .ref h_this_trace, .int x_this_traced, .int x_this_own, .int x_this_isParted]), (h_this_code0, ia G 200 g_this_code0), (h_this_letters, ca G 144 f_this_letters), (h_this_read, ia G 24 g_this_read), (h_this_s, ia G 313 f_this_s), (h_this_tape, ia G 200 f_this_tape)]) C h fw_X9_127 0 rfl rfl rfl (Nat.le_of_ble_eq_true rfl) dX9_rules_44 rfl (fun H locs h => ?_)
    refine lv_iload_n hx hb dX9_rules_47 rfl (lv_at hl 2 rfl) ?_
    refine lv_if_ne (tgt := 59) hx hb dX9_rules_48 rfl (fun c7 => ?_) (fun c7 => ?_)
    · replace hf := ifn c7 hf
      refine lv_aload_n hx hb dX9_rules_59 rfl (lv_at hl 0 rfl) ?_
      refine r_get C h fk_X9_9 0 rfl rfl dX9_rules_60 ?_
      refine lv_iconst (v := (5 : Int32)) hx hb dX9_rules_63 rfl ?_
      refine lv_iload_n hx hb dX9_rules_64 rfl (lv_at hl 1 rfl) ?_
      refine r_iastL (ws' := [(h_this, ob 9 [.ref h_this_s, .ref h_this_kept, .ref h_this_laid, .int x_this_isKept, .ref h_this_pile, .ref h_this_tape, .int (0 : Int32), .ref h_this_letters, .int y_this_at, .int y_this_begun, .int y_this_token, .int y_this_value, .int y_this_opened, .int y_this_steps, .ref h_this_code0, .ref h_this_read, .ref h_this_saved, .ref h_this_plan, .ref h_this_bestPlan, .int x_this_most, .int x_this_many, .int x_this_few, .int x_this_everHome, .ref h_this_offThen, .ref h_this_paidThen, .int x_this_firstFit, .ref h_this_rows, .int x_this_rowMany, .ref h_this_sorts, .ref h_this_sizes, .ref h_this_number, .ref h_this_holds, .ref h_this_heldOne, .ref h_this_trace, .int x_this_traced, .int x_this_own, .int x_this_isParted]), (h_this_code0, ia G 200 g_this_code0), (h_this_letters, ca G 144 f_this_letters), (h_this_read, ia G 24 g_this_read), (h_this_s, ia G 313 (upd f_this_s 5 v1)), (h_this_tape, ia G 200 f_this_tape)]) C h 4 rfl (vlit rfl) 5 rfl dX9_rules_65 rfl (fun H locs h => ?_)
      refine lv_iconst (v := (0 : Int32)) hx hb dX9_rules_66 rfl ?_
      refine lv_istore_n (lv' := [(3, .int (0 : Int32)), (0, .ref h_this), (1, .int v1), (2, .int v2)]) hx hb dX9_rules_67 rfl hl (by decide) rfl (fun ls hl => ?_)
      exact hK2 _ _ _ _ (L68 1000 v1 (0 : Int32) (0 : Int32) y_this_at y_this_begun y_this_token y_this_value y_this_opened y_this_steps g_this_code0 g_this_read (upd f_this_s 5 v1) hf) _ _ _ h (lv_sub hl [1, 2, 0] rfl)
    · replace hf := ifp c7 hf
      refine lv_bipush (v := (-100 : Int32)) hx hb dX9_rules_51 rfl ?_
      refine lv_aload_n hx hb dX9_rules_53 rfl (lv_at hl 0 rfl) ?_
      refine r_get C h fk_X9_134 0 rfl rfl dX9_rules_54 ?_
      refine lv_isub hx hb dX9_rules_57 ?_
      obtain ⟨rfl, rfl, rfl, rfl, rfl, rfl, rfl, rfl, rfl, rfl, rfl⟩ := sm11 hf
      exact r_iret C h hr hlk rfl dX9_rules_58
  have L18 : ∀ (n : Nat) (v1 : Int32) (v2 : Int32) (y_this_at : Int32) (y_this_begun : Int32) (y_this_token : Int32) (y_this_value : Int32) (y_this_opened : Int32) (y_this_steps : Int32) (g_this_code0 : Nat → Int32) (g_this_read : Nat → Int32), f_X9_rules_L18 x_this_taped f_this_letters f_this_s f_this_tape n v1 v2 y_this_at y_this_begun y_this_token y_this_value y_this_opened y_this_steps g_this_code0 g_this_read = some (r, m_this_taped, m_this_at, m_this_begun, m_this_token, m_this_value, m_this_opened, m_this_steps, m_this_code0, m_this_read, m_this_s) → K 18 ([] : List Value) [(h_this, ob 9 [.ref h_this_s, .ref h_this_kept, .ref h_this_laid, .int x_this_isKept, .ref h_this_pile, .ref h_this_tape, .int x_this_taped, .ref h_this_letters, .int y_this_at, .int y_this_begun, .int y_this_token, .int y_this_value, .int y_this_opened, .int y_this_steps, .ref h_this_code0, .ref h_this_read, .ref h_this_saved, .ref h_this_plan, .ref h_this_bestPlan, .int x_this_most, .int x_this_many, .int x_this_few, .int x_this_everHome, .ref h_this_offThen, .ref h_this_paidThen, .int x_this_firstFit, .ref h_this_rows, .int x_this_rowMany, .ref h_this_sorts, .ref h_this_sizes, .ref h_this_number, .ref h_this_holds, .ref h_this_heldOne, .ref h_this_trace, .int x_this_traced, .int x_this_own, .int x_this_isParted]), (h_this_code0, ia G 200 g_this_code0), (h_this_letters, ca G 144 f_this_letters), (h_this_read, ia G 24 g_this_read), (h_this_s, ia G 313 f_this_s), (h_this_tape, ia G 200 f_this_tape)] [(0, .ref h_this), (1, .int v1), (2, .int v2)] := by
    intro n
    induction n with
    | zero =>
      intro v1 v2 y_this_at y_this_begun y_this_token y_this_value y_this_opened y_this_steps g_this_code0 g_this_read hf
      replace hf : (none : Option _) = some _ := hf
      cases hf
    | succ n ih =>
      intro v1 v2 y_this_at y_this_begun y_this_token y_this_value y_this_opened y_this_steps g_this_code0 g_this_read hf
      rw [f_X9_rules_L18] at hf
      refine hK1 _ _ _ _ (fun H locs ls h hl => ?_)
      refine lv_iload_n hx hb dX9_rules_18 rfl (lv_at hl 2 rfl) ?_
      refine lv_if_eq (tgt := 42) hx hb dX9_rules_19 rfl (fun c6 => ?_) (fun c6 => ?_)
      · replace hf := ifp c6 hf
        exact hK2 _ _ _ _ (B42 v1 v2 y_this_at y_this_begun y_this_token y_this_value y_this_opened y_this_steps g_this_code0 g_this_read hf) _ _ _ h (lv_sub hl [0, 1, 2] rfl)
      · replace hf := ifn c6 hf
        refine lv_aload_n hx hb dX9_rules_22 rfl (lv_at hl 0 rfl) ?_
        refine r_get C h fk_X9_140 0 rfl rfl dX9_rules_23 ?_
        refine lv_iconst (v := (-1 : Int32)) hx hb dX9_rules_26 rfl ?_
        refine lv_icmp_eq (tgt := 42) hx hb dX9_rules_27 rfl (fun c18 => ?_) (fun c18 => ?_)
        · replace hf := ifp c18 hf
          exact hK2 _ _ _ _ (B42 v1 v2 y_this_at y_this_begun y_this_token y_this_value y_this_opened y_this_steps g_this_code0 g_this_read hf) _ _ _ h (lv_sub hl [0, 1, 2] rfl)
        · replace hf := ifn c18 hf
          refine lv_aload_n hx hb dX9_rules_30 rfl (lv_at hl 0 rfl) ?_
          refine lv_iload_n hx hb dX9_rules_31 rfl (lv_at hl 1 rfl) ?_
          replace hf := bd9_inv hf
          obtain ⟨r19, y20, y21, y22, y23, y24, y25, g26, g27, hc28, hf⟩ := hf
          refine r_ciV (ws' := [(h_this, ob 9 [.ref h_this_s, .ref h_this_kept, .ref h_this_laid, .int x_this_isKept, .ref h_this_pile, .ref h_this_tape, .int x_this_taped, .ref h_this_letters, .int y20, .int y21, .int y22, .int y23, .int y24, .int y25, .ref h_this_code0, .ref h_this_read, .ref h_this_saved, .ref h_this_plan, .ref h_this_bestPlan, .int x_this_most, .int x_this_many, .int x_this_few, .int x_this_everHome, .ref h_this_offThen, .ref h_this_paidThen, .int x_this_firstFit, .ref h_this_rows, .int x_this_rowMany, .ref h_this_sorts, .ref h_this_sizes, .ref h_this_number, .ref h_this_holds, .ref h_this_heldOne, .ref h_this_trace, .int x_this_traced, .int x_this_own, .int x_this_isParted]), (h_this_code0, ia G 200 g26), (h_this_letters, ca G 144 f_this_letters), (h_this_read, ia G 24 g27), (h_this_s, ia G 313 f_this_s), (h_this_tape, ia G 200 f_this_tape)]) C h (c_X9_readsRule hc28) mv_X9_192 rfl 0 rfl [0, 1, 2, 3, 5] rfl rfl [0, 1, 3] [(h_this, ob 9 [.ref h_this_s, .ref h_this_kept, .ref h_this_laid, .int x_this_isKept, .ref h_this_pile, .ref h_this_tape, .int x_this_taped, .ref h_this_letters, .int y20, .int y21, .int y22, .int y23, .int y24, .int y25, .ref h_this_code0, .ref h_this_read, .ref h_this_saved, .ref h_this_plan, .ref h_this_bestPlan, .int x_this_most, .int x_this_many, .int x_this_few, .int x_this_everHome, .ref h_this_offThen, .ref h_this_paidThen, .int x_this_firstFit, .ref h_this_rows, .int x_this_rowMany, .ref h_this_sorts, .ref h_this_sizes, .ref h_this_number, .ref h_this_holds, .ref h_this_heldOne, .ref h_this_trace, .int x_this_traced, .int x_this_own, .int x_this_isParted]), (h_this_code0, ia G 200 g26), (h_this_read, ia G 24 g27)] rfl rfl (by decide +kernel) rfl hl.1 rfl (Nat.le_of_ble_eq_true rfl) (rok (by decide)) dX9_rules_32 (fun H locs h => ?_)
          refine lv_istore_n (lv' := [(2, .int r19), (0, .ref h_this), (1, .int v1)]) hx hb dX9_rules_35 rfl hl (by decide) rfl (fun ls hl => ?_)
          obtain ⟨t29, et29⟩ : ∃ y : Int32, y = v1 + (1 : Int32) := ⟨_, rfl⟩
          replace hf := lt1_inv et29 hf
          refine lv_iinc (v := t29) (lv' := [(1, .int t29), (2, .int r19), (0, .ref h_this)]) hx hb dX9_rules_36 hl (k := 2) rfl (by rw [et29]; rfl) (by decide) rfl (fun ls hl => ?_)
          refine lv_goto (tgt := 18) hx hb dX9_rules_39 rfl ?_
          exact hK2 _ _ _ _ (ih t29 r19 y20 y21 y22 y23 y24 y25 g26 g27 hf) _ _ _ h (lv_sub hl [2, 0, 1] rfl)
  refine lv_aload_n hx hb dX9_rules_0 rfl (lv_at hl 0 rfl) ?_
  refine lv_iconst (v := (0 : Int32)) hx hb dX9_rules_1 rfl ?_
  refine r_put (ws' := [(h_this, ob 9 [.ref h_this_s, .ref h_this_kept, .ref h_this_laid, .int x_this_isKept, .ref h_this_pile, .ref h_this_tape, .int x_this_taped, .ref h_this_letters, .int (0 : Int32), .int x_this_begun, .int x_this_token, .int x_this_value, .int x_this_opened, .int x_this_steps, .ref h_this_code0, .ref h_this_read, .ref h_this_saved, .ref h_this_plan, .ref h_this_bestPlan, .int x_this_most, .int x_this_many, .int x_this_few, .int x_this_everHome, .ref h_this_offThen, .ref h_this_paidThen, .int x_this_firstFit, .ref h_this_rows, .int x_this_rowMany, .ref h_this_sorts, .ref h_this_sizes, .ref h_this_number, .ref h_this_holds, .ref h_this_heldOne, .ref h_this_trace, .int x_this_traced, .int x_this_own, .int x_this_isParted]), (h_this_code0, ia G 200 f_this_code0), (h_this_letters, ca G 144 f_this_letters), (h_this_read, ia G 24 f_this_read), (h_this_s, ia G 313 f_this_s), (h_this_tape, ia G 200 f_this_tape)]) C h fw_X9_131 0 rfl rfl rfl (Nat.le_of_ble_eq_true rfl) dX9_rules_2 rfl (fun H locs h => ?_)
  refine lv_aload_n hx hb dX9_rules_5 rfl (lv_at hl 0 rfl) ?_
  refine lv_iconst (v := (0 : Int32)) hx hb dX9_rules_6 rfl ?_
  refine r_put (ws' := [(h_this, ob 9 [.ref h_this_s, .ref h_this_kept, .ref h_this_laid, .int x_this_isKept, .ref h_this_pile, .ref h_this_tape, .int x_this_taped, .ref h_this_letters, .int (0 : Int32), .int x_this_begun, .int x_this_token, .int x_this_value, .int x_this_opened, .int (0 : Int32), .ref h_this_code0, .ref h_this_read, .ref h_this_saved, .ref h_this_plan, .ref h_this_bestPlan, .int x_this_most, .int x_this_many, .int x_this_few, .int x_this_everHome, .ref h_this_offThen, .ref h_this_paidThen, .int x_this_firstFit, .ref h_this_rows, .int x_this_rowMany, .ref h_this_sorts, .ref h_this_sizes, .ref h_this_number, .ref h_this_holds, .ref h_this_heldOne, .ref h_this_trace, .int x_this_traced, .int x_this_own, .int x_this_isParted]), (h_this_code0, ia G 200 f_this_code0), (h_this_letters, ca G 144 f_this_letters), (h_this_read, ia G 24 f_this_read), (h_this_s, ia G 313 f_this_s), (h_this_tape, ia G 200 f_this_tape)]) C h fw_X9_158 0 rfl rfl rfl (Nat.le_of_ble_eq_true rfl) dX9_rules_7 rfl (fun H locs h => ?_)
  refine lv_iconst (v := (0 : Int32)) hx hb dX9_rules_10 rfl ?_
  refine lv_istore_n (lv' := [(1, .int (0 : Int32)), (0, .ref h_this)]) hx hb dX9_rules_11 rfl hl (by decide) rfl (fun ls hl => ?_)
  refine lv_aload_n hx hb dX9_rules_12 rfl (lv_at hl 1 rfl) ?_
  replace hf := bd4_inv hf
  obtain ⟨y1, y2, y3, y4, hc5, hf⟩ := hf
  refine r_cvV (ws' := [(h_this, ob 9 [.ref h_this_s, .ref h_this_kept, .ref h_this_laid, .int x_this_isKept, .ref h_this_pile, .ref h_this_tape, .int x_this_taped, .ref h_this_letters, .int y1, .int y2, .int y3, .int y4, .int x_this_opened, .int (0 : Int32), .ref h_this_code0, .ref h_this_read, .ref h_this_saved, .ref h_this_plan, .ref h_this_bestPlan, .int x_this_most, .int x_this_many, .int x_this_few, .int x_this_everHome, .ref h_this_offThen, .ref h_this_paidThen, .int x_this_firstFit, .ref h_this_rows, .int x_this_rowMany, .ref h_this_sorts, .ref h_this_sizes, .ref h_this_number, .ref h_this_holds, .ref h_this_heldOne, .ref h_this_trace, .int x_this_traced, .int x_this_own, .int x_this_isParted]), (h_this_code0, ia G 200 f_this_code0), (h_this_letters, ca G 144 f_this_letters), (h_this_read, ia G 24 f_this_read), (h_this_s, ia G 313 f_this_s), (h_this_tape, ia G 200 f_this_tape)]) C h (c_X9_next hc5) mv_X9_155 rfl 0 rfl [0, 2, 5] rfl rfl [0] [(h_this, ob 9 [.ref h_this_s, .ref h_this_kept, .ref h_this_laid, .int x_this_isKept, .ref h_this_pile, .ref h_this_tape, .int x_this_taped, .ref h_this_letters, .int y1, .int y2, .int y3, .int y4, .int x_this_opened, .int (0 : Int32), .ref h_this_code0, .ref h_this_read, .ref h_this_saved, .ref h_this_plan, .ref h_this_bestPlan, .int x_this_most, .int x_this_many, .int x_this_few, .int x_this_everHome, .ref h_this_offThen, .ref h_this_paidThen, .int x_this_firstFit, .ref h_this_rows, .int x_this_rowMany, .ref h_this_sorts, .ref h_this_sizes, .ref h_this_number, .ref h_this_holds, .ref h_this_heldOne, .ref h_this_trace, .int x_this_traced, .int x_this_own, .int x_this_isParted])] rfl rfl (by decide +kernel) rfl hl.1 rfl (Nat.le_of_ble_eq_true rfl) (rok (by decide)) dX9_rules_13 (fun H locs h => ?_)
  refine lv_iconst (v := (1 : Int32)) hx hb dX9_rules_16 rfl ?_
  refine lv_istore_n (lv' := [(2, .int (1 : Int32)), (1, .int (0 : Int32)), (0, .ref h_this)]) hx hb dX9_rules_17 rfl hl (by decide) rfl (fun ls hl => ?_)
  exact hK2 _ _ _ _ (L18 1000 (0 : Int32) (1 : Int32) y1 y2 y3 y4 x_this_opened (0 : Int32) f_this_code0 f_this_read hf) _ _ _ h (lv_sub hl [2, 1, 0] rfl)
def f_X9_restOne_L2 (f_this_s : Nat → Int32) : Nat → Int32 → (Nat → Int32) → Option (Int32 × (Nat → Int32))
  | 0, _, _ => none
  | n + 1, v1, g_this_pile => (if (f_this_s 4) ≤ v1 then some ((-1 : Int32), g_this_pile) else bd2 (f_X9_mayEnter v1 g_this_pile f_this_s) (fun r2 g3 => (if r2 = 0 then lt1 (v1 + (1 : Int32)) (fun (t6 : Int32) => (f_X9_restOne_L2 f_this_s n) t6 g3) else some (v1, g3))))
def f_X9_restOne (f_this_pile : Nat → Int32) (f_this_s : Nat → Int32) : Option (Int32 × (Nat → Int32)) := f_X9_restOne_L2 f_this_s 1000 (0 : Int32) f_this_pile
set_option maxRecDepth 100000 in
set_option maxHeartbeats 4000000 in
theorem c_X9_restOne {l : Launch} {G : Gt} {h_this h_this_s h_this_kept h_this_laid h_this_pile h_this_tape h_this_letters h_this_code0 h_this_read h_this_saved h_this_plan h_this_bestPlan h_this_offThen h_this_paidThen h_this_rows h_this_sorts h_this_sizes h_this_number h_this_holds h_this_heldOne h_this_trace : Nat} {x_this_isKept : Int32} {x_this_taped : Int32} {x_this_at : Int32} {x_this_begun : Int32} {x_this_token : Int32} {x_this_value : Int32} {x_this_opened : Int32} {x_this_steps : Int32} {x_this_most : Int32} {x_this_many : Int32} {x_this_few : Int32} {x_this_everHome : Int32} {x_this_firstFit : Int32} {x_this_rowMany : Int32} {x_this_traced : Int32} {x_this_own : Int32} {x_this_isParted : Int32} {f_this_pile : Nat → Int32} {f_this_s : Nat → Int32} {r : Int32} {m_this_pile : Nat → Int32} (hf : f_X9_restOne f_this_pile f_this_s = some (r, m_this_pile)) : mFi l G yX9_restOne cX9_restOne 2 .int 5 [.ref h_this] [(h_this, ob 9 [.ref h_this_s, .ref h_this_kept, .ref h_this_laid, .int x_this_isKept, .ref h_this_pile, .ref h_this_tape, .int x_this_taped, .ref h_this_letters, .int x_this_at, .int x_this_begun, .int x_this_token, .int x_this_value, .int x_this_opened, .int x_this_steps, .ref h_this_code0, .ref h_this_read, .ref h_this_saved, .ref h_this_plan, .ref h_this_bestPlan, .int x_this_most, .int x_this_many, .int x_this_few, .int x_this_everHome, .ref h_this_offThen, .ref h_this_paidThen, .int x_this_firstFit, .ref h_this_rows, .int x_this_rowMany, .ref h_this_sorts, .ref h_this_sizes, .ref h_this_number, .ref h_this_holds, .ref h_this_heldOne, .ref h_this_trace, .int x_this_traced, .int x_this_own, .int x_this_isParted]), (h_this_pile, ia G 200 f_this_pile), (h_this_s, ia G 313 f_this_s)] r [(h_this, ob 9 [.ref h_this_s, .ref h_this_kept, .ref h_this_laid, .int x_this_isKept, .ref h_this_pile, .ref h_this_tape, .int x_this_taped, .ref h_this_letters, .int x_this_at, .int x_this_begun, .int x_this_token, .int x_this_value, .int x_this_opened, .int x_this_steps, .ref h_this_code0, .ref h_this_read, .ref h_this_saved, .ref h_this_plan, .ref h_this_bestPlan, .int x_this_most, .int x_this_many, .int x_this_few, .int x_this_everHome, .ref h_this_offThen, .ref h_this_paidThen, .int x_this_firstFit, .ref h_this_rows, .int x_this_rowMany, .ref h_this_sorts, .ref h_this_sizes, .ref h_this_number, .ref h_this_holds, .ref h_this_heldOne, .ref h_this_trace, .int x_this_traced, .int x_this_own, .int x_this_isParted]), (h_this_pile, ia G 200 m_this_pile), (h_this_s, ia G 313 f_this_s)] := by
  refine mFi.of (by decide +kernel) (Nat.le_of_ble_eq_true rfl) ?_
  intro p e s m below meth c A C hr hlk h ls hl
  obtain ⟨hx, hb, hml, hown, hts⟩ := id C
  replace hl : lv_has ls 2 [(0, .ref h_this)] := hl
  unfold f_X9_restOne at hf
  refine with_K G A 2 (fun K hK1 hK2 => ?_)
  have L2 : ∀ (n : Nat) (v1 : Int32) (g_this_pile : Nat → Int32), f_X9_restOne_L2 f_this_s n v1 g_this_pile = some (r, m_this_pile) → K 2 ([] : List Value) [(h_this, ob 9 [.ref h_this_s, .ref h_this_kept, .ref h_this_laid, .int x_this_isKept, .ref h_this_pile, .ref h_this_tape, .int x_this_taped, .ref h_this_letters, .int x_this_at, .int x_this_begun, .int x_this_token, .int x_this_value, .int x_this_opened, .int x_this_steps, .ref h_this_code0, .ref h_this_read, .ref h_this_saved, .ref h_this_plan, .ref h_this_bestPlan, .int x_this_most, .int x_this_many, .int x_this_few, .int x_this_everHome, .ref h_this_offThen, .ref h_this_paidThen, .int x_this_firstFit, .ref h_this_rows, .int x_this_rowMany, .ref h_this_sorts, .ref h_this_sizes, .ref h_this_number, .ref h_this_holds, .ref h_this_heldOne, .ref h_this_trace, .int x_this_traced, .int x_this_own, .int x_this_isParted]), (h_this_pile, ia G 200 g_this_pile), (h_this_s, ia G 313 f_this_s)] [(0, .ref h_this), (1, .int v1)] := by
    intro n
    induction n with
    | zero =>
      intro v1 g_this_pile hf
      replace hf : (none : Option _) = some _ := hf
      cases hf
    | succ n ih =>
      intro v1 g_this_pile hf
      rw [f_X9_restOne_L2] at hf
      refine hK1 _ _ _ _ (fun H locs ls h hl => ?_)
      refine lv_iload_n hx hb dX9_restOne_2 rfl (lv_at hl 1 rfl) ?_
      refine lv_aload_n hx hb dX9_restOne_3 rfl (lv_at hl 0 rfl) ?_
      refine r_get C h fk_X9_9 0 rfl rfl dX9_restOne_4 ?_
      refine lv_iconst (v := (4 : Int32)) hx hb dX9_restOne_7 rfl ?_
      refine r_ialdL C h 2 rfl (vlit rfl) 4 rfl dX9_restOne_8 ?_
      refine lv_icmp_ge (tgt := 28) hx hb dX9_restOne_9 rfl (fun c1 => ?_) (fun c1 => ?_)
      · replace hf := ifp c1 hf
        refine lv_iconst (v := (-1 : Int32)) hx hb dX9_restOne_28 rfl ?_
        cases hf
        exact r_iret C h hr hlk rfl dX9_restOne_29
      · replace hf := ifn c1 hf
        refine lv_aload_n hx hb dX9_restOne_12 rfl (lv_at hl 0 rfl) ?_
        refine lv_iload_n hx hb dX9_restOne_13 rfl (lv_at hl 1 rfl) ?_
        replace hf := bd2_inv hf
        obtain ⟨r2, g3, hc4, hf⟩ := hf
        refine r_ciV (ws' := [(h_this, ob 9 [.ref h_this_s, .ref h_this_kept, .ref h_this_laid, .int x_this_isKept, .ref h_this_pile, .ref h_this_tape, .int x_this_taped, .ref h_this_letters, .int x_this_at, .int x_this_begun, .int x_this_token, .int x_this_value, .int x_this_opened, .int x_this_steps, .ref h_this_code0, .ref h_this_read, .ref h_this_saved, .ref h_this_plan, .ref h_this_bestPlan, .int x_this_most, .int x_this_many, .int x_this_few, .int x_this_everHome, .ref h_this_offThen, .ref h_this_paidThen, .int x_this_firstFit, .ref h_this_rows, .int x_this_rowMany, .ref h_this_sorts, .ref h_this_sizes, .ref h_this_number, .ref h_this_holds, .ref h_this_heldOne, .ref h_this_trace, .int x_this_traced, .int x_this_own, .int x_this_isParted]), (h_this_pile, ia G 200 g3), (h_this_s, ia G 313 f_this_s)]) C h (c_X9_mayEnter hc4) mv_X9_205 rfl 0 rfl [0, 1, 2] rfl rfl [1] [(h_this_pile, ia G 200 g3)] rfl rfl (by decide +kernel) rfl hl.1 rfl (Nat.le_of_ble_eq_true rfl) (rok (by decide)) dX9_restOne_14 (fun H locs h => ?_)
        refine lv_if_eq (tgt := 22) hx hb dX9_restOne_17 rfl (fun c5 => ?_) (fun c5 => ?_)
        · replace hf := ifp c5 hf
          obtain ⟨t6, et6⟩ : ∃ y : Int32, y = v1 + (1 : Int32) := ⟨_, rfl⟩
          replace hf := lt1_inv et6 hf
          refine lv_iinc (v := t6) (lv' := [(1, .int t6), (0, .ref h_this)]) hx hb dX9_restOne_22 hl (k := 1) rfl (by rw [et6]; rfl) (by decide) rfl (fun ls hl => ?_)
          refine lv_goto (tgt := 2) hx hb dX9_restOne_25 rfl ?_
          exact hK2 _ _ _ _ (ih t6 g3 hf) _ _ _ h (lv_sub hl [1, 0] rfl)
        · replace hf := ifn c5 hf
          refine lv_iload_n hx hb dX9_restOne_20 rfl (lv_at hl 1 rfl) ?_
          cases hf
          exact r_iret C h hr hlk rfl dX9_restOne_21
  refine lv_iconst (v := (0 : Int32)) hx hb dX9_restOne_0 rfl ?_
  refine lv_istore_n (lv' := [(1, .int (0 : Int32)), (0, .ref h_this)]) hx hb dX9_restOne_1 rfl hl (by decide) rfl (fun ls hl => ?_)
  exact hK2 _ _ _ _ (L2 1000 (0 : Int32) f_this_pile hf) _ _ _ h (lv_sub hl [1, 0] rfl)
def f_X9_enters (p0 : Int32) (f_this_s : Nat → Int32) : Option (Int32 × (Nat → Int32)) := bd1 (f_X9_paysOf p0 f_this_s) (fun r1 => (if r1 ≤ 0 then bd1 (f_X9_puts p0 (4 : Int32) (0 : Int32) f_this_s) (fun g4 => some (r1, g4)) else bd1 (f_X9_puts p0 (4 : Int32) (1 : Int32) f_this_s) (fun g6 => some (r1, g6))))
set_option maxRecDepth 100000 in
set_option maxHeartbeats 4000000 in
theorem c_X9_enters {l : Launch} {G : Gt} {h_this h_this_s h_this_kept h_this_laid h_this_pile h_this_tape h_this_letters h_this_code0 h_this_read h_this_saved h_this_plan h_this_bestPlan h_this_offThen h_this_paidThen h_this_rows h_this_sorts h_this_sizes h_this_number h_this_holds h_this_heldOne h_this_trace : Nat} {p0 : Int32} {x_this_isKept : Int32} {x_this_taped : Int32} {x_this_at : Int32} {x_this_begun : Int32} {x_this_token : Int32} {x_this_value : Int32} {x_this_opened : Int32} {x_this_steps : Int32} {x_this_most : Int32} {x_this_many : Int32} {x_this_few : Int32} {x_this_everHome : Int32} {x_this_firstFit : Int32} {x_this_rowMany : Int32} {x_this_traced : Int32} {x_this_own : Int32} {x_this_isParted : Int32} {f_this_s : Nat → Int32} {r : Int32} {m_this_s : Nat → Int32} (hf : f_X9_enters p0 f_this_s = some (r, m_this_s)) : mFi l G yX9_enters cX9_enters 3 .int 4 [.ref h_this, .int p0] [(h_this, ob 9 [.ref h_this_s, .ref h_this_kept, .ref h_this_laid, .int x_this_isKept, .ref h_this_pile, .ref h_this_tape, .int x_this_taped, .ref h_this_letters, .int x_this_at, .int x_this_begun, .int x_this_token, .int x_this_value, .int x_this_opened, .int x_this_steps, .ref h_this_code0, .ref h_this_read, .ref h_this_saved, .ref h_this_plan, .ref h_this_bestPlan, .int x_this_most, .int x_this_many, .int x_this_few, .int x_this_everHome, .ref h_this_offThen, .ref h_this_paidThen, .int x_this_firstFit, .ref h_this_rows, .int x_this_rowMany, .ref h_this_sorts, .ref h_this_sizes, .ref h_this_number, .ref h_this_holds, .ref h_this_heldOne, .ref h_this_trace, .int x_this_traced, .int x_this_own, .int x_this_isParted]), (h_this_s, ia G 313 f_this_s)] r [(h_this, ob 9 [.ref h_this_s, .ref h_this_kept, .ref h_this_laid, .int x_this_isKept, .ref h_this_pile, .ref h_this_tape, .int x_this_taped, .ref h_this_letters, .int x_this_at, .int x_this_begun, .int x_this_token, .int x_this_value, .int x_this_opened, .int x_this_steps, .ref h_this_code0, .ref h_this_read, .ref h_this_saved, .ref h_this_plan, .ref h_this_bestPlan, .int x_this_most, .int x_this_many, .int x_this_few, .int x_this_everHome, .ref h_this_offThen, .ref h_this_paidThen, .int x_this_firstFit, .ref h_this_rows, .int x_this_rowMany, .ref h_this_sorts, .ref h_this_sizes, .ref h_this_number, .ref h_this_holds, .ref h_this_heldOne, .ref h_this_trace, .int x_this_traced, .int x_this_own, .int x_this_isParted]), (h_this_s, ia G 313 m_this_s)] := by
  refine mFi.of (by decide +kernel) (Nat.le_of_ble_eq_true rfl) ?_
  intro p e s m below meth c A C hr hlk h ls hl
  obtain ⟨hx, hb, hml, hown, hts⟩ := id C
  replace hl : lv_has ls 3 [(0, .ref h_this), (1, .int p0)] := hl
  unfold f_X9_enters at hf
  refine lv_aload_n hx hb dX9_enters_0 rfl (lv_at hl 0 rfl) ?_
  refine lv_iload_n hx hb dX9_enters_1 rfl (lv_at hl 1 rfl) ?_
  replace hf := bd1_inv hf
  obtain ⟨r1, hc2, hf⟩ := hf
  refine r_ciV0 C h (c_X9_paysOf hc2) mv_X9_105 rfl 0 rfl [0, 1] rfl rfl hl.1 rfl (Nat.le_of_ble_eq_true rfl) (rok (by decide)) dX9_enters_2 (fun H locs h => ?_)
  refine lv_istore_n (lv' := [(2, .int r1), (0, .ref h_this), (1, .int p0)]) hx hb dX9_enters_5 rfl hl (by decide) rfl (fun ls hl => ?_)
  refine lv_aload_n hx hb dX9_enters_6 rfl (lv_at hl 1 rfl) ?_
  refine lv_iload_n hx hb dX9_enters_7 rfl (lv_at hl 2 rfl) ?_
  refine lv_iconst (v := (4 : Int32)) hx hb dX9_enters_8 rfl ?_
  refine lv_iload_n hx hb dX9_enters_9 rfl (lv_at hl 0 rfl) ?_
  refine lv_if_le (tgt := 17) hx hb dX9_enters_10 rfl (fun c3 => ?_) (fun c3 => ?_)
  · replace hf := ifp c3 hf
    refine lv_iconst (v := (0 : Int32)) hx hb dX9_enters_17 rfl ?_
    replace hf := bd1_inv hf
    obtain ⟨g4, hc5, hf⟩ := hf
    refine r_cvV (ws' := [(h_this, ob 9 [.ref h_this_s, .ref h_this_kept, .ref h_this_laid, .int x_this_isKept, .ref h_this_pile, .ref h_this_tape, .int x_this_taped, .ref h_this_letters, .int x_this_at, .int x_this_begun, .int x_this_token, .int x_this_value, .int x_this_opened, .int x_this_steps, .ref h_this_code0, .ref h_this_read, .ref h_this_saved, .ref h_this_plan, .ref h_this_bestPlan, .int x_this_most, .int x_this_many, .int x_this_few, .int x_this_everHome, .ref h_this_offThen, .ref h_this_paidThen, .int x_this_firstFit, .ref h_this_rows, .int x_this_rowMany, .ref h_this_sorts, .ref h_this_sizes, .ref h_this_number, .ref h_this_holds, .ref h_this_heldOne, .ref h_this_trace, .int x_this_traced, .int x_this_own, .int x_this_isParted]), (h_this_s, ia G 313 g4)]) C h (c_X9_puts hc5) mv_X9_195 rfl 0 rfl [0, 1] rfl rfl [1] [(h_this_s, ia G 313 g4)] rfl rfl (by decide +kernel) rfl hl.1 rfl (Nat.le_of_ble_eq_true rfl) (rok (by decide)) dX9_enters_18 (fun H locs h => ?_)
    refine lv_iload_n hx hb dX9_enters_21 rfl (lv_at hl 0 rfl) ?_
    cases hf
    exact r_iret C h hr hlk rfl dX9_enters_22
  · replace hf := ifn c3 hf
    refine lv_iconst (v := (1 : Int32)) hx hb dX9_enters_13 rfl ?_
    refine lv_goto (tgt := 18) hx hb dX9_enters_14 rfl ?_
    replace hf := bd1_inv hf
    obtain ⟨g6, hc7, hf⟩ := hf
    refine r_cvV (ws' := [(h_this, ob 9 [.ref h_this_s, .ref h_this_kept, .ref h_this_laid, .int x_this_isKept, .ref h_this_pile, .ref h_this_tape, .int x_this_taped, .ref h_this_letters, .int x_this_at, .int x_this_begun, .int x_this_token, .int x_this_value, .int x_this_opened, .int x_this_steps, .ref h_this_code0, .ref h_this_read, .ref h_this_saved, .ref h_this_plan, .ref h_this_bestPlan, .int x_this_most, .int x_this_many, .int x_this_few, .int x_this_everHome, .ref h_this_offThen, .ref h_this_paidThen, .int x_this_firstFit, .ref h_this_rows, .int x_this_rowMany, .ref h_this_sorts, .ref h_this_sizes, .ref h_this_number, .ref h_this_holds, .ref h_this_heldOne, .ref h_this_trace, .int x_this_traced, .int x_this_own, .int x_this_isParted]), (h_this_s, ia G 313 g6)]) C h (c_X9_puts hc7) mv_X9_195 rfl 0 rfl [0, 1] rfl rfl [1] [(h_this_s, ia G 313 g6)] rfl rfl (by decide +kernel) rfl hl.1 rfl (Nat.le_of_ble_eq_true rfl) (rok (by decide)) dX9_enters_18 (fun H locs h => ?_)
    refine lv_iload_n hx hb dX9_enters_21 rfl (lv_at hl 0 rfl) ?_
    cases hf
    exact r_iret C h hr hlk rfl dX9_enters_22
def f_X9_held (p0 : Int32) (p1 : Int32) : Option (Int32) := (if 0 ≤ p0 then (if p0 ≤ p1 then some p0 else some p1) else some (0 : Int32))
set_option maxRecDepth 100000 in
set_option maxHeartbeats 4000000 in
theorem c_X9_held {l : Launch} {G : Gt} {p0 : Int32} {p1 : Int32} {r : Int32} (hf : f_X9_held p0 p1 = some r) : mFi l G yX9_held cX9_held 2 .int 0 [.int p0, .int p1] ([] : va_W) r ([] : va_W) := by
  refine mFi.of (by decide +kernel) (Nat.le_of_ble_eq_true rfl) ?_
  intro p e s m below meth c A C hr hlk h ls hl
  obtain ⟨hx, hb, hml, hown, hts⟩ := id C
  replace hl : lv_has ls 2 [(0, .int p0), (1, .int p1)] := hl
  unfold f_X9_held at hf
  refine lv_iload_n hx hb dX9_held_0 rfl (lv_at hl 0 rfl) ?_
  refine lv_if_ge (tgt := 8) hx hb dX9_held_1 rfl (fun c1 => ?_) (fun c1 => ?_)
  · replace hf := ifp c1 hf
    refine lv_iload_n hx hb dX9_held_8 rfl (lv_at hl 0 rfl) ?_
    refine lv_iload_n hx hb dX9_held_9 rfl (lv_at hl 1 rfl) ?_
    refine lv_icmp_le (tgt := 17) hx hb dX9_held_10 rfl (fun c2 => ?_) (fun c2 => ?_)
    · replace hf := ifp c2 hf
      refine lv_iload_n hx hb dX9_held_17 rfl (lv_at hl 0 rfl) ?_
      cases hf
      exact r_iret C h hr hlk rfl dX9_held_18
    · replace hf := ifn c2 hf
      refine lv_iload_n hx hb dX9_held_13 rfl (lv_at hl 1 rfl) ?_
      refine lv_goto (tgt := 18) hx hb dX9_held_14 rfl ?_
      cases hf
      exact r_iret C h hr hlk rfl dX9_held_18
  · replace hf := ifn c1 hf
    refine lv_iconst (v := (0 : Int32)) hx hb dX9_held_4 rfl ?_
    refine lv_goto (tgt := 18) hx hb dX9_held_5 rfl ?_
    cases hf
    exact r_iret C h hr hlk rfl dX9_held_18
def f_X9_meets (p0 : Int32) (f_this_pile : Nat → Int32) (f_this_s : Nat → Int32) : Option (Int32 × (Nat → Int32) × (Nat → Int32)) := bd2 (f_X9_willOf p0 f_this_pile f_this_s) (fun r1 g2 => bd1 (f_X9_get p0 (4 : Int32) f_this_s) (fun r4 => (if r4 = (1 : Int32) then some ((0 : Int32), g2, f_this_s) else (if r1 = (1 : Int32) then some ((0 : Int32), g2, f_this_s) else (if r1 = 0 then bd2 (f_X9_enters p0 f_this_s) (fun r18 g19 => some (r18, g2, g19)) else bd1 (f_X9_get p0 (1 : Int32) f_this_s) (fun r9 => bd1 (f_X9_held (r9 + (12 : Int32)) (99 : Int32)) (fun r11 => bd1 (f_X9_puts p0 (1 : Int32) r11 f_this_s) (fun g13 => bd1 (f_X9_lightNow g13) (fun r15 => (if (r15 - r15 / (4 : Int32) * (4 : Int32)) ≤ (1 : Int32) then some ((0 : Int32), g2, g13) else some ((1 : Int32), g2, g13)))))))))))
set_option maxRecDepth 100000 in
set_option maxHeartbeats 4000000 in
theorem c_X9_meets {l : Launch} {G : Gt} {h_this h_this_s h_this_kept h_this_laid h_this_pile h_this_tape h_this_letters h_this_code0 h_this_read h_this_saved h_this_plan h_this_bestPlan h_this_offThen h_this_paidThen h_this_rows h_this_sorts h_this_sizes h_this_number h_this_holds h_this_heldOne h_this_trace : Nat} {p0 : Int32} {x_this_isKept : Int32} {x_this_taped : Int32} {x_this_at : Int32} {x_this_begun : Int32} {x_this_token : Int32} {x_this_value : Int32} {x_this_opened : Int32} {x_this_steps : Int32} {x_this_most : Int32} {x_this_many : Int32} {x_this_few : Int32} {x_this_everHome : Int32} {x_this_firstFit : Int32} {x_this_rowMany : Int32} {x_this_traced : Int32} {x_this_own : Int32} {x_this_isParted : Int32} {f_this_pile : Nat → Int32} {f_this_s : Nat → Int32} {r : Int32} {m_this_pile : Nat → Int32} {m_this_s : Nat → Int32} (hf : f_X9_meets p0 f_this_pile f_this_s = some (r, m_this_pile, m_this_s)) : mFi l G yX9_meets cX9_meets 3 .int 5 [.ref h_this, .int p0] [(h_this, ob 9 [.ref h_this_s, .ref h_this_kept, .ref h_this_laid, .int x_this_isKept, .ref h_this_pile, .ref h_this_tape, .int x_this_taped, .ref h_this_letters, .int x_this_at, .int x_this_begun, .int x_this_token, .int x_this_value, .int x_this_opened, .int x_this_steps, .ref h_this_code0, .ref h_this_read, .ref h_this_saved, .ref h_this_plan, .ref h_this_bestPlan, .int x_this_most, .int x_this_many, .int x_this_few, .int x_this_everHome, .ref h_this_offThen, .ref h_this_paidThen, .int x_this_firstFit, .ref h_this_rows, .int x_this_rowMany, .ref h_this_sorts, .ref h_this_sizes, .ref h_this_number, .ref h_this_holds, .ref h_this_heldOne, .ref h_this_trace, .int x_this_traced, .int x_this_own, .int x_this_isParted]), (h_this_pile, ia G 200 f_this_pile), (h_this_s, ia G 313 f_this_s)] r [(h_this, ob 9 [.ref h_this_s, .ref h_this_kept, .ref h_this_laid, .int x_this_isKept, .ref h_this_pile, .ref h_this_tape, .int x_this_taped, .ref h_this_letters, .int x_this_at, .int x_this_begun, .int x_this_token, .int x_this_value, .int x_this_opened, .int x_this_steps, .ref h_this_code0, .ref h_this_read, .ref h_this_saved, .ref h_this_plan, .ref h_this_bestPlan, .int x_this_most, .int x_this_many, .int x_this_few, .int x_this_everHome, .ref h_this_offThen, .ref h_this_paidThen, .int x_this_firstFit, .ref h_this_rows, .int x_this_rowMany, .ref h_this_sorts, .ref h_this_sizes, .ref h_this_number, .ref h_this_holds, .ref h_this_heldOne, .ref h_this_trace, .int x_this_traced, .int x_this_own, .int x_this_isParted]), (h_this_pile, ia G 200 m_this_pile), (h_this_s, ia G 313 m_this_s)] := by
  refine mFi.of (by decide +kernel) (Nat.le_of_ble_eq_true rfl) ?_
  intro p e s m below meth c A C hr hlk h ls hl
  obtain ⟨hx, hb, hml, hown, hts⟩ := id C
  replace hl : lv_has ls 3 [(0, .ref h_this), (1, .int p0)] := hl
  unfold f_X9_meets at hf
  refine lv_aload_n hx hb dX9_meets_0 rfl (lv_at hl 0 rfl) ?_
  refine lv_iload_n hx hb dX9_meets_1 rfl (lv_at hl 1 rfl) ?_
  replace hf := bd2_inv hf
  obtain ⟨r1, g2, hc3, hf⟩ := hf
  refine r_ciV (ws' := [(h_this, ob 9 [.ref h_this_s, .ref h_this_kept, .ref h_this_laid, .int x_this_isKept, .ref h_this_pile, .ref h_this_tape, .int x_this_taped, .ref h_this_letters, .int x_this_at, .int x_this_begun, .int x_this_token, .int x_this_value, .int x_this_opened, .int x_this_steps, .ref h_this_code0, .ref h_this_read, .ref h_this_saved, .ref h_this_plan, .ref h_this_bestPlan, .int x_this_most, .int x_this_many, .int x_this_few, .int x_this_everHome, .ref h_this_offThen, .ref h_this_paidThen, .int x_this_firstFit, .ref h_this_rows, .int x_this_rowMany, .ref h_this_sorts, .ref h_this_sizes, .ref h_this_number, .ref h_this_holds, .ref h_this_heldOne, .ref h_this_trace, .int x_this_traced, .int x_this_own, .int x_this_isParted]), (h_this_pile, ia G 200 g2), (h_this_s, ia G 313 f_this_s)]) C h (c_X9_willOf hc3) mv_X9_102 rfl 0 rfl [0, 1, 2] rfl rfl [1] [(h_this_pile, ia G 200 g2)] rfl rfl (by decide +kernel) rfl hl.1 rfl (Nat.le_of_ble_eq_true rfl) (rok (by decide)) dX9_meets_2 (fun H locs h => ?_)
  refine lv_istore_n (lv' := [(2, .int r1), (0, .ref h_this), (1, .int p0)]) hx hb dX9_meets_5 rfl hl (by decide) rfl (fun ls hl => ?_)
  refine lv_aload_n hx hb dX9_meets_6 rfl (lv_at hl 1 rfl) ?_
  refine lv_iload_n hx hb dX9_meets_7 rfl (lv_at hl 2 rfl) ?_
  refine lv_iconst (v := (4 : Int32)) hx hb dX9_meets_8 rfl ?_
  replace hf := bd1_inv hf
  obtain ⟨r4, hc5, hf⟩ := hf
  refine r_ciV0 C h (c_X9_get hc5) mv_X9_79 rfl 0 rfl [0, 2] rfl rfl hl.1 rfl (Nat.le_of_ble_eq_true rfl) (rok (by decide)) dX9_meets_9 (fun H locs h => ?_)
  refine lv_iconst (v := (1 : Int32)) hx hb dX9_meets_12 rfl ?_
  refine lv_icmp_eq (tgt := 21) hx hb dX9_meets_13 rfl (fun c6 => ?_) (fun c6 => ?_)
  · replace hf := ifp c6 hf
    refine lv_iconst (v := (0 : Int32)) hx hb dX9_meets_21 rfl ?_
    cases hf
    exact r_iret C h hr hlk rfl dX9_meets_22
  · replace hf := ifn c6 hf
    refine lv_iload_n hx hb dX9_meets_16 rfl (lv_at hl 0 rfl) ?_
    refine lv_iconst (v := (1 : Int32)) hx hb dX9_meets_17 rfl ?_
    refine lv_icmp_ne (tgt := 23) hx hb dX9_meets_18 rfl (fun c7 => ?_) (fun c7 => ?_)
    · replace hf := ifn c7 hf
      refine lv_iload_n hx hb dX9_meets_23 rfl (lv_at hl 0 rfl) ?_
      refine lv_if_ne (tgt := 33) hx hb dX9_meets_24 rfl (fun c8 => ?_) (fun c8 => ?_)
      · replace hf := ifn c8 hf
        refine lv_aload_n hx hb dX9_meets_33 rfl (lv_at hl 1 rfl) ?_
        refine lv_iload_n hx hb dX9_meets_34 rfl (lv_at hl 2 rfl) ?_
        refine lv_iconst (v := (1 : Int32)) hx hb dX9_meets_35 rfl ?_
        refine lv_aload_n hx hb dX9_meets_36 rfl (lv_at hl 1 rfl) ?_
        refine lv_iload_n hx hb dX9_meets_37 rfl (lv_at hl 2 rfl) ?_
        refine lv_iconst (v := (1 : Int32)) hx hb dX9_meets_38 rfl ?_
        replace hf := bd1_inv hf
        obtain ⟨r9, hc10, hf⟩ := hf
        refine r_ciV0 C h (c_X9_get hc10) mv_X9_79 rfl 0 rfl [0, 2] rfl rfl hl.1 rfl (Nat.le_of_ble_eq_true rfl) (rok (by decide)) dX9_meets_39 (fun H locs h => ?_)
        refine lv_bipush (v := (12 : Int32)) hx hb dX9_meets_42 rfl ?_
        refine lv_iadd hx hb dX9_meets_44 ?_
        refine lv_bipush (v := (99 : Int32)) hx hb dX9_meets_45 rfl ?_
        replace hf := bd1_inv hf
        obtain ⟨r11, hc12, hf⟩ := hf
        refine r_ciS0 C h (c_X9_held hc12) ms_X9_202 rfl [] rfl rfl hl.1 rfl (Nat.le_of_ble_eq_true rfl) (rok (by decide)) dX9_meets_47 (fun H locs h => ?_)
        replace hf := bd1_inv hf
        obtain ⟨g13, hc14, hf⟩ := hf
        refine r_cvV (ws' := [(h_this, ob 9 [.ref h_this_s, .ref h_this_kept, .ref h_this_laid, .int x_this_isKept, .ref h_this_pile, .ref h_this_tape, .int x_this_taped, .ref h_this_letters, .int x_this_at, .int x_this_begun, .int x_this_token, .int x_this_value, .int x_this_opened, .int x_this_steps, .ref h_this_code0, .ref h_this_read, .ref h_this_saved, .ref h_this_plan, .ref h_this_bestPlan, .int x_this_most, .int x_this_many, .int x_this_few, .int x_this_everHome, .ref h_this_offThen, .ref h_this_paidThen, .int x_this_firstFit, .ref h_this_rows, .int x_this_rowMany, .ref h_this_sorts, .ref h_this_sizes, .ref h_this_number, .ref h_this_holds, .ref h_this_heldOne, .ref h_this_trace, .int x_this_traced, .int x_this_own, .int x_this_isParted]), (h_this_pile, ia G 200 g2), (h_this_s, ia G 313 g13)]) C h (c_X9_puts hc14) mv_X9_195 rfl 0 rfl [0, 2] rfl rfl [2] [(h_this_s, ia G 313 g13)] rfl rfl (by decide +kernel) rfl hl.1 rfl (Nat.le_of_ble_eq_true rfl) (rok (by decide)) dX9_meets_50 (fun H locs h => ?_)
        refine lv_aload_n hx hb dX9_meets_53 rfl (lv_at hl 1 rfl) ?_
        replace hf := bd1_inv hf
        obtain ⟨r15, hc16, hf⟩ := hf
        refine r_ciV0 C h (c_X9_lightNow hc16) mv_X9_83 rfl 0 rfl [0, 2] rfl rfl hl.1 rfl (Nat.le_of_ble_eq_true rfl) (rok (by decide)) dX9_meets_54 (fun H locs h => ?_)
        refine lv_iconst (v := (4 : Int32)) hx hb dX9_meets_57 rfl ?_
        refine lv_irem hx hb dX9_meets_58 (by decide) ?_
        refine lv_iconst (v := (1 : Int32)) hx hb dX9_meets_59 rfl ?_
        refine lv_icmp_le (tgt := 67) hx hb dX9_meets_60 rfl (fun c17 => ?_) (fun c17 => ?_)
        · replace hf := ifp c17 hf
          refine lv_iconst (v := (0 : Int32)) hx hb dX9_meets_67 rfl ?_
          cases hf
          exact r_iret C h hr hlk rfl dX9_meets_68
        · replace hf := ifn c17 hf
          refine lv_iconst (v := (1 : Int32)) hx hb dX9_meets_63 rfl ?_
          refine lv_goto (tgt := 68) hx hb dX9_meets_64 rfl ?_
          cases hf
          exact r_iret C h hr hlk rfl dX9_meets_68
      · replace hf := ifp c8 hf
        refine lv_aload_n hx hb dX9_meets_27 rfl (lv_at hl 1 rfl) ?_
        refine lv_iload_n hx hb dX9_meets_28 rfl (lv_at hl 2 rfl) ?_
        replace hf := bd2_inv hf
        obtain ⟨r18, g19, hc20, hf⟩ := hf
        refine r_ciV (ws' := [(h_this, ob 9 [.ref h_this_s, .ref h_this_kept, .ref h_this_laid, .int x_this_isKept, .ref h_this_pile, .ref h_this_tape, .int x_this_taped, .ref h_this_letters, .int x_this_at, .int x_this_begun, .int x_this_token, .int x_this_value, .int x_this_opened, .int x_this_steps, .ref h_this_code0, .ref h_this_read, .ref h_this_saved, .ref h_this_plan, .ref h_this_bestPlan, .int x_this_most, .int x_this_many, .int x_this_few, .int x_this_everHome, .ref h_this_offThen, .ref h_this_paidThen, .int x_this_firstFit, .ref h_this_rows, .int x_this_rowMany, .ref h_this_sorts, .ref h_this_sizes, .ref h_this_number, .ref h_this_holds, .ref h_this_heldOne, .ref h_this_trace, .int x_this_traced, .int x_this_own, .int x_this_isParted]), (h_this_pile, ia G 200 g2), (h_this_s, ia G 313 g19)]) C h (c_X9_enters hc20) mv_X9_199 rfl 0 rfl [0, 2] rfl rfl [2] [(h_this_s, ia G 313 g19)] rfl rfl (by decide +kernel) rfl hl.1 rfl (Nat.le_of_ble_eq_true rfl) (rok (by decide)) dX9_meets_29 (fun H locs h => ?_)
        cases hf
        exact r_iret C h hr hlk rfl dX9_meets_32
    · replace hf := ifp c7 hf
      refine lv_iconst (v := (0 : Int32)) hx hb dX9_meets_21 rfl ?_
      cases hf
      exact r_iret C h hr hlk rfl dX9_meets_22
