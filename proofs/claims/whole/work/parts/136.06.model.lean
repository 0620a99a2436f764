set_option maxRecDepth 100000 in
set_option maxHeartbeats 4000000 in
theorem c_X9_soundsAs {l : Launch} {G : Gt} {self : Int32 → Int32 → Int32 → Int32 → Int32 → (Nat → Int32) → (Nat → Int32) → Option (Int32 × Int32 × Int32 × (Nat → Int32))} {H0 : Nat} (hself : ∀ {h_this h_this_s h_this_kept h_this_laid h_this_pile h_this_tape h_this_letters h_this_code0 h_this_read h_this_saved h_this_plan h_this_bestPlan h_this_offThen h_this_paidThen h_this_rows h_this_sorts h_this_sizes h_this_number h_this_holds h_this_heldOne h_this_trace : Nat} {p0 : Int32} {p1 : Int32} {x_this_isKept : Int32} {x_this_taped : Int32} {x_this_at : Int32} {x_this_begun : Int32} {x_this_token : Int32} {x_this_value : Int32} {x_this_opened : Int32} {x_this_steps : Int32} {x_this_most : Int32} {x_this_many : Int32} {x_this_few : Int32} {x_this_everHome : Int32} {x_this_firstFit : Int32} {x_this_rowMany : Int32} {x_this_traced : Int32} {x_this_own : Int32} {x_this_isParted : Int32} {f_this_s : Nat → Int32} {f_this_trace : Nat → Int32} {r : Int32} {m_this_traced : Int32} {m_this_isParted : Int32} {m_this_trace : Nat → Int32} , self p0 p1 x_this_traced x_this_own x_this_isParted f_this_s f_this_trace = some (r, m_this_traced, m_this_isParted, m_this_trace) → mFi l G yX9_soundsAs cX9_soundsAs 4 .int H0 [.ref h_this, .int p0, .int p1] [(h_this, ob 9 [.ref h_this_s, .ref h_this_kept, .ref h_this_laid, .int x_this_isKept, .ref h_this_pile, .ref h_this_tape, .int x_this_taped, .ref h_this_letters, .int x_this_at, .int x_this_begun, .int x_this_token, .int x_this_value, .int x_this_opened, .int x_this_steps, .ref h_this_code0, .ref h_this_read, .ref h_this_saved, .ref h_this_plan, .ref h_this_bestPlan, .int x_this_most, .int x_this_many, .int x_this_few, .int x_this_everHome, .ref h_this_offThen, .ref h_this_paidThen, .int x_this_firstFit, .ref h_this_rows, .int x_this_rowMany, .ref h_this_sorts, .ref h_this_sizes, .ref h_this_number, .ref h_this_holds, .ref h_this_heldOne, .ref h_this_trace, .int x_this_traced, .int x_this_own, .int x_this_isParted]), (h_this_s, ia G 313 f_this_s), (h_this_trace, ia G 30 f_this_trace)] r [(h_this, ob 9 [.ref h_this_s, .ref h_this_kept, .ref h_this_laid, .int x_this_isKept, .ref h_this_pile, .ref h_this_tape, .int x_this_taped, .ref h_this_letters, .int x_this_at, .int x_this_begun, .int x_this_token, .int x_this_value, .int x_this_opened, .int x_this_steps, .ref h_this_code0, .ref h_this_read, .ref h_this_saved, .ref h_this_plan, .ref h_this_bestPlan, .int x_this_most, .int x_this_many, .int x_this_few, .int x_this_everHome, .ref h_this_offThen, .ref h_this_paidThen, .int x_this_firstFit, .ref h_this_rows, .int x_this_rowMany, .ref h_this_sorts, .ref h_this_sizes, .ref h_this_number, .ref h_this_holds, .ref h_this_heldOne, .ref h_this_trace, .int m_this_traced, .int x_this_own, .int m_this_isParted]), (h_this_s, ia G 313 f_this_s), (h_this_trace, ia G 30 m_this_trace)]) {h_this h_this_s h_this_kept h_this_laid h_this_pile h_this_tape h_this_letters h_this_code0 h_this_read h_this_saved h_this_plan h_this_bestPlan h_this_offThen h_this_paidThen h_this_rows h_this_sorts h_this_sizes h_this_number h_this_holds h_this_heldOne h_this_trace : Nat} {p0 : Int32} {p1 : Int32} {x_this_isKept : Int32} {x_this_taped : Int32} {x_this_at : Int32} {x_this_begun : Int32} {x_this_token : Int32} {x_this_value : Int32} {x_this_opened : Int32} {x_this_steps : Int32} {x_this_most : Int32} {x_this_many : Int32} {x_this_few : Int32} {x_this_everHome : Int32} {x_this_firstFit : Int32} {x_this_rowMany : Int32} {x_this_traced : Int32} {x_this_own : Int32} {x_this_isParted : Int32} {f_this_s : Nat → Int32} {f_this_trace : Nat → Int32} {r : Int32} {m_this_traced : Int32} {m_this_isParted : Int32} {m_this_trace : Nat → Int32} (hf : f_X9_soundsAs self p0 p1 x_this_traced x_this_own x_this_isParted f_this_s f_this_trace = some (r, m_this_traced, m_this_isParted, m_this_trace)) : mFi l G yX9_soundsAs cX9_soundsAs 4 .int (H0 + 5) [.ref h_this, .int p0, .int p1] [(h_this, ob 9 [.ref h_this_s, .ref h_this_kept, .ref h_this_laid, .int x_this_isKept, .ref h_this_pile, .ref h_this_tape, .int x_this_taped, .ref h_this_letters, .int x_this_at, .int x_this_begun, .int x_this_token, .int x_this_value, .int x_this_opened, .int x_this_steps, .ref h_this_code0, .ref h_this_read, .ref h_this_saved, .ref h_this_plan, .ref h_this_bestPlan, .int x_this_most, .int x_this_many, .int x_this_few, .int x_this_everHome, .ref h_this_offThen, .ref h_this_paidThen, .int x_this_firstFit, .ref h_this_rows, .int x_this_rowMany, .ref h_this_sorts, .ref h_this_sizes, .ref h_this_number, .ref h_this_holds, .ref h_this_heldOne, .ref h_this_trace, .int x_this_traced, .int x_this_own, .int x_this_isParted]), (h_this_s, ia G 313 f_this_s), (h_this_trace, ia G 30 f_this_trace)] r [(h_this, ob 9 [.ref h_this_s, .ref h_this_kept, .ref h_this_laid, .int x_this_isKept, .ref h_this_pile, .ref h_this_tape, .int x_this_taped, .ref h_this_letters, .int x_this_at, .int x_this_begun, .int x_this_token, .int x_this_value, .int x_this_opened, .int x_this_steps, .ref h_this_code0, .ref h_this_read, .ref h_this_saved, .ref h_this_plan, .ref h_this_bestPlan, .int x_this_most, .int x_this_many, .int x_this_few, .int x_this_everHome, .ref h_this_offThen, .ref h_this_paidThen, .int x_this_firstFit, .ref h_this_rows, .int x_this_rowMany, .ref h_this_sorts, .ref h_this_sizes, .ref h_this_number, .ref h_this_holds, .ref h_this_heldOne, .ref h_this_trace, .int m_this_traced, .int x_this_own, .int m_this_isParted]), (h_this_s, ia G 313 f_this_s), (h_this_trace, ia G 30 m_this_trace)] := by
  refine mFi.of (by decide +kernel) (Nat.le_of_ble_eq_true rfl) ?_
  intro p e s m below meth c A C hr hlk h ls hl
  obtain ⟨hx, hb, hml, hown, hts⟩ := id C
  replace hl : lv_has ls 4 [(0, .ref h_this), (1, .int p0), (2, .int p1)] := hl
  unfold f_X9_soundsAs at hf
  refine with_K G A 4 (fun K hK1 hK2 => ?_)
  have B102 : ∀ (v3 : Int32) (s1 : Int32) (y_this_traced : Int32) (g_this_trace : Nat → Int32), f_X9_soundsAs_b102 p1 v3 s1 y_this_traced g_this_trace = some (r, m_this_traced, m_this_isParted, m_this_trace) → narrow .boolean (.int s1) = .int s1 → fits .boolean (.int s1) = true → K 102 [.int s1, .ref h_this] [(h_this, ob 9 [.ref h_this_s, .ref h_this_kept, .ref h_this_laid, .int x_this_isKept, .ref h_this_pile, .ref h_this_tape, .int x_this_taped, .ref h_this_letters, .int x_this_at, .int x_this_begun, .int x_this_token, .int x_this_value, .int x_this_opened, .int x_this_steps, .ref h_this_code0, .ref h_this_read, .ref h_this_saved, .ref h_this_plan, .ref h_this_bestPlan, .int x_this_most, .int x_this_many, .int x_this_few, .int x_this_everHome, .ref h_this_offThen, .ref h_this_paidThen, .int x_this_firstFit, .ref h_this_rows, .int x_this_rowMany, .ref h_this_sorts, .ref h_this_sizes, .ref h_this_number, .ref h_this_holds, .ref h_this_heldOne, .ref h_this_trace, .int y_this_traced, .int x_this_own, .int x_this_isParted]), (h_this_s, ia G 313 f_this_s), (h_this_trace, ia G 30 g_this_trace)] [(0, .ref h_this), (2, .int p1), (3, .int v3)] := by
    intro v3 s1 y_this_traced g_this_trace hf hs1 hs2
    unfold f_X9_soundsAs_b102 at hf
    refine hK1 _ _ _ _ (fun H locs ls h hl => ?_)
    refine r_put (ws' := [(h_this, ob 9 [.ref h_this_s, .ref h_this_kept, .ref h_this_laid, .int x_this_isKept, .ref h_this_pile, .ref h_this_tape, .int x_this_taped, .ref h_this_letters, .int x_this_at, .int x_this_begun, .int x_this_token, .int x_this_value, .int x_this_opened, .int x_this_steps, .ref h_this_code0, .ref h_this_read, .ref h_this_saved, .ref h_this_plan, .ref h_this_bestPlan, .int x_this_most, .int x_this_many, .int x_this_few, .int x_this_everHome, .ref h_this_offThen, .ref h_this_paidThen, .int x_this_firstFit, .ref h_this_rows, .int x_this_rowMany, .ref h_this_sorts, .ref h_this_sizes, .ref h_this_number, .ref h_this_holds, .ref h_this_heldOne, .ref h_this_trace, .int y_this_traced, .int x_this_own, .int s1]), (h_this_s, ia G 313 f_this_s), (h_this_trace, ia G 30 g_this_trace)]) C h fw_X9_362 0 rfl hs1 hs2 (Nat.le_of_ble_eq_true rfl) dX9_soundsAs_102 rfl (fun H locs h => ?_)
    refine lv_aload_n hx hb dX9_soundsAs_105 rfl (lv_at hl 0 rfl) ?_
    refine r_get C h fk_X9_362 0 rfl rfl dX9_soundsAs_106 ?_
    refine lv_if_eq (tgt := 116) hx hb dX9_soundsAs_109 rfl (fun c10 => ?_) (fun c10 => ?_)
    · replace hf := ifp c10 hf
      refine lv_iload_n hx hb dX9_soundsAs_116 rfl (lv_at hl 1 rfl) ?_
      refine lv_iload_n hx hb dX9_soundsAs_117 rfl (lv_at hl 2 rfl) ?_
      replace hf := chkD_inv hf
      obtain ⟨hd11, hf⟩ := hf
      refine lv_irem hx hb dX9_soundsAs_118 hd11 ?_
      clear  hK2 hK1
      cases hf
      exact r_iret C h hr hlk rfl dX9_soundsAs_119
    · replace hf := ifn c10 hf
      refine lv_iconst (v := (0 : Int32)) hx hb dX9_soundsAs_112 rfl ?_
      refine lv_goto (tgt := 119) hx hb dX9_soundsAs_113 rfl ?_
      clear  hK2 hK1
      cases hf
      exact r_iret C h hr hlk rfl dX9_soundsAs_119
  have B97 : ∀ (v3 : Int32) (y_this_traced : Int32) (g_this_trace : Nat → Int32), f_X9_soundsAs_b97 p1 v3 y_this_traced g_this_trace = some (r, m_this_traced, m_this_isParted, m_this_trace) → K 97 [.ref h_this] [(h_this, ob 9 [.ref h_this_s, .ref h_this_kept, .ref h_this_laid, .int x_this_isKept, .ref h_this_pile, .ref h_this_tape, .int x_this_taped, .ref h_this_letters, .int x_this_at, .int x_this_begun, .int x_this_token, .int x_this_value, .int x_this_opened, .int x_this_steps, .ref h_this_code0, .ref h_this_read, .ref h_this_saved, .ref h_this_plan, .ref h_this_bestPlan, .int x_this_most, .int x_this_many, .int x_this_few, .int x_this_everHome, .ref h_this_offThen, .ref h_this_paidThen, .int x_this_firstFit, .ref h_this_rows, .int x_this_rowMany, .ref h_this_sorts, .ref h_this_sizes, .ref h_this_number, .ref h_this_holds, .ref h_this_heldOne, .ref h_this_trace, .int y_this_traced, .int x_this_own, .int x_this_isParted]), (h_this_s, ia G 313 f_this_s), (h_this_trace, ia G 30 g_this_trace)] [(0, .ref h_this), (2, .int p1), (3, .int v3)] := by
    intro v3 y_this_traced g_this_trace hf
    unfold f_X9_soundsAs_b97 at hf
    refine hK1 _ _ _ _ (fun H locs ls h hl => ?_)
    refine lv_iconst (v := (1 : Int32)) hx hb dX9_soundsAs_97 rfl ?_
    refine lv_goto (tgt := 102) hx hb dX9_soundsAs_98 rfl ?_
    exact hK2 _ _ _ _ (B102 v3 (1 : Int32) y_this_traced g_this_trace hf rfl rfl) _ _ _ h (lv_sub hl [0, 1, 2] rfl)
  refine lv_iload_n hx hb dX9_soundsAs_0 rfl (lv_at hl 1 rfl) ?_
  refine lv_iconst (v := (5 : Int32)) hx hb dX9_soundsAs_1 rfl ?_
  refine lv_icmp_ne (tgt := 41) hx hb dX9_soundsAs_2 rfl (fun c1 => ?_) (fun c1 => ?_)
  · replace hf := ifn c1 hf
    refine lv_iload_n hx hb dX9_soundsAs_41 rfl (lv_at hl 1 rfl) ?_
    refine lv_iconst (v := (4 : Int32)) hx hb dX9_soundsAs_42 rfl ?_
    refine lv_icmp_ne (tgt := 62) hx hb dX9_soundsAs_43 rfl (fun c2 => ?_) (fun c2 => ?_)
    · replace hf := ifn c2 hf
      refine lv_aload_n hx hb dX9_soundsAs_62 rfl (lv_at hl 0 rfl) ?_
      refine lv_bipush (v := (12 : Int32)) hx hb dX9_soundsAs_63 rfl ?_
      replace hf := bd2_inv hf
      obtain ⟨y3, g4, hc5, hf⟩ := hf
      refine r_cvV (ws' := [(h_this, ob 9 [.ref h_this_s, .ref h_this_kept, .ref h_this_laid, .int x_this_isKept, .ref h_this_pile, .ref h_this_tape, .int x_this_taped, .ref h_this_letters, .int x_this_at, .int x_this_begun, .int x_this_token, .int x_this_value, .int x_this_opened, .int x_this_steps, .ref h_this_code0, .ref h_this_read, .ref h_this_saved, .ref h_this_plan, .ref h_this_bestPlan, .int x_this_most, .int x_this_many, .int x_this_few, .int x_this_everHome, .ref h_this_offThen, .ref h_this_paidThen, .int x_this_firstFit, .ref h_this_rows, .int x_this_rowMany, .ref h_this_sorts, .ref h_this_sizes, .ref h_this_number, .ref h_this_holds, .ref h_this_heldOne, .ref h_this_trace, .int y3, .int x_this_own, .int x_this_isParted]), (h_this_s, ia G 313 f_this_s), (h_this_trace, ia G 30 g4)]) C h (c_X9_starts hc5) mv_X9_347 rfl 0 rfl [0, 2] rfl rfl [0, 2] [(h_this, ob 9 [.ref h_this_s, .ref h_this_kept, .ref h_this_laid, .int x_this_isKept, .ref h_this_pile, .ref h_this_tape, .int x_this_taped, .ref h_this_letters, .int x_this_at, .int x_this_begun, .int x_this_token, .int x_this_value, .int x_this_opened, .int x_this_steps, .ref h_this_code0, .ref h_this_read, .ref h_this_saved, .ref h_this_plan, .ref h_this_bestPlan, .int x_this_most, .int x_this_many, .int x_this_few, .int x_this_everHome, .ref h_this_offThen, .ref h_this_paidThen, .int x_this_firstFit, .ref h_this_rows, .int x_this_rowMany, .ref h_this_sorts, .ref h_this_sizes, .ref h_this_number, .ref h_this_holds, .ref h_this_heldOne, .ref h_this_trace, .int y3, .int x_this_own, .int x_this_isParted]), (h_this_trace, ia G 30 g4)] rfl rfl (by decide +kernel) rfl hl.1 rfl (Nat.le_of_ble_eq_true rfl) (rok (by omega)) dX9_soundsAs_65 (fun H locs h => ?_)
      refine lv_aload_n hx hb dX9_soundsAs_68 rfl (lv_at hl 0 rfl) ?_
      refine r_get C h fk_X9_353 0 rfl rfl dX9_soundsAs_69 ?_
      refine lv_aload_n hx hb dX9_soundsAs_72 rfl (lv_at hl 0 rfl) ?_
      refine lv_aload_n hx hb dX9_soundsAs_73 rfl (lv_at hl 0 rfl) ?_
      refine r_get C h fk_X9_353 0 rfl rfl dX9_soundsAs_74 ?_
      refine lv_iconst (v := (3 : Int32)) hx hb dX9_soundsAs_77 rfl ?_
      replace hf := bd1_inv hf
      obtain ⟨r6, hc7, hf⟩ := hf
      refine r_ciV0 C h (c_X9_get hc7) mv_X9_79 rfl 0 rfl [0, 1] rfl rfl hl.1 rfl (Nat.le_of_ble_eq_true rfl) (rok (by omega)) dX9_soundsAs_78 (fun H locs h => ?_)
      refine lv_iadd hx hb dX9_soundsAs_81 ?_
      refine lv_iconst (v := (5 : Int32)) hx hb dX9_soundsAs_82 rfl ?_
      refine lv_isub hx hb dX9_soundsAs_83 ?_
      refine lv_topi (fun t8 et8 => ?_)
      replace hf := lt1_inv et8 hf
      refine lv_istore_n (lv' := [(3, .int t8), (0, .ref h_this), (1, .int p0), (2, .int p1)]) hx hb dX9_soundsAs_84 rfl hl (by decide) rfl (fun ls hl => ?_)
      refine lv_aload_n hx hb dX9_soundsAs_85 rfl (lv_at hl 1 rfl) ?_
      refine lv_aload_n hx hb dX9_soundsAs_86 rfl (lv_at hl 1 rfl) ?_
      refine r_get C h fk_X9_362 0 rfl rfl dX9_soundsAs_87 ?_
      refine lv_if_ne (tgt := 97) hx hb dX9_soundsAs_90 rfl (fun c9 => ?_) (fun c9 => ?_)
      · replace hf := ifn c9 hf
        exact hK2 _ _ _ _ (B97 t8 y3 g4 hf) _ _ _ h (lv_sub hl [1, 3, 0] rfl)
      · replace hf := ifp c9 hf
        refine lv_iload_n hx hb dX9_soundsAs_93 rfl (lv_at hl 0 rfl) ?_
        refine lv_if_ne (tgt := 101) hx hb dX9_soundsAs_94 rfl (fun c12 => ?_) (fun c12 => ?_)
        · replace hf := ifn c12 hf
          refine lv_iconst (v := (0 : Int32)) hx hb dX9_soundsAs_101 rfl ?_
          exact hK2 _ _ _ _ (B102 t8 (0 : Int32) y3 g4 hf rfl rfl) _ _ _ h (lv_sub hl [1, 3, 0] rfl)
        · replace hf := ifp c12 hf
          exact hK2 _ _ _ _ (B97 t8 y3 g4 hf) _ _ _ h (lv_sub hl [1, 3, 0] rfl)
    · replace hf := ifp c2 hf
      refine lv_aload_n hx hb dX9_soundsAs_46 rfl (lv_at hl 0 rfl) ?_
      refine lv_bipush (v := (40 : Int32)) hx hb dX9_soundsAs_47 rfl ?_
      replace hf := bd2_inv hf
      obtain ⟨y13, g14, hc15, hf⟩ := hf
      refine r_cvV (ws' := [(h_this, ob 9 [.ref h_this_s, .ref h_this_kept, .ref h_this_laid, .int x_this_isKept, .ref h_this_pile, .ref h_this_tape, .int x_this_taped, .ref h_this_letters, .int x_this_at, .int x_this_begun, .int x_this_token, .int x_this_value, .int x_this_opened, .int x_this_steps, .ref h_this_code0, .ref h_this_read, .ref h_this_saved, .ref h_this_plan, .ref h_this_bestPlan, .int x_this_most, .int x_this_many, .int x_this_few, .int x_this_everHome, .ref h_this_offThen, .ref h_this_paidThen, .int x_this_firstFit, .ref h_this_rows, .int x_this_rowMany, .ref h_this_sorts, .ref h_this_sizes, .ref h_this_number, .ref h_this_holds, .ref h_this_heldOne, .ref h_this_trace, .int y13, .int x_this_own, .int x_this_isParted]), (h_this_s, ia G 313 f_this_s), (h_this_trace, ia G 30 g14)]) C h (c_X9_starts hc15) mv_X9_347 rfl 0 rfl [0, 2] rfl rfl [0, 2] [(h_this, ob 9 [.ref h_this_s, .ref h_this_kept, .ref h_this_laid, .int x_this_isKept, .ref h_this_pile, .ref h_this_tape, .int x_this_taped, .ref h_this_letters, .int x_this_at, .int x_this_begun, .int x_this_token, .int x_this_value, .int x_this_opened, .int x_this_steps, .ref h_this_code0, .ref h_this_read, .ref h_this_saved, .ref h_this_plan, .ref h_this_bestPlan, .int x_this_most, .int x_this_many, .int x_this_few, .int x_this_everHome, .ref h_this_offThen, .ref h_this_paidThen, .int x_this_firstFit, .ref h_this_rows, .int x_this_rowMany, .ref h_this_sorts, .ref h_this_sizes, .ref h_this_number, .ref h_this_holds, .ref h_this_heldOne, .ref h_this_trace, .int y13, .int x_this_own, .int x_this_isParted]), (h_this_trace, ia G 30 g14)] rfl rfl (by decide +kernel) rfl hl.1 rfl (Nat.le_of_ble_eq_true rfl) (rok (by omega)) dX9_soundsAs_49 (fun H locs h => ?_)
      refine lv_aload_n hx hb dX9_soundsAs_52 rfl (lv_at hl 0 rfl) ?_
      refine lv_iconst (v := (0 : Int32)) hx hb dX9_soundsAs_53 rfl ?_
      refine lv_iload_n hx hb dX9_soundsAs_54 rfl (lv_at hl 2 rfl) ?_
      replace hf := bd4_inv hf
      obtain ⟨r16, y17, y18, g19, hc20, hf⟩ := hf
      refine r_ciV (ws' := [(h_this, ob 9 [.ref h_this_s, .ref h_this_kept, .ref h_this_laid, .int x_this_isKept, .ref h_this_pile, .ref h_this_tape, .int x_this_taped, .ref h_this_letters, .int x_this_at, .int x_this_begun, .int x_this_token, .int x_this_value, .int x_this_opened, .int x_this_steps, .ref h_this_code0, .ref h_this_read, .ref h_this_saved, .ref h_this_plan, .ref h_this_bestPlan, .int x_this_most, .int x_this_many, .int x_this_few, .int x_this_everHome, .ref h_this_offThen, .ref h_this_paidThen, .int x_this_firstFit, .ref h_this_rows, .int x_this_rowMany, .ref h_this_sorts, .ref h_this_sizes, .ref h_this_number, .ref h_this_holds, .ref h_this_heldOne, .ref h_this_trace, .int y17, .int x_this_own, .int y18]), (h_this_s, ia G 313 f_this_s), (h_this_trace, ia G 30 g19)]) C h (hself hc20) mv_X9_359 rfl 0 rfl [0, 1, 2] rfl rfl [0, 2] [(h_this, ob 9 [.ref h_this_s, .ref h_this_kept, .ref h_this_laid, .int x_this_isKept, .ref h_this_pile, .ref h_this_tape, .int x_this_taped, .ref h_this_letters, .int x_this_at, .int x_this_begun, .int x_this_token, .int x_this_value, .int x_this_opened, .int x_this_steps, .ref h_this_code0, .ref h_this_read, .ref h_this_saved, .ref h_this_plan, .ref h_this_bestPlan, .int x_this_most, .int x_this_many, .int x_this_few, .int x_this_everHome, .ref h_this_offThen, .ref h_this_paidThen, .int x_this_firstFit, .ref h_this_rows, .int x_this_rowMany, .ref h_this_sorts, .ref h_this_sizes, .ref h_this_number, .ref h_this_holds, .ref h_this_heldOne, .ref h_this_trace, .int y17, .int x_this_own, .int y18]), (h_this_trace, ia G 30 g19)] rfl rfl (by decide +kernel) rfl hl.1 rfl (Nat.le_of_ble_eq_true rfl) (rok (by omega)) dX9_soundsAs_55 (fun H locs h => ?_)
      refine lv_bipush (v := (7 : Int32)) hx hb dX9_soundsAs_58 rfl ?_
      refine lv_iadd hx hb dX9_soundsAs_60 ?_
      clear B97 B102 hK2 hK1
      cases hf
      exact r_iret C h hr hlk rfl dX9_soundsAs_61
  · replace hf := ifp c1 hf
    refine lv_aload_n hx hb dX9_soundsAs_5 rfl (lv_at hl 0 rfl) ?_
    refine lv_bipush (v := (61 : Int32)) hx hb dX9_soundsAs_6 rfl ?_
    replace hf := bd2_inv hf
    obtain ⟨y21, g22, hc23, hf⟩ := hf
    refine r_cvV (ws' := [(h_this, ob 9 [.ref h_this_s, .ref h_this_kept, .ref h_this_laid, .int x_this_isKept, .ref h_this_pile, .ref h_this_tape, .int x_this_taped, .ref h_this_letters, .int x_this_at, .int x_this_begun, .int x_this_token, .int x_this_value, .int x_this_opened, .int x_this_steps, .ref h_this_code0, .ref h_this_read, .ref h_this_saved, .ref h_this_plan, .ref h_this_bestPlan, .int x_this_most, .int x_this_many, .int x_this_few, .int x_this_everHome, .ref h_this_offThen, .ref h_this_paidThen, .int x_this_firstFit, .ref h_this_rows, .int x_this_rowMany, .ref h_this_sorts, .ref h_this_sizes, .ref h_this_number, .ref h_this_holds, .ref h_this_heldOne, .ref h_this_trace, .int y21, .int x_this_own, .int x_this_isParted]), (h_this_s, ia G 313 f_this_s), (h_this_trace, ia G 30 g22)]) C h (c_X9_starts hc23) mv_X9_347 rfl 0 rfl [0, 2] rfl rfl [0, 2] [(h_this, ob 9 [.ref h_this_s, .ref h_this_kept, .ref h_this_laid, .int x_this_isKept, .ref h_this_pile, .ref h_this_tape, .int x_this_taped, .ref h_this_letters, .int x_this_at, .int x_this_begun, .int x_this_token, .int x_this_value, .int x_this_opened, .int x_this_steps, .ref h_this_code0, .ref h_this_read, .ref h_this_saved, .ref h_this_plan, .ref h_this_bestPlan, .int x_this_most, .int x_this_many, .int x_this_few, .int x_this_everHome, .ref h_this_offThen, .ref h_this_paidThen, .int x_this_firstFit, .ref h_this_rows, .int x_this_rowMany, .ref h_this_sorts, .ref h_this_sizes, .ref h_this_number, .ref h_this_holds, .ref h_this_heldOne, .ref h_this_trace, .int y21, .int x_this_own, .int x_this_isParted]), (h_this_trace, ia G 30 g22)] rfl rfl (by decide +kernel) rfl hl.1 rfl (Nat.le_of_ble_eq_true rfl) (rok (by omega)) dX9_soundsAs_8 (fun H locs h => ?_)
    refine lv_aload_n hx hb dX9_soundsAs_11 rfl (lv_at hl 0 rfl) ?_
    refine lv_iconst (v := (4 : Int32)) hx hb dX9_soundsAs_12 rfl ?_
    refine lv_iload_n hx hb dX9_soundsAs_13 rfl (lv_at hl 2 rfl) ?_
    replace hf := bd4_inv hf
    obtain ⟨r24, y25, y26, g27, hc28, hf⟩ := hf
    refine r_ciV (ws' := [(h_this, ob 9 [.ref h_this_s, .ref h_this_kept, .ref h_this_laid, .int x_this_isKept, .ref h_this_pile, .ref h_this_tape, .int x_this_taped, .ref h_this_letters, .int x_this_at, .int x_this_begun, .int x_this_token, .int x_this_value, .int x_this_opened, .int x_this_steps, .ref h_this_code0, .ref h_this_read, .ref h_this_saved, .ref h_this_plan, .ref h_this_bestPlan, .int x_this_most, .int x_this_many, .int x_this_few, .int x_this_everHome, .ref h_this_offThen, .ref h_this_paidThen, .int x_this_firstFit, .ref h_this_rows, .int x_this_rowMany, .ref h_this_sorts, .ref h_this_sizes, .ref h_this_number, .ref h_this_holds, .ref h_this_heldOne, .ref h_this_trace, .int y25, .int x_this_own, .int y26]), (h_this_s, ia G 313 f_this_s), (h_this_trace, ia G 30 g27)]) C h (hself hc28) mv_X9_359 rfl 0 rfl [0, 1, 2] rfl rfl [0, 2] [(h_this, ob 9 [.ref h_this_s, .ref h_this_kept, .ref h_this_laid, .int x_this_isKept, .ref h_this_pile, .ref h_this_tape, .int x_this_taped, .ref h_this_letters, .int x_this_at, .int x_this_begun, .int x_this_token, .int x_this_value, .int x_this_opened, .int x_this_steps, .ref h_this_code0, .ref h_this_read, .ref h_this_saved, .ref h_this_plan, .ref h_this_bestPlan, .int x_this_most, .int x_this_many, .int x_this_few, .int x_this_everHome, .ref h_this_offThen, .ref h_this_paidThen, .int x_this_firstFit, .ref h_this_rows, .int x_this_rowMany, .ref h_this_sorts, .ref h_this_sizes, .ref h_this_number, .ref h_this_holds, .ref h_this_heldOne, .ref h_this_trace, .int y25, .int x_this_own, .int y26]), (h_this_trace, ia G 30 g27)] rfl rfl (by decide +kernel) rfl hl.1 rfl (Nat.le_of_ble_eq_true rfl) (rok (by omega)) dX9_soundsAs_14 (fun H locs h => ?_)
    refine lv_istore_n (lv' := [(3, .int r24), (0, .ref h_this), (1, .int p0), (2, .int p1)]) hx hb dX9_soundsAs_17 rfl hl (by decide) rfl (fun ls hl => ?_)
    refine lv_aload_n hx hb dX9_soundsAs_18 rfl (lv_at hl 1 rfl) ?_
    refine r_get C h fk_X9_362 0 rfl rfl dX9_soundsAs_19 ?_
    refine lv_if_eq (tgt := 29) hx hb dX9_soundsAs_22 rfl (fun c29 => ?_) (fun c29 => ?_)
    · replace hf := ifp c29 hf
      refine lv_iload_n hx hb dX9_soundsAs_29 rfl (lv_at hl 0 rfl) ?_
      refine lv_aload_n hx hb dX9_soundsAs_30 rfl (lv_at hl 1 rfl) ?_
      refine lv_iconst (v := (5 : Int32)) hx hb dX9_soundsAs_31 rfl ?_
      refine lv_aload_n hx hb dX9_soundsAs_32 rfl (lv_at hl 1 rfl) ?_
      refine r_get C h fk_X9_353 0 rfl rfl dX9_soundsAs_33 ?_
      replace hf := bd3_inv hf
      obtain ⟨r30, y31, g32, hc33, hf⟩ := hf
      refine r_ciV (ws' := [(h_this, ob 9 [.ref h_this_s, .ref h_this_kept, .ref h_this_laid, .int x_this_isKept, .ref h_this_pile, .ref h_this_tape, .int x_this_taped, .ref h_this_letters, .int x_this_at, .int x_this_begun, .int x_this_token, .int x_this_value, .int x_this_opened, .int x_this_steps, .ref h_this_code0, .ref h_this_read, .ref h_this_saved, .ref h_this_plan, .ref h_this_bestPlan, .int x_this_most, .int x_this_many, .int x_this_few, .int x_this_everHome, .ref h_this_offThen, .ref h_this_paidThen, .int x_this_firstFit, .ref h_this_rows, .int x_this_rowMany, .ref h_this_sorts, .ref h_this_sizes, .ref h_this_number, .ref h_this_holds, .ref h_this_heldOne, .ref h_this_trace, .int y31, .int x_this_own, .int y26]), (h_this_s, ia G 313 f_this_s), (h_this_trace, ia G 30 g32)]) C h (C_X9_sightsAs 4 hc33) mv_X9_350 rfl 0 rfl [0, 2] rfl rfl [0, 2] [(h_this, ob 9 [.ref h_this_s, .ref h_this_kept, .ref h_this_laid, .int x_this_isKept, .ref h_this_pile, .ref h_this_tape, .int x_this_taped, .ref h_this_letters, .int x_this_at, .int x_this_begun, .int x_this_token, .int x_this_value, .int x_this_opened, .int x_this_steps, .ref h_this_code0, .ref h_this_read, .ref h_this_saved, .ref h_this_plan, .ref h_this_bestPlan, .int x_this_most, .int x_this_many, .int x_this_few, .int x_this_everHome, .ref h_this_offThen, .ref h_this_paidThen, .int x_this_firstFit, .ref h_this_rows, .int x_this_rowMany, .ref h_this_sorts, .ref h_this_sizes, .ref h_this_number, .ref h_this_holds, .ref h_this_heldOne, .ref h_this_trace, .int y31, .int x_this_own, .int y26]), (h_this_trace, ia G 30 g32)] rfl rfl (by decide +kernel) rfl hl.1 rfl (Nat.le_of_ble_eq_true rfl) (rok (by omega)) dX9_soundsAs_36 (fun H locs h => ?_)
      refine lv_ixor hx hb dX9_soundsAs_39 ?_
      clear B97 B102 hK2 hK1
      cases hf
      exact r_iret C h hr hlk rfl dX9_soundsAs_40
    · replace hf := ifn c29 hf
      refine lv_iconst (v := (0 : Int32)) hx hb dX9_soundsAs_25 rfl ?_
      refine lv_goto (tgt := 40) hx hb dX9_soundsAs_26 rfl ?_
      clear B97 B102 hK2 hK1
      cases hf
      exact r_iret C h hr hlk rfl dX9_soundsAs_40
