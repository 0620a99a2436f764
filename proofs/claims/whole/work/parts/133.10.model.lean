set_option maxRecDepth 100000 in
set_option maxHeartbeats 4000000 in
theorem c_X9_judge {l : Launch} {G : Gt} {h_this h_this_s h_this_kept h_this_laid h_this_pile h_this_tape h_this_letters h_this_code0 h_this_read h_this_saved h_this_plan h_this_bestPlan h_this_offThen h_this_paidThen h_this_rows h_this_sorts h_this_sizes h_this_number h_this_holds h_this_heldOne h_this_trace : Nat} {x_this_isKept : Int32} {x_this_taped : Int32} {x_this_at : Int32} {x_this_begun : Int32} {x_this_token : Int32} {x_this_value : Int32} {x_this_opened : Int32} {x_this_steps : Int32} {x_this_most : Int32} {x_this_many : Int32} {x_this_few : Int32} {x_this_everHome : Int32} {x_this_firstFit : Int32} {x_this_rowMany : Int32} {x_this_traced : Int32} {x_this_own : Int32} {x_this_isParted : Int32} {f_this_laid : Nat → Int32} {f_this_pile : Nat → Int32} {f_this_rows : Nat → Int32} {f_this_s : Nat → Int32} {r : Int32} {m_this_laid : Nat → Int32} {m_this_pile : Nat → Int32} {m_this_s : Nat → Int32} (hf : f_X9_judge x_this_rowMany f_this_laid f_this_pile f_this_rows f_this_s = some (r, m_this_laid, m_this_pile, m_this_s)) : mFi l G yX9_judge cX9_judge 6 .int 7 [.ref h_this] [(h_this, ob 9 [.ref h_this_s, .ref h_this_kept, .ref h_this_laid, .int x_this_isKept, .ref h_this_pile, .ref h_this_tape, .int x_this_taped, .ref h_this_letters, .int x_this_at, .int x_this_begun, .int x_this_token, .int x_this_value, .int x_this_opened, .int x_this_steps, .ref h_this_code0, .ref h_this_read, .ref h_this_saved, .ref h_this_plan, .ref h_this_bestPlan, .int x_this_most, .int x_this_many, .int x_this_few, .int x_this_everHome, .ref h_this_offThen, .ref h_this_paidThen, .int x_this_firstFit, .ref h_this_rows, .int x_this_rowMany, .ref h_this_sorts, .ref h_this_sizes, .ref h_this_number, .ref h_this_holds, .ref h_this_heldOne, .ref h_this_trace, .int x_this_traced, .int x_this_own, .int x_this_isParted]), (h_this_laid, ia G 65 f_this_laid), (h_this_pile, ia G 200 f_this_pile), (h_this_rows, ia G 12 f_this_rows), (h_this_s, ia G 313 f_this_s)] r [(h_this, ob 9 [.ref h_this_s, .ref h_this_kept, .ref h_this_laid, .int x_this_isKept, .ref h_this_pile, .ref h_this_tape, .int x_this_taped, .ref h_this_letters, .int x_this_at, .int x_this_begun, .int x_this_token, .int x_this_value, .int x_this_opened, .int x_this_steps, .ref h_this_code0, .ref h_this_read, .ref h_this_saved, .ref h_this_plan, .ref h_this_bestPlan, .int x_this_most, .int x_this_many, .int x_this_few, .int x_this_everHome, .ref h_this_offThen, .ref h_this_paidThen, .int x_this_firstFit, .ref h_this_rows, .int x_this_rowMany, .ref h_this_sorts, .ref h_this_sizes, .ref h_this_number, .ref h_this_holds, .ref h_this_heldOne, .ref h_this_trace, .int x_this_traced, .int x_this_own, .int x_this_isParted]), (h_this_laid, ia G 65 m_this_laid), (h_this_pile, ia G 200 m_this_pile), (h_this_rows, ia G 12 f_this_rows), (h_this_s, ia G 313 m_this_s)] := by
  refine mFi.of (by decide +kernel) (Nat.le_of_ble_eq_true rfl) ?_
  intro p e s m below meth c A C hr hlk h ls hl
  obtain ⟨hx, hb, hml, hown, hts⟩ := id C
  replace hl : lv_has ls 6 [(0, .ref h_this)] := hl
  unfold f_X9_judge at hf
  refine with_K G A 6 (fun K hK1 hK2 => ?_)
  have B112 : ∀ (rec8 : Int32 → Int32 → (Nat → Int32) → (Nat → Int32) → (Nat → Int32) → Option (Int32 × (Nat → Int32) × (Nat → Int32) × (Nat → Int32))) (hrec8 : ∀ (v1 : Int32) (v2 : Int32) (g_this_laid : Nat → Int32) (g_this_pile : Nat → Int32) (g_this_s : Nat → Int32), rec8 v1 v2 g_this_laid g_this_pile g_this_s = some (r, m_this_laid, m_this_pile, m_this_s) → K 8 ([] : List Value) [(h_this, ob 9 [.ref h_this_s, .ref h_this_kept, .ref h_this_laid, .int x_this_isKept, .ref h_this_pile, .ref h_this_tape, .int x_this_taped, .ref h_this_letters, .int x_this_at, .int x_this_begun, .int x_this_token, .int x_this_value, .int x_this_opened, .int x_this_steps, .ref h_this_code0, .ref h_this_read, .ref h_this_saved, .ref h_this_plan, .ref h_this_bestPlan, .int x_this_most, .int x_this_many, .int x_this_few, .int x_this_everHome, .ref h_this_offThen, .ref h_this_paidThen, .int x_this_firstFit, .ref h_this_rows, .int x_this_rowMany, .ref h_this_sorts, .ref h_this_sizes, .ref h_this_number, .ref h_this_holds, .ref h_this_heldOne, .ref h_this_trace, .int x_this_traced, .int x_this_own, .int x_this_isParted]), (h_this_laid, ia G 65 g_this_laid), (h_this_pile, ia G 200 g_this_pile), (h_this_rows, ia G 12 f_this_rows), (h_this_s, ia G 313 g_this_s)] [(0, .ref h_this), (1, .int v1), (2, .int v2)]) (v2 : Int32) (s0 : Int32) (g_this_laid : Nat → Int32) (g_this_pile : Nat → Int32) (g_this_s : Nat → Int32), f_X9_judge_b112 rec8 v2 s0 g_this_laid g_this_pile g_this_s = some (r, m_this_laid, m_this_pile, m_this_s) → K 112 [.int s0] [(h_this, ob 9 [.ref h_this_s, .ref h_this_kept, .ref h_this_laid, .int x_this_isKept, .ref h_this_pile, .ref h_this_tape, .int x_this_taped, .ref h_this_letters, .int x_this_at, .int x_this_begun, .int x_this_token, .int x_this_value, .int x_this_opened, .int x_this_steps, .ref h_this_code0, .ref h_this_read, .ref h_this_saved, .ref h_this_plan, .ref h_this_bestPlan, .int x_this_most, .int x_this_many, .int x_this_few, .int x_this_everHome, .ref h_this_offThen, .ref h_this_paidThen, .int x_this_firstFit, .ref h_this_rows, .int x_this_rowMany, .ref h_this_sorts, .ref h_this_sizes, .ref h_this_number, .ref h_this_holds, .ref h_this_heldOne, .ref h_this_trace, .int x_this_traced, .int x_this_own, .int x_this_isParted]), (h_this_laid, ia G 65 g_this_laid), (h_this_pile, ia G 200 g_this_pile), (h_this_rows, ia G 12 f_this_rows), (h_this_s, ia G 313 g_this_s)] [(0, .ref h_this), (2, .int v2)] := by
    intro rec8 hrec8 v2 s0 g_this_laid g_this_pile g_this_s hf
    unfold f_X9_judge_b112 at hf
    refine hK1 _ _ _ _ (fun H locs ls h hl => ?_)
    refine lv_istore (lv' := [(5, .int s0), (0, .ref h_this), (2, .int v2)]) hx hb dX9_judge_112 hl (by decide) rfl (fun ls hl => ?_)
    refine lv_iload hx hb dX9_judge_114 (lv_at hl 0 rfl) ?_
    refine lv_if_eq (tgt := 123) hx hb dX9_judge_116 rfl (fun c15 => ?_) (fun c15 => ?_)
    · replace hf := ifp c15 hf
      refine lv_iconst (v := (1 : Int32)) hx hb dX9_judge_123 rfl ?_
      refine lv_iload_n hx hb dX9_judge_124 rfl (lv_at hl 2 rfl) ?_
      refine lv_iadd hx hb dX9_judge_125 ?_
      refine lv_topi (fun t16 et16 => ?_)
      replace hf := lt1_inv et16 hf
      refine lv_istore_n (lv' := [(1, .int t16), (5, .int s0), (0, .ref h_this), (2, .int v2)]) hx hb dX9_judge_126 rfl hl (by decide) rfl (fun ls hl => ?_)
      obtain ⟨t17, et17⟩ : ∃ y : Int32, y = v2 + (1 : Int32) := ⟨_, rfl⟩
      replace hf := lt1_inv et17 hf
      refine lv_iinc (v := t17) (lv' := [(2, .int t17), (1, .int t16), (5, .int s0), (0, .ref h_this)]) hx hb dX9_judge_127 hl (k := 3) rfl (by rw [et17]; rfl) (by decide) rfl (fun ls hl => ?_)
      refine lv_goto (tgt := 8) hx hb dX9_judge_130 rfl ?_
      exact hK2 _ _ _ _ (hrec8 t16 t17 g_this_laid g_this_pile g_this_s hf) _ _ _ h (lv_sub hl [3, 1, 0] rfl)
    · replace hf := ifn c15 hf
      refine lv_iconst (v := (0 : Int32)) hx hb dX9_judge_119 rfl ?_
      refine lv_goto (tgt := 126) hx hb dX9_judge_120 rfl ?_
      refine lv_istore_n (lv' := [(1, .int (0 : Int32)), (5, .int s0), (0, .ref h_this), (2, .int v2)]) hx hb dX9_judge_126 rfl hl (by decide) rfl (fun ls hl => ?_)
      obtain ⟨t18, et18⟩ : ∃ y : Int32, y = v2 + (1 : Int32) := ⟨_, rfl⟩
      replace hf := lt1_inv et18 hf
      refine lv_iinc (v := t18) (lv' := [(2, .int t18), (1, .int (0 : Int32)), (5, .int s0), (0, .ref h_this)]) hx hb dX9_judge_127 hl (k := 3) rfl (by rw [et18]; rfl) (by decide) rfl (fun ls hl => ?_)
      refine lv_goto (tgt := 8) hx hb dX9_judge_130 rfl ?_
      exact hK2 _ _ _ _ (hrec8 (0 : Int32) t18 g_this_laid g_this_pile g_this_s hf) _ _ _ h (lv_sub hl [3, 1, 0] rfl)
  have B111 : ∀ (rec8 : Int32 → Int32 → (Nat → Int32) → (Nat → Int32) → (Nat → Int32) → Option (Int32 × (Nat → Int32) × (Nat → Int32) × (Nat → Int32))) (hrec8 : ∀ (v1 : Int32) (v2 : Int32) (g_this_laid : Nat → Int32) (g_this_pile : Nat → Int32) (g_this_s : Nat → Int32), rec8 v1 v2 g_this_laid g_this_pile g_this_s = some (r, m_this_laid, m_this_pile, m_this_s) → K 8 ([] : List Value) [(h_this, ob 9 [.ref h_this_s, .ref h_this_kept, .ref h_this_laid, .int x_this_isKept, .ref h_this_pile, .ref h_this_tape, .int x_this_taped, .ref h_this_letters, .int x_this_at, .int x_this_begun, .int x_this_token, .int x_this_value, .int x_this_opened, .int x_this_steps, .ref h_this_code0, .ref h_this_read, .ref h_this_saved, .ref h_this_plan, .ref h_this_bestPlan, .int x_this_most, .int x_this_many, .int x_this_few, .int x_this_everHome, .ref h_this_offThen, .ref h_this_paidThen, .int x_this_firstFit, .ref h_this_rows, .int x_this_rowMany, .ref h_this_sorts, .ref h_this_sizes, .ref h_this_number, .ref h_this_holds, .ref h_this_heldOne, .ref h_this_trace, .int x_this_traced, .int x_this_own, .int x_this_isParted]), (h_this_laid, ia G 65 g_this_laid), (h_this_pile, ia G 200 g_this_pile), (h_this_rows, ia G 12 f_this_rows), (h_this_s, ia G 313 g_this_s)] [(0, .ref h_this), (1, .int v1), (2, .int v2)]) (v2 : Int32) (g_this_laid : Nat → Int32) (g_this_pile : Nat → Int32) (g_this_s : Nat → Int32), f_X9_judge_b111 rec8 v2 g_this_laid g_this_pile g_this_s = some (r, m_this_laid, m_this_pile, m_this_s) → K 111 ([] : List Value) [(h_this, ob 9 [.ref h_this_s, .ref h_this_kept, .ref h_this_laid, .int x_this_isKept, .ref h_this_pile, .ref h_this_tape, .int x_this_taped, .ref h_this_letters, .int x_this_at, .int x_this_begun, .int x_this_token, .int x_this_value, .int x_this_opened, .int x_this_steps, .ref h_this_code0, .ref h_this_read, .ref h_this_saved, .ref h_this_plan, .ref h_this_bestPlan, .int x_this_most, .int x_this_many, .int x_this_few, .int x_this_everHome, .ref h_this_offThen, .ref h_this_paidThen, .int x_this_firstFit, .ref h_this_rows, .int x_this_rowMany, .ref h_this_sorts, .ref h_this_sizes, .ref h_this_number, .ref h_this_holds, .ref h_this_heldOne, .ref h_this_trace, .int x_this_traced, .int x_this_own, .int x_this_isParted]), (h_this_laid, ia G 65 g_this_laid), (h_this_pile, ia G 200 g_this_pile), (h_this_rows, ia G 12 f_this_rows), (h_this_s, ia G 313 g_this_s)] [(0, .ref h_this), (2, .int v2)] := by
    intro rec8 hrec8 v2 g_this_laid g_this_pile g_this_s hf
    unfold f_X9_judge_b111 at hf
    refine hK1 _ _ _ _ (fun H locs ls h hl => ?_)
    refine lv_iconst (v := (0 : Int32)) hx hb dX9_judge_111 rfl ?_
    exact hK2 _ _ _ _ (B112 _ hrec8 v2 (0 : Int32) g_this_laid g_this_pile g_this_s hf) _ _ _ h (lv_sub hl [0, 1] rfl)
  have B68 : ∀ (rec8 : Int32 → Int32 → (Nat → Int32) → (Nat → Int32) → (Nat → Int32) → Option (Int32 × (Nat → Int32) × (Nat → Int32) × (Nat → Int32))) (hrec8 : ∀ (v1 : Int32) (v2 : Int32) (g_this_laid : Nat → Int32) (g_this_pile : Nat → Int32) (g_this_s : Nat → Int32), rec8 v1 v2 g_this_laid g_this_pile g_this_s = some (r, m_this_laid, m_this_pile, m_this_s) → K 8 ([] : List Value) [(h_this, ob 9 [.ref h_this_s, .ref h_this_kept, .ref h_this_laid, .int x_this_isKept, .ref h_this_pile, .ref h_this_tape, .int x_this_taped, .ref h_this_letters, .int x_this_at, .int x_this_begun, .int x_this_token, .int x_this_value, .int x_this_opened, .int x_this_steps, .ref h_this_code0, .ref h_this_read, .ref h_this_saved, .ref h_this_plan, .ref h_this_bestPlan, .int x_this_most, .int x_this_many, .int x_this_few, .int x_this_everHome, .ref h_this_offThen, .ref h_this_paidThen, .int x_this_firstFit, .ref h_this_rows, .int x_this_rowMany, .ref h_this_sorts, .ref h_this_sizes, .ref h_this_number, .ref h_this_holds, .ref h_this_heldOne, .ref h_this_trace, .int x_this_traced, .int x_this_own, .int x_this_isParted]), (h_this_laid, ia G 65 g_this_laid), (h_this_pile, ia G 200 g_this_pile), (h_this_rows, ia G 12 f_this_rows), (h_this_s, ia G 313 g_this_s)] [(0, .ref h_this), (1, .int v1), (2, .int v2)]) (v2 : Int32) (v3 : Int32) (s0 : Int32) (g_this_laid : Nat → Int32) (g_this_pile : Nat → Int32) (g_this_s : Nat → Int32), f_X9_judge_b68 rec8 f_this_rows v2 v3 s0 g_this_laid g_this_pile g_this_s = some (r, m_this_laid, m_this_pile, m_this_s) → K 68 [.int s0] [(h_this, ob 9 [.ref h_this_s, .ref h_this_kept, .ref h_this_laid, .int x_this_isKept, .ref h_this_pile, .ref h_this_tape, .int x_this_taped, .ref h_this_letters, .int x_this_at, .int x_this_begun, .int x_this_token, .int x_this_value, .int x_this_opened, .int x_this_steps, .ref h_this_code0, .ref h_this_read, .ref h_this_saved, .ref h_this_plan, .ref h_this_bestPlan, .int x_this_most, .int x_this_many, .int x_this_few, .int x_this_everHome, .ref h_this_offThen, .ref h_this_paidThen, .int x_this_firstFit, .ref h_this_rows, .int x_this_rowMany, .ref h_this_sorts, .ref h_this_sizes, .ref h_this_number, .ref h_this_holds, .ref h_this_heldOne, .ref h_this_trace, .int x_this_traced, .int x_this_own, .int x_this_isParted]), (h_this_laid, ia G 65 g_this_laid), (h_this_pile, ia G 200 g_this_pile), (h_this_rows, ia G 12 f_this_rows), (h_this_s, ia G 313 g_this_s)] [(0, .ref h_this), (2, .int v2), (3, .int v3)] := by
    intro rec8 hrec8 v2 v3 s0 g_this_laid g_this_pile g_this_s hf
    unfold f_X9_judge_b68 at hf
    refine hK1 _ _ _ _ (fun H locs ls h hl => ?_)
    refine lv_istore (lv' := [(4, .int s0), (0, .ref h_this), (2, .int v2), (3, .int v3)]) hx hb dX9_judge_68 hl (by decide) rfl (fun ls hl => ?_)
    refine lv_iload_n hx hb dX9_judge_70 rfl (lv_at hl 3 rfl) ?_
    refine lv_if_eq (tgt := 111) hx hb dX9_judge_71 rfl (fun c14 => ?_) (fun c14 => ?_)
    · replace hf := ifp c14 hf
      exact hK2 _ _ _ _ (B111 _ hrec8 v2 g_this_laid g_this_pile g_this_s hf) _ _ _ h (lv_sub hl [1, 2] rfl)
    · replace hf := ifn c14 hf
      refine lv_iload hx hb dX9_judge_74 (lv_at hl 0 rfl) ?_
      refine lv_aload_n hx hb dX9_judge_76 rfl (lv_at hl 1 rfl) ?_
      refine r_get C h fk_X9_50 0 rfl rfl dX9_judge_77 ?_
      refine lv_iconst (v := (3 : Int32)) hx hb dX9_judge_80 rfl ?_
      refine lv_iload_n hx hb dX9_judge_81 rfl (lv_at hl 2 rfl) ?_
      refine lv_imul hx hb dX9_judge_82 ?_
      refine lv_iconst (v := (1 : Int32)) hx hb dX9_judge_83 rfl ?_
      refine lv_iadd hx hb dX9_judge_84 ?_
      replace hf := chkI_inv hf
      obtain ⟨hi19, hf⟩ := hf
      refine r_iald C h 3 rfl hi19 dX9_judge_85 ?_
      refine lv_icmp_ne (tgt := 111) hx hb dX9_judge_86 rfl (fun c20 => ?_) (fun c20 => ?_)
      · replace hf := ifn c20 hf
        exact hK2 _ _ _ _ (B111 _ hrec8 v2 g_this_laid g_this_pile g_this_s hf) _ _ _ h (lv_sub hl [1, 2] rfl)
      · replace hf := ifp c20 hf
        refine lv_aload_n hx hb dX9_judge_89 rfl (lv_at hl 1 rfl) ?_
        refine lv_iconst (v := (4 : Int32)) hx hb dX9_judge_90 rfl ?_
        replace hf := bd1_inv hf
        obtain ⟨r21, hc22, hf⟩ := hf
        refine r_ciV0 C h (c_X9_those hc22) mv_X9_235 rfl 0 rfl [0, 4] rfl rfl hl.1 rfl (Nat.le_of_ble_eq_true rfl) (rok (by decide)) dX9_judge_91 (fun H locs h => ?_)
        refine lv_aload_n hx hb dX9_judge_94 rfl (lv_at hl 1 rfl) ?_
        refine r_get C h fk_X9_50 0 rfl rfl dX9_judge_95 ?_
        refine lv_iconst (v := (3 : Int32)) hx hb dX9_judge_98 rfl ?_
        refine lv_iload_n hx hb dX9_judge_99 rfl (lv_at hl 2 rfl) ?_
        refine lv_imul hx hb dX9_judge_100 ?_
        refine lv_iconst (v := (2 : Int32)) hx hb dX9_judge_101 rfl ?_
        refine lv_iadd hx hb dX9_judge_102 ?_
        replace hf := chkI_inv hf
        obtain ⟨hi23, hf⟩ := hf
        refine r_iald C h 3 rfl hi23 dX9_judge_103 ?_
        refine lv_icmp_ne (tgt := 111) hx hb dX9_judge_104 rfl (fun c24 => ?_) (fun c24 => ?_)
        · replace hf := ifn c24 hf
          exact hK2 _ _ _ _ (B111 _ hrec8 v2 g_this_laid g_this_pile g_this_s hf) _ _ _ h (lv_sub hl [1, 2] rfl)
        · replace hf := ifp c24 hf
          refine lv_iconst (v := (1 : Int32)) hx hb dX9_judge_107 rfl ?_
          refine lv_goto (tgt := 112) hx hb dX9_judge_108 rfl ?_
          exact hK2 _ _ _ _ (B112 _ hrec8 v2 (1 : Int32) g_this_laid g_this_pile g_this_s hf) _ _ _ h (lv_sub hl [1, 2] rfl)
  have B47 : ∀ (rec8 : Int32 → Int32 → (Nat → Int32) → (Nat → Int32) → (Nat → Int32) → Option (Int32 × (Nat → Int32) × (Nat → Int32) × (Nat → Int32))) (hrec8 : ∀ (v1 : Int32) (v2 : Int32) (g_this_laid : Nat → Int32) (g_this_pile : Nat → Int32) (g_this_s : Nat → Int32), rec8 v1 v2 g_this_laid g_this_pile g_this_s = some (r, m_this_laid, m_this_pile, m_this_s) → K 8 ([] : List Value) [(h_this, ob 9 [.ref h_this_s, .ref h_this_kept, .ref h_this_laid, .int x_this_isKept, .ref h_this_pile, .ref h_this_tape, .int x_this_taped, .ref h_this_letters, .int x_this_at, .int x_this_begun, .int x_this_token, .int x_this_value, .int x_this_opened, .int x_this_steps, .ref h_this_code0, .ref h_this_read, .ref h_this_saved, .ref h_this_plan, .ref h_this_bestPlan, .int x_this_most, .int x_this_many, .int x_this_few, .int x_this_everHome, .ref h_this_offThen, .ref h_this_paidThen, .int x_this_firstFit, .ref h_this_rows, .int x_this_rowMany, .ref h_this_sorts, .ref h_this_sizes, .ref h_this_number, .ref h_this_holds, .ref h_this_heldOne, .ref h_this_trace, .int x_this_traced, .int x_this_own, .int x_this_isParted]), (h_this_laid, ia G 65 g_this_laid), (h_this_pile, ia G 200 g_this_pile), (h_this_rows, ia G 12 f_this_rows), (h_this_s, ia G 313 g_this_s)] [(0, .ref h_this), (1, .int v1), (2, .int v2)]) (v2 : Int32) (s0 : Int32) (g_this_laid : Nat → Int32) (g_this_pile : Nat → Int32) (g_this_s : Nat → Int32), f_X9_judge_b47 rec8 f_this_rows v2 s0 g_this_laid g_this_pile g_this_s = some (r, m_this_laid, m_this_pile, m_this_s) → K 47 [.int s0] [(h_this, ob 9 [.ref h_this_s, .ref h_this_kept, .ref h_this_laid, .int x_this_isKept, .ref h_this_pile, .ref h_this_tape, .int x_this_taped, .ref h_this_letters, .int x_this_at, .int x_this_begun, .int x_this_token, .int x_this_value, .int x_this_opened, .int x_this_steps, .ref h_this_code0, .ref h_this_read, .ref h_this_saved, .ref h_this_plan, .ref h_this_bestPlan, .int x_this_most, .int x_this_many, .int x_this_few, .int x_this_everHome, .ref h_this_offThen, .ref h_this_paidThen, .int x_this_firstFit, .ref h_this_rows, .int x_this_rowMany, .ref h_this_sorts, .ref h_this_sizes, .ref h_this_number, .ref h_this_holds, .ref h_this_heldOne, .ref h_this_trace, .int x_this_traced, .int x_this_own, .int x_this_isParted]), (h_this_laid, ia G 65 g_this_laid), (h_this_pile, ia G 200 g_this_pile), (h_this_rows, ia G 12 f_this_rows), (h_this_s, ia G 313 g_this_s)] [(0, .ref h_this), (2, .int v2)] := by
    intro rec8 hrec8 v2 s0 g_this_laid g_this_pile g_this_s hf
    unfold f_X9_judge_b47 at hf
    refine hK1 _ _ _ _ (fun H locs ls h hl => ?_)
    refine lv_istore_n (lv' := [(3, .int s0), (0, .ref h_this), (2, .int v2)]) hx hb dX9_judge_47 rfl hl (by decide) rfl (fun ls hl => ?_)
    refine lv_iload_n hx hb dX9_judge_48 rfl (lv_at hl 0 rfl) ?_
    refine lv_if_eq (tgt := 67) hx hb dX9_judge_49 rfl (fun c13 => ?_) (fun c13 => ?_)
    · replace hf := ifp c13 hf
      refine lv_iconst (v := (0 : Int32)) hx hb dX9_judge_67 rfl ?_
      exact hK2 _ _ _ _ (B68 _ hrec8 v2 s0 (0 : Int32) g_this_laid g_this_pile g_this_s hf) _ _ _ h (lv_sub hl [1, 2, 0] rfl)
    · replace hf := ifn c13 hf
      refine lv_aload_n hx hb dX9_judge_52 rfl (lv_at hl 1 rfl) ?_
      refine lv_aload_n hx hb dX9_judge_53 rfl (lv_at hl 1 rfl) ?_
      refine r_get C h fk_X9_50 0 rfl rfl dX9_judge_54 ?_
      refine lv_iconst (v := (3 : Int32)) hx hb dX9_judge_57 rfl ?_
      refine lv_iload_n hx hb dX9_judge_58 rfl (lv_at hl 2 rfl) ?_
      refine lv_imul hx hb dX9_judge_59 ?_
      replace hf := chkI_inv hf
      obtain ⟨hi25, hf⟩ := hf
      refine r_iald C h 3 rfl hi25 dX9_judge_60 ?_
      replace hf := bd3_inv hf
      obtain ⟨r26, g27, g28, hc29, hf⟩ := hf
      refine r_ciV (ws' := [(h_this, ob 9 [.ref h_this_s, .ref h_this_kept, .ref h_this_laid, .int x_this_isKept, .ref h_this_pile, .ref h_this_tape, .int x_this_taped, .ref h_this_letters, .int x_this_at, .int x_this_begun, .int x_this_token, .int x_this_value, .int x_this_opened, .int x_this_steps, .ref h_this_code0, .ref h_this_read, .ref h_this_saved, .ref h_this_plan, .ref h_this_bestPlan, .int x_this_most, .int x_this_many, .int x_this_few, .int x_this_everHome, .ref h_this_offThen, .ref h_this_paidThen, .int x_this_firstFit, .ref h_this_rows, .int x_this_rowMany, .ref h_this_sorts, .ref h_this_sizes, .ref h_this_number, .ref h_this_holds, .ref h_this_heldOne, .ref h_this_trace, .int x_this_traced, .int x_this_own, .int x_this_isParted]), (h_this_laid, ia G 65 g_this_laid), (h_this_pile, ia G 200 g27), (h_this_rows, ia G 12 f_this_rows), (h_this_s, ia G 313 g28)]) C h (c_X9_goesBy hc29) mv_X9_238 rfl 0 rfl [0, 2, 4] rfl rfl [2, 4] [(h_this_pile, ia G 200 g27), (h_this_s, ia G 313 g28)] rfl rfl (by decide +kernel) rfl hl.1 rfl (Nat.le_of_ble_eq_true rfl) (rok (by decide)) dX9_judge_61 (fun H locs h => ?_)
      refine lv_goto (tgt := 68) hx hb dX9_judge_64 rfl ?_
      exact hK2 _ _ _ _ (B68 _ hrec8 v2 s0 r26 g_this_laid g27 g28 hf) _ _ _ h (lv_sub hl [1, 2, 0] rfl)
  have B46 : ∀ (rec8 : Int32 → Int32 → (Nat → Int32) → (Nat → Int32) → (Nat → Int32) → Option (Int32 × (Nat → Int32) × (Nat → Int32) × (Nat → Int32))) (hrec8 : ∀ (v1 : Int32) (v2 : Int32) (g_this_laid : Nat → Int32) (g_this_pile : Nat → Int32) (g_this_s : Nat → Int32), rec8 v1 v2 g_this_laid g_this_pile g_this_s = some (r, m_this_laid, m_this_pile, m_this_s) → K 8 ([] : List Value) [(h_this, ob 9 [.ref h_this_s, .ref h_this_kept, .ref h_this_laid, .int x_this_isKept, .ref h_this_pile, .ref h_this_tape, .int x_this_taped, .ref h_this_letters, .int x_this_at, .int x_this_begun, .int x_this_token, .int x_this_value, .int x_this_opened, .int x_this_steps, .ref h_this_code0, .ref h_this_read, .ref h_this_saved, .ref h_this_plan, .ref h_this_bestPlan, .int x_this_most, .int x_this_many, .int x_this_few, .int x_this_everHome, .ref h_this_offThen, .ref h_this_paidThen, .int x_this_firstFit, .ref h_this_rows, .int x_this_rowMany, .ref h_this_sorts, .ref h_this_sizes, .ref h_this_number, .ref h_this_holds, .ref h_this_heldOne, .ref h_this_trace, .int x_this_traced, .int x_this_own, .int x_this_isParted]), (h_this_laid, ia G 65 g_this_laid), (h_this_pile, ia G 200 g_this_pile), (h_this_rows, ia G 12 f_this_rows), (h_this_s, ia G 313 g_this_s)] [(0, .ref h_this), (1, .int v1), (2, .int v2)]) (v2 : Int32) (g_this_laid : Nat → Int32) (g_this_pile : Nat → Int32) (g_this_s : Nat → Int32), f_X9_judge_b46 rec8 f_this_rows v2 g_this_laid g_this_pile g_this_s = some (r, m_this_laid, m_this_pile, m_this_s) → K 46 ([] : List Value) [(h_this, ob 9 [.ref h_this_s, .ref h_this_kept, .ref h_this_laid, .int x_this_isKept, .ref h_this_pile, .ref h_this_tape, .int x_this_taped, .ref h_this_letters, .int x_this_at, .int x_this_begun, .int x_this_token, .int x_this_value, .int x_this_opened, .int x_this_steps, .ref h_this_code0, .ref h_this_read, .ref h_this_saved, .ref h_this_plan, .ref h_this_bestPlan, .int x_this_most, .int x_this_many, .int x_this_few, .int x_this_everHome, .ref h_this_offThen, .ref h_this_paidThen, .int x_this_firstFit, .ref h_this_rows, .int x_this_rowMany, .ref h_this_sorts, .ref h_this_sizes, .ref h_this_number, .ref h_this_holds, .ref h_this_heldOne, .ref h_this_trace, .int x_this_traced, .int x_this_own, .int x_this_isParted]), (h_this_laid, ia G 65 g_this_laid), (h_this_pile, ia G 200 g_this_pile), (h_this_rows, ia G 12 f_this_rows), (h_this_s, ia G 313 g_this_s)] [(0, .ref h_this), (2, .int v2)] := by
    intro rec8 hrec8 v2 g_this_laid g_this_pile g_this_s hf
    unfold f_X9_judge_b46 at hf
    refine hK1 _ _ _ _ (fun H locs ls h hl => ?_)
    refine lv_iconst (v := (0 : Int32)) hx hb dX9_judge_46 rfl ?_
    exact hK2 _ _ _ _ (B47 _ hrec8 v2 (0 : Int32) g_this_laid g_this_pile g_this_s hf) _ _ _ h (lv_sub hl [0, 1] rfl)
  have L8 : ∀ (n : Nat) (v1 : Int32) (v2 : Int32) (g_this_laid : Nat → Int32) (g_this_pile : Nat → Int32) (g_this_s : Nat → Int32), f_X9_judge_L8 x_this_rowMany f_this_rows n v1 v2 g_this_laid g_this_pile g_this_s = some (r, m_this_laid, m_this_pile, m_this_s) → K 8 ([] : List Value) [(h_this, ob 9 [.ref h_this_s, .ref h_this_kept, .ref h_this_laid, .int x_this_isKept, .ref h_this_pile, .ref h_this_tape, .int x_this_taped, .ref h_this_letters, .int x_this_at, .int x_this_begun, .int x_this_token, .int x_this_value, .int x_this_opened, .int x_this_steps, .ref h_this_code0, .ref h_this_read, .ref h_this_saved, .ref h_this_plan, .ref h_this_bestPlan, .int x_this_most, .int x_this_many, .int x_this_few, .int x_this_everHome, .ref h_this_offThen, .ref h_this_paidThen, .int x_this_firstFit, .ref h_this_rows, .int x_this_rowMany, .ref h_this_sorts, .ref h_this_sizes, .ref h_this_number, .ref h_this_holds, .ref h_this_heldOne, .ref h_this_trace, .int x_this_traced, .int x_this_own, .int x_this_isParted]), (h_this_laid, ia G 65 g_this_laid), (h_this_pile, ia G 200 g_this_pile), (h_this_rows, ia G 12 f_this_rows), (h_this_s, ia G 313 g_this_s)] [(0, .ref h_this), (1, .int v1), (2, .int v2)] := by
    intro n
    induction n with
    | zero =>
      intro v1 v2 g_this_laid g_this_pile g_this_s hf
      replace hf : (none : Option _) = some _ := hf
      cases hf
    | succ n ih =>
      intro v1 v2 g_this_laid g_this_pile g_this_s hf
      rw [f_X9_judge_L8] at hf
      refine hK1 _ _ _ _ (fun H locs ls h hl => ?_)
      refine lv_iload_n hx hb dX9_judge_8 rfl (lv_at hl 2 rfl) ?_
      refine lv_aload_n hx hb dX9_judge_9 rfl (lv_at hl 0 rfl) ?_
      refine r_get C h fk_X9_320 0 rfl rfl dX9_judge_10 ?_
      refine lv_icmp_ge (tgt := 133) hx hb dX9_judge_13 rfl (fun c3 => ?_) (fun c3 => ?_)
      · replace hf := ifp c3 hf
        refine lv_aload_n hx hb dX9_judge_133 rfl (lv_at hl 0 rfl) ?_
        replace hf := bd1_inv hf
        obtain ⟨g4, hc5, hf⟩ := hf
        refine r_cvV (ws' := [(h_this, ob 9 [.ref h_this_s, .ref h_this_kept, .ref h_this_laid, .int x_this_isKept, .ref h_this_pile, .ref h_this_tape, .int x_this_taped, .ref h_this_letters, .int x_this_at, .int x_this_begun, .int x_this_token, .int x_this_value, .int x_this_opened, .int x_this_steps, .ref h_this_code0, .ref h_this_read, .ref h_this_saved, .ref h_this_plan, .ref h_this_bestPlan, .int x_this_most, .int x_this_many, .int x_this_few, .int x_this_everHome, .ref h_this_offThen, .ref h_this_paidThen, .int x_this_firstFit, .ref h_this_rows, .int x_this_rowMany, .ref h_this_sorts, .ref h_this_sizes, .ref h_this_number, .ref h_this_holds, .ref h_this_heldOne, .ref h_this_trace, .int x_this_traced, .int x_this_own, .int x_this_isParted]), (h_this_laid, ia G 65 g_this_laid), (h_this_pile, ia G 200 g_this_pile), (h_this_rows, ia G 12 f_this_rows), (h_this_s, ia G 313 g4)]) C h (c_X9_layBack hc5) mv_X9_247 rfl 0 rfl [0, 1, 4] rfl rfl [4] [(h_this_s, ia G 313 g4)] rfl rfl (by decide +kernel) rfl hl.1 rfl (Nat.le_of_ble_eq_true rfl) (rok (by decide)) dX9_judge_134 (fun H locs h => ?_)
        refine lv_iload_n hx hb dX9_judge_137 rfl (lv_at hl 1 rfl) ?_
        clear ih B46 B47 B68 B111 B112 hK2 hK1
        cases hf
        exact r_iret C h hr hlk rfl dX9_judge_138
      · replace hf := ifn c3 hf
        refine lv_iload_n hx hb dX9_judge_16 rfl (lv_at hl 1 rfl) ?_
        refine lv_if_ne (tgt := 133) hx hb dX9_judge_17 rfl (fun c6 => ?_) (fun c6 => ?_)
        · replace hf := ifn c6 hf
          refine lv_aload_n hx hb dX9_judge_133 rfl (lv_at hl 0 rfl) ?_
          replace hf := bd1_inv hf
          obtain ⟨g7, hc8, hf⟩ := hf
          refine r_cvV (ws' := [(h_this, ob 9 [.ref h_this_s, .ref h_this_kept, .ref h_this_laid, .int x_this_isKept, .ref h_this_pile, .ref h_this_tape, .int x_this_taped, .ref h_this_letters, .int x_this_at, .int x_this_begun, .int x_this_token, .int x_this_value, .int x_this_opened, .int x_this_steps, .ref h_this_code0, .ref h_this_read, .ref h_this_saved, .ref h_this_plan, .ref h_this_bestPlan, .int x_this_most, .int x_this_many, .int x_this_few, .int x_this_everHome, .ref h_this_offThen, .ref h_this_paidThen, .int x_this_firstFit, .ref h_this_rows, .int x_this_rowMany, .ref h_this_sorts, .ref h_this_sizes, .ref h_this_number, .ref h_this_holds, .ref h_this_heldOne, .ref h_this_trace, .int x_this_traced, .int x_this_own, .int x_this_isParted]), (h_this_laid, ia G 65 g_this_laid), (h_this_pile, ia G 200 g_this_pile), (h_this_rows, ia G 12 f_this_rows), (h_this_s, ia G 313 g7)]) C h (c_X9_layBack hc8) mv_X9_247 rfl 0 rfl [0, 1, 4] rfl rfl [4] [(h_this_s, ia G 313 g7)] rfl rfl (by decide +kernel) rfl hl.1 rfl (Nat.le_of_ble_eq_true rfl) (rok (by decide)) dX9_judge_134 (fun H locs h => ?_)
          refine lv_iload_n hx hb dX9_judge_137 rfl (lv_at hl 1 rfl) ?_
          clear ih B46 B47 B68 B111 B112 hK2 hK1
          cases hf
          exact r_iret C h hr hlk rfl dX9_judge_138
        · replace hf := ifp c6 hf
          refine lv_aload_n hx hb dX9_judge_20 rfl (lv_at hl 0 rfl) ?_
          refine lv_aload_n hx hb dX9_judge_21 rfl (lv_at hl 0 rfl) ?_
          refine r_get C h fk_X9_50 0 rfl rfl dX9_judge_22 ?_
          refine lv_iconst (v := (3 : Int32)) hx hb dX9_judge_25 rfl ?_
          refine lv_iload_n hx hb dX9_judge_26 rfl (lv_at hl 2 rfl) ?_
          refine lv_imul hx hb dX9_judge_27 ?_
          replace hf := chkI_inv hf
          obtain ⟨hi9, hf⟩ := hf
          refine r_iald C h 3 rfl hi9 dX9_judge_28 ?_
          replace hf := bd1_inv hf
          obtain ⟨r10, hc11, hf⟩ := hf
          refine r_ciV0 C h (c_X9_isAct hc11) mv_X9_326 rfl 0 rfl [0, 4] rfl rfl hl.1 rfl (Nat.le_of_ble_eq_true rfl) (rok (by decide)) dX9_judge_29 (fun H locs h => ?_)
          refine lv_if_eq (tgt := 46) hx hb dX9_judge_32 rfl (fun c12 => ?_) (fun c12 => ?_)
          · replace hf := ifp c12 hf
            exact hK2 _ _ _ _ (B46 _ ih v2 g_this_laid g_this_pile g_this_s hf) _ _ _ h (lv_sub hl [0, 2] rfl)
          · replace hf := ifn c12 hf
            refine lv_aload_n hx hb dX9_judge_35 rfl (lv_at hl 0 rfl) ?_
            replace hf := bd1_inv hf
            obtain ⟨r30, hc31, hf⟩ := hf
            refine r_ciV0 C h (c_X9_isOver hc31) mv_X9_232 rfl 0 rfl [0, 4] rfl rfl hl.1 rfl (Nat.le_of_ble_eq_true rfl) (rok (by decide)) dX9_judge_36 (fun H locs h => ?_)
            refine lv_if_ne (tgt := 46) hx hb dX9_judge_39 rfl (fun c32 => ?_) (fun c32 => ?_)
            · replace hf := ifn c32 hf
              exact hK2 _ _ _ _ (B46 _ ih v2 g_this_laid g_this_pile g_this_s hf) _ _ _ h (lv_sub hl [0, 2] rfl)
            · replace hf := ifp c32 hf
              refine lv_iconst (v := (1 : Int32)) hx hb dX9_judge_42 rfl ?_
              refine lv_goto (tgt := 47) hx hb dX9_judge_43 rfl ?_
              exact hK2 _ _ _ _ (B47 _ ih v2 (1 : Int32) g_this_laid g_this_pile g_this_s hf) _ _ _ h (lv_sub hl [0, 2] rfl)
  refine lv_aload_n hx hb dX9_judge_0 rfl (lv_at hl 0 rfl) ?_
  replace hf := bd1_inv hf
  obtain ⟨g1, hc2, hf⟩ := hf
  refine r_cvV (ws' := [(h_this, ob 9 [.ref h_this_s, .ref h_this_kept, .ref h_this_laid, .int x_this_isKept, .ref h_this_pile, .ref h_this_tape, .int x_this_taped, .ref h_this_letters, .int x_this_at, .int x_this_begun, .int x_this_token, .int x_this_value, .int x_this_opened, .int x_this_steps, .ref h_this_code0, .ref h_this_read, .ref h_this_saved, .ref h_this_plan, .ref h_this_bestPlan, .int x_this_most, .int x_this_many, .int x_this_few, .int x_this_everHome, .ref h_this_offThen, .ref h_this_paidThen, .int x_this_firstFit, .ref h_this_rows, .int x_this_rowMany, .ref h_this_sorts, .ref h_this_sizes, .ref h_this_number, .ref h_this_holds, .ref h_this_heldOne, .ref h_this_trace, .int x_this_traced, .int x_this_own, .int x_this_isParted]), (h_this_laid, ia G 65 g1), (h_this_pile, ia G 200 f_this_pile), (h_this_rows, ia G 12 f_this_rows), (h_this_s, ia G 313 f_this_s)]) C h (c_X9_layDown hc2) mv_X9_241 rfl 0 rfl [0, 1, 4] rfl rfl [1] [(h_this_laid, ia G 65 g1)] rfl rfl (by decide +kernel) rfl hl.1 rfl (Nat.le_of_ble_eq_true rfl) (rok (by decide)) dX9_judge_1 (fun H locs h => ?_)
  refine lv_iconst (v := (0 : Int32)) hx hb dX9_judge_4 rfl ?_
  refine lv_istore_n (lv' := [(1, .int (0 : Int32)), (0, .ref h_this)]) hx hb dX9_judge_5 rfl hl (by decide) rfl (fun ls hl => ?_)
  refine lv_iconst (v := (0 : Int32)) hx hb dX9_judge_6 rfl ?_
  refine lv_istore_n (lv' := [(2, .int (0 : Int32)), (1, .int (0 : Int32)), (0, .ref h_this)]) hx hb dX9_judge_7 rfl hl (by decide) rfl (fun ls hl => ?_)
  exact hK2 _ _ _ _ (L8 1000 (0 : Int32) (0 : Int32) g1 f_this_pile f_this_s hf) _ _ _ h (lv_sub hl [2, 1, 0] rfl)
