set_option maxRecDepth 100000 in
set_option maxHeartbeats 4000000 in
theorem c_X9_when {l : Launch} {G : Gt} {h_this h_this_s h_this_kept h_this_laid h_this_pile h_this_tape h_this_letters h_this_code0 h_this_read h_this_saved h_this_plan h_this_bestPlan h_this_offThen h_this_paidThen h_this_rows h_this_sorts h_this_sizes h_this_number h_this_holds h_this_heldOne h_this_trace : Nat} {p0 : Int32} {x_this_isKept : Int32} {x_this_taped : Int32} {x_this_at : Int32} {x_this_begun : Int32} {x_this_token : Int32} {x_this_value : Int32} {x_this_opened : Int32} {x_this_steps : Int32} {x_this_most : Int32} {x_this_many : Int32} {x_this_few : Int32} {x_this_everHome : Int32} {x_this_firstFit : Int32} {x_this_rowMany : Int32} {x_this_traced : Int32} {x_this_own : Int32} {x_this_isParted : Int32} {f_this_laid : Nat → Int32} {f_this_pile : Nat → Int32} {f_this_s : Nat → Int32} {r : Int32} {m_this_laid : Nat → Int32} {m_this_pile : Nat → Int32} {m_this_s : Nat → Int32} (hf : f_X9_when p0 f_this_laid f_this_pile f_this_s = some (r, m_this_laid, m_this_pile, m_this_s)) : mFi l G yX9_when cX9_when 5 .int 7 [.ref h_this, .int p0] [(h_this, ob 9 [.ref h_this_s, .ref h_this_kept, .ref h_this_laid, .int x_this_isKept, .ref h_this_pile, .ref h_this_tape, .int x_this_taped, .ref h_this_letters, .int x_this_at, .int x_this_begun, .int x_this_token, .int x_this_value, .int x_this_opened, .int x_this_steps, .ref h_this_code0, .ref h_this_read, .ref h_this_saved, .ref h_this_plan, .ref h_this_bestPlan, .int x_this_most, .int x_this_many, .int x_this_few, .int x_this_everHome, .ref h_this_offThen, .ref h_this_paidThen, .int x_this_firstFit, .ref h_this_rows, .int x_this_rowMany, .ref h_this_sorts, .ref h_this_sizes, .ref h_this_number, .ref h_this_holds, .ref h_this_heldOne, .ref h_this_trace, .int x_this_traced, .int x_this_own, .int x_this_isParted]), (h_this_laid, ia G 65 f_this_laid), (h_this_pile, ia G 200 f_this_pile), (h_this_s, ia G 313 f_this_s)] r [(h_this, ob 9 [.ref h_this_s, .ref h_this_kept, .ref h_this_laid, .int x_this_isKept, .ref h_this_pile, .ref h_this_tape, .int x_this_taped, .ref h_this_letters, .int x_this_at, .int x_this_begun, .int x_this_token, .int x_this_value, .int x_this_opened, .int x_this_steps, .ref h_this_code0, .ref h_this_read, .ref h_this_saved, .ref h_this_plan, .ref h_this_bestPlan, .int x_this_most, .int x_this_many, .int x_this_few, .int x_this_everHome, .ref h_this_offThen, .ref h_this_paidThen, .int x_this_firstFit, .ref h_this_rows, .int x_this_rowMany, .ref h_this_sorts, .ref h_this_sizes, .ref h_this_number, .ref h_this_holds, .ref h_this_heldOne, .ref h_this_trace, .int x_this_traced, .int x_this_own, .int x_this_isParted]), (h_this_laid, ia G 65 m_this_laid), (h_this_pile, ia G 200 m_this_pile), (h_this_s, ia G 313 m_this_s)] := by
  refine mFi.of (by decide +kernel) (Nat.le_of_ble_eq_true rfl) ?_
  intro p e s m below meth c A C hr hlk h ls hl
  obtain ⟨hx, hb, hml, hown, hts⟩ := id C
  replace hl : lv_has ls 5 [(0, .ref h_this), (1, .int p0)] := hl
  unfold f_X9_when at hf
  refine with_K G A 5 (fun K hK1 hK2 => ?_)
  have B64 : ∀ (rec32 : Int32 → Int32 → (Nat → Int32) → (Nat → Int32) → (Nat → Int32) → Option (Int32 × (Nat → Int32) × (Nat → Int32) × (Nat → Int32))) (hrec32 : ∀ (v2 : Int32) (v3 : Int32) (g_this_laid : Nat → Int32) (g_this_pile : Nat → Int32) (g_this_s : Nat → Int32), rec32 v2 v3 g_this_laid g_this_pile g_this_s = some (r, m_this_laid, m_this_pile, m_this_s) → K 32 ([] : List Value) [(h_this, ob 9 [.ref h_this_s, .ref h_this_kept, .ref h_this_laid, .int x_this_isKept, .ref h_this_pile, .ref h_this_tape, .int x_this_taped, .ref h_this_letters, .int x_this_at, .int x_this_begun, .int x_this_token, .int x_this_value, .int x_this_opened, .int x_this_steps, .ref h_this_code0, .ref h_this_read, .ref h_this_saved, .ref h_this_plan, .ref h_this_bestPlan, .int x_this_most, .int x_this_many, .int x_this_few, .int x_this_everHome, .ref h_this_offThen, .ref h_this_paidThen, .int x_this_firstFit, .ref h_this_rows, .int x_this_rowMany, .ref h_this_sorts, .ref h_this_sizes, .ref h_this_number, .ref h_this_holds, .ref h_this_heldOne, .ref h_this_trace, .int x_this_traced, .int x_this_own, .int x_this_isParted]), (h_this_laid, ia G 65 g_this_laid), (h_this_pile, ia G 200 g_this_pile), (h_this_s, ia G 313 g_this_s)] [(0, .ref h_this), (1, .int p0), (2, .int v2), (3, .int v3)]) (v4 : Int32) (s0 : Int32) (g_this_laid : Nat → Int32) (g_this_pile : Nat → Int32) (g_this_s : Nat → Int32), f_X9_when_b64 rec32 v4 s0 g_this_laid g_this_pile g_this_s = some (r, m_this_laid, m_this_pile, m_this_s) → K 64 [.int s0] [(h_this, ob 9 [.ref h_this_s, .ref h_this_kept, .ref h_this_laid, .int x_this_isKept, .ref h_this_pile, .ref h_this_tape, .int x_this_taped, .ref h_this_letters, .int x_this_at, .int x_this_begun, .int x_this_token, .int x_this_value, .int x_this_opened, .int x_this_steps, .ref h_this_code0, .ref h_this_read, .ref h_this_saved, .ref h_this_plan, .ref h_this_bestPlan, .int x_this_most, .int x_this_many, .int x_this_few, .int x_this_everHome, .ref h_this_offThen, .ref h_this_paidThen, .int x_this_firstFit, .ref h_this_rows, .int x_this_rowMany, .ref h_this_sorts, .ref h_this_sizes, .ref h_this_number, .ref h_this_holds, .ref h_this_heldOne, .ref h_this_trace, .int x_this_traced, .int x_this_own, .int x_this_isParted]), (h_this_laid, ia G 65 g_this_laid), (h_this_pile, ia G 200 g_this_pile), (h_this_s, ia G 313 g_this_s)] [(0, .ref h_this), (1, .int p0), (4, .int v4)] := by
    intro rec32 hrec32 v4 s0 g_this_laid g_this_pile g_this_s hf
    unfold f_X9_when_b64 at hf
    refine hK1 _ _ _ _ (fun H locs ls h hl => ?_)
    refine lv_istore_n (lv' := [(3, .int s0), (0, .ref h_this), (1, .int p0), (4, .int v4)]) hx hb dX9_when_64 rfl hl (by decide) rfl (fun ls hl => ?_)
    refine lv_iload_n hx hb dX9_when_65 rfl (lv_at hl 0 rfl) ?_
    refine lv_if_ne (tgt := 74) hx hb dX9_when_66 rfl (fun c24 => ?_) (fun c24 => ?_)
    · replace hf := ifn c24 hf
      refine lv_bipush (v := (-3 : Int32)) hx hb dX9_when_74 rfl ?_
      refine lv_goto (tgt := 87) hx hb dX9_when_76 rfl ?_
      refine lv_istore_n (lv' := [(2, .int (-3 : Int32)), (3, .int s0), (0, .ref h_this), (1, .int p0), (4, .int v4)]) hx hb dX9_when_87 rfl hl (by decide) rfl (fun ls hl => ?_)
      refine lv_goto (tgt := 32) hx hb dX9_when_88 rfl ?_
      exact hK2 _ _ _ _ (hrec32 (-3 : Int32) s0 g_this_laid g_this_pile g_this_s hf) _ _ _ h (lv_sub hl [2, 3, 0, 1] rfl)
    · replace hf := ifp c24 hf
      refine lv_iload hx hb dX9_when_69 (lv_at hl 3 rfl) ?_
      refine lv_if_ge (tgt := 79) hx hb dX9_when_71 rfl (fun c25 => ?_) (fun c25 => ?_)
      · replace hf := ifp c25 hf
        refine lv_aload_n hx hb dX9_when_79 rfl (lv_at hl 1 rfl) ?_
        refine r_get C h fk_X9_9 0 rfl rfl dX9_when_80 ?_
        refine lv_iconst (v := (0 : Int32)) hx hb dX9_when_83 rfl ?_
        refine r_ialdL C h 3 rfl (vlit rfl) 0 rfl dX9_when_84 ?_
        refine lv_iconst (v := (1 : Int32)) hx hb dX9_when_85 rfl ?_
        refine lv_isub hx hb dX9_when_86 ?_
        refine lv_topi (fun t26 et26 => ?_)
        replace hf := lt1_inv et26 hf
        refine lv_istore_n (lv' := [(2, .int t26), (3, .int s0), (0, .ref h_this), (1, .int p0), (4, .int v4)]) hx hb dX9_when_87 rfl hl (by decide) rfl (fun ls hl => ?_)
        refine lv_goto (tgt := 32) hx hb dX9_when_88 rfl ?_
        exact hK2 _ _ _ _ (hrec32 t26 s0 g_this_laid g_this_pile g_this_s hf) _ _ _ h (lv_sub hl [2, 3, 0, 1] rfl)
      · replace hf := ifn c25 hf
        refine lv_bipush (v := (-3 : Int32)) hx hb dX9_when_74 rfl ?_
        refine lv_goto (tgt := 87) hx hb dX9_when_76 rfl ?_
        refine lv_istore_n (lv' := [(2, .int (-3 : Int32)), (3, .int s0), (0, .ref h_this), (1, .int p0), (4, .int v4)]) hx hb dX9_when_87 rfl hl (by decide) rfl (fun ls hl => ?_)
        refine lv_goto (tgt := 32) hx hb dX9_when_88 rfl ?_
        exact hK2 _ _ _ _ (hrec32 (-3 : Int32) s0 g_this_laid g_this_pile g_this_s hf) _ _ _ h (lv_sub hl [2, 3, 0, 1] rfl)
  have L32 : ∀ (n : Nat) (v2 : Int32) (v3 : Int32) (g_this_laid : Nat → Int32) (g_this_pile : Nat → Int32) (g_this_s : Nat → Int32), f_X9_when_L32 p0 n v2 v3 g_this_laid g_this_pile g_this_s = some (r, m_this_laid, m_this_pile, m_this_s) → K 32 ([] : List Value) [(h_this, ob 9 [.ref h_this_s, .ref h_this_kept, .ref h_this_laid, .int x_this_isKept, .ref h_this_pile, .ref h_this_tape, .int x_this_taped, .ref h_this_letters, .int x_this_at, .int x_this_begun, .int x_this_token, .int x_this_value, .int x_this_opened, .int x_this_steps, .ref h_this_code0, .ref h_this_read, .ref h_this_saved, .ref h_this_plan, .ref h_this_bestPlan, .int x_this_most, .int x_this_many, .int x_this_few, .int x_this_everHome, .ref h_this_offThen, .ref h_this_paidThen, .int x_this_firstFit, .ref h_this_rows, .int x_this_rowMany, .ref h_this_sorts, .ref h_this_sizes, .ref h_this_number, .ref h_this_holds, .ref h_this_heldOne, .ref h_this_trace, .int x_this_traced, .int x_this_own, .int x_this_isParted]), (h_this_laid, ia G 65 g_this_laid), (h_this_pile, ia G 200 g_this_pile), (h_this_s, ia G 313 g_this_s)] [(0, .ref h_this), (1, .int p0), (2, .int v2), (3, .int v3)] := by
    intro n
    induction n with
    | zero =>
      intro v2 v3 g_this_laid g_this_pile g_this_s hf
      replace hf : (none : Option _) = some _ := hf
      cases hf
    | succ n ih =>
      intro v2 v3 g_this_laid g_this_pile g_this_s hf
      rw [f_X9_when_L32] at hf
      refine hK1 _ _ _ _ (fun H locs ls h hl => ?_)
      refine lv_iload_n hx hb dX9_when_32 rfl (lv_at hl 3 rfl) ?_
      refine lv_if_eq (tgt := 91) hx hb dX9_when_33 rfl (fun c9 => ?_) (fun c9 => ?_)
      · replace hf := ifp c9 hf
        refine lv_aload_n hx hb dX9_when_91 rfl (lv_at hl 0 rfl) ?_
        replace hf := bd1_inv hf
        obtain ⟨g10, hc11, hf⟩ := hf
        refine r_cvV (ws' := [(h_this, ob 9 [.ref h_this_s, .ref h_this_kept, .ref h_this_laid, .int x_this_isKept, .ref h_this_pile, .ref h_this_tape, .int x_this_taped, .ref h_this_letters, .int x_this_at, .int x_this_begun, .int x_this_token, .int x_this_value, .int x_this_opened, .int x_this_steps, .ref h_this_code0, .ref h_this_read, .ref h_this_saved, .ref h_this_plan, .ref h_this_bestPlan, .int x_this_most, .int x_this_many, .int x_this_few, .int x_this_everHome, .ref h_this_offThen, .ref h_this_paidThen, .int x_this_firstFit, .ref h_this_rows, .int x_this_rowMany, .ref h_this_sorts, .ref h_this_sizes, .ref h_this_number, .ref h_this_holds, .ref h_this_heldOne, .ref h_this_trace, .int x_this_traced, .int x_this_own, .int x_this_isParted]), (h_this_laid, ia G 65 g_this_laid), (h_this_pile, ia G 200 g_this_pile), (h_this_s, ia G 313 g10)]) C h (c_X9_layBack hc11) mv_X9_247 rfl 0 rfl [0, 1, 3] rfl rfl [3] [(h_this_s, ia G 313 g10)] rfl rfl (by decide +kernel) rfl hl.1 rfl (Nat.le_of_ble_eq_true rfl) (rok (by decide)) dX9_when_92 (fun H locs h => ?_)
        refine lv_iload_n hx hb dX9_when_95 rfl (lv_at hl 2 rfl) ?_
        cases hf
        exact r_iret C h hr hlk rfl dX9_when_96
      · replace hf := ifn c9 hf
        refine lv_aload_n hx hb dX9_when_36 rfl (lv_at hl 0 rfl) ?_
        replace hf := bd1_inv hf
        obtain ⟨r12, hc13, hf⟩ := hf
        refine r_ciV0 C h (c_X9_isOver hc13) mv_X9_232 rfl 0 rfl [0, 3] rfl rfl hl.1 rfl (Nat.le_of_ble_eq_true rfl) (rok (by decide)) dX9_when_37 (fun H locs h => ?_)
        refine lv_if_ne (tgt := 91) hx hb dX9_when_40 rfl (fun c14 => ?_) (fun c14 => ?_)
        · replace hf := ifn c14 hf
          refine lv_aload_n hx hb dX9_when_91 rfl (lv_at hl 0 rfl) ?_
          replace hf := bd1_inv hf
          obtain ⟨g15, hc16, hf⟩ := hf
          refine r_cvV (ws' := [(h_this, ob 9 [.ref h_this_s, .ref h_this_kept, .ref h_this_laid, .int x_this_isKept, .ref h_this_pile, .ref h_this_tape, .int x_this_taped, .ref h_this_letters, .int x_this_at, .int x_this_begun, .int x_this_token, .int x_this_value, .int x_this_opened, .int x_this_steps, .ref h_this_code0, .ref h_this_read, .ref h_this_saved, .ref h_this_plan, .ref h_this_bestPlan, .int x_this_most, .int x_this_many, .int x_this_few, .int x_this_everHome, .ref h_this_offThen, .ref h_this_paidThen, .int x_this_firstFit, .ref h_this_rows, .int x_this_rowMany, .ref h_this_sorts, .ref h_this_sizes, .ref h_this_number, .ref h_this_holds, .ref h_this_heldOne, .ref h_this_trace, .int x_this_traced, .int x_this_own, .int x_this_isParted]), (h_this_laid, ia G 65 g_this_laid), (h_this_pile, ia G 200 g_this_pile), (h_this_s, ia G 313 g15)]) C h (c_X9_layBack hc16) mv_X9_247 rfl 0 rfl [0, 1, 3] rfl rfl [3] [(h_this_s, ia G 313 g15)] rfl rfl (by decide +kernel) rfl hl.1 rfl (Nat.le_of_ble_eq_true rfl) (rok (by decide)) dX9_when_92 (fun H locs h => ?_)
          refine lv_iload_n hx hb dX9_when_95 rfl (lv_at hl 2 rfl) ?_
          cases hf
          exact r_iret C h hr hlk rfl dX9_when_96
        · replace hf := ifp c14 hf
          refine lv_aload_n hx hb dX9_when_43 rfl (lv_at hl 0 rfl) ?_
          refine lv_iconst (v := (-1 : Int32)) hx hb dX9_when_44 rfl ?_
          replace hf := bd3_inv hf
          obtain ⟨r17, g18, g19, hc20, hf⟩ := hf
          refine r_ciV (ws' := [(h_this, ob 9 [.ref h_this_s, .ref h_this_kept, .ref h_this_laid, .int x_this_isKept, .ref h_this_pile, .ref h_this_tape, .int x_this_taped, .ref h_this_letters, .int x_this_at, .int x_this_begun, .int x_this_token, .int x_this_value, .int x_this_opened, .int x_this_steps, .ref h_this_code0, .ref h_this_read, .ref h_this_saved, .ref h_this_plan, .ref h_this_bestPlan, .int x_this_most, .int x_this_many, .int x_this_few, .int x_this_everHome, .ref h_this_offThen, .ref h_this_paidThen, .int x_this_firstFit, .ref h_this_rows, .int x_this_rowMany, .ref h_this_sorts, .ref h_this_sizes, .ref h_this_number, .ref h_this_holds, .ref h_this_heldOne, .ref h_this_trace, .int x_this_traced, .int x_this_own, .int x_this_isParted]), (h_this_laid, ia G 65 g_this_laid), (h_this_pile, ia G 200 g18), (h_this_s, ia G 313 g19)]) C h (c_X9_goesBy hc20) mv_X9_238 rfl 0 rfl [0, 2, 3] rfl rfl [2, 3] [(h_this_pile, ia G 200 g18), (h_this_s, ia G 313 g19)] rfl rfl (by decide +kernel) rfl hl.1 rfl (Nat.le_of_ble_eq_true rfl) (rok (by decide)) dX9_when_45 (fun H locs h => ?_)
          refine lv_istore (lv' := [(4, .int r17), (0, .ref h_this), (1, .int p0), (2, .int v2), (3, .int v3)]) hx hb dX9_when_48 hl (by decide) rfl (fun ls hl => ?_)
          refine lv_aload_n hx hb dX9_when_50 rfl (lv_at hl 1 rfl) ?_
          refine lv_iload_n hx hb dX9_when_51 rfl (lv_at hl 2 rfl) ?_
          refine lv_iconst (v := (4 : Int32)) hx hb dX9_when_52 rfl ?_
          replace hf := bd1_inv hf
          obtain ⟨r21, hc22, hf⟩ := hf
          refine r_ciV0 C h (c_X9_get hc22) mv_X9_79 rfl 0 rfl [0, 3] rfl rfl hl.1 rfl (Nat.le_of_ble_eq_true rfl) (rok (by decide)) dX9_when_53 (fun H locs h => ?_)
          refine lv_if_ne (tgt := 63) hx hb dX9_when_56 rfl (fun c23 => ?_) (fun c23 => ?_)
          · replace hf := ifn c23 hf
            refine lv_iconst (v := (0 : Int32)) hx hb dX9_when_63 rfl ?_
            exact hK2 _ _ _ _ (B64 _ ih r17 (0 : Int32) g_this_laid g18 g19 hf) _ _ _ h (lv_sub hl [1, 2, 0] rfl)
          · replace hf := ifp c23 hf
            refine lv_iconst (v := (1 : Int32)) hx hb dX9_when_59 rfl ?_
            refine lv_goto (tgt := 64) hx hb dX9_when_60 rfl ?_
            exact hK2 _ _ _ _ (B64 _ ih r17 (1 : Int32) g_this_laid g18 g19 hf) _ _ _ h (lv_sub hl [1, 2, 0] rfl)
  have B31 : ∀ (v2 : Int32) (s0 : Int32) (g_this_laid : Nat → Int32), f_X9_when_b31 p0 f_this_pile f_this_s v2 s0 g_this_laid = some (r, m_this_laid, m_this_pile, m_this_s) → K 31 [.int s0] [(h_this, ob 9 [.ref h_this_s, .ref h_this_kept, .ref h_this_laid, .int x_this_isKept, .ref h_this_pile, .ref h_this_tape, .int x_this_taped, .ref h_this_letters, .int x_this_at, .int x_this_begun, .int x_this_token, .int x_this_value, .int x_this_opened, .int x_this_steps, .ref h_this_code0, .ref h_this_read, .ref h_this_saved, .ref h_this_plan, .ref h_this_bestPlan, .int x_this_most, .int x_this_many, .int x_this_few, .int x_this_everHome, .ref h_this_offThen, .ref h_this_paidThen, .int x_this_firstFit, .ref h_this_rows, .int x_this_rowMany, .ref h_this_sorts, .ref h_this_sizes, .ref h_this_number, .ref h_this_holds, .ref h_this_heldOne, .ref h_this_trace, .int x_this_traced, .int x_this_own, .int x_this_isParted]), (h_this_laid, ia G 65 g_this_laid), (h_this_pile, ia G 200 f_this_pile), (h_this_s, ia G 313 f_this_s)] [(0, .ref h_this), (1, .int p0), (2, .int v2)] := by
    intro v2 s0 g_this_laid hf
    unfold f_X9_when_b31 at hf
    refine hK1 _ _ _ _ (fun H locs ls h hl => ?_)
    refine lv_istore_n (lv' := [(3, .int s0), (0, .ref h_this), (1, .int p0), (2, .int v2)]) hx hb dX9_when_31 rfl hl (by decide) rfl (fun ls hl => ?_)
    exact hK2 _ _ _ _ (L32 1000 v2 s0 g_this_laid f_this_pile f_this_s hf) _ _ _ h (lv_sub hl [1, 2, 3, 0] rfl)
  refine lv_aload_n hx hb dX9_when_0 rfl (lv_at hl 0 rfl) ?_
  refine lv_iload_n hx hb dX9_when_1 rfl (lv_at hl 1 rfl) ?_
  replace hf := bd1_inv hf
  obtain ⟨r1, hc2, hf⟩ := hf
  refine r_ciV0 C h (c_X9_isShip hc2) mv_X9_226 rfl 0 rfl [0, 3] rfl rfl hl.1 rfl (Nat.le_of_ble_eq_true rfl) (rok (by decide)) dX9_when_2 (fun H locs h => ?_)
  refine lv_if_ne (tgt := 10) hx hb dX9_when_5 rfl (fun c3 => ?_) (fun c3 => ?_)
  · replace hf := ifn c3 hf
    refine lv_aload_n hx hb dX9_when_10 rfl (lv_at hl 0 rfl) ?_
    replace hf := bd1_inv hf
    obtain ⟨g4, hc5, hf⟩ := hf
    refine r_cvV (ws' := [(h_this, ob 9 [.ref h_this_s, .ref h_this_kept, .ref h_this_laid, .int x_this_isKept, .ref h_this_pile, .ref h_this_tape, .int x_this_taped, .ref h_this_letters, .int x_this_at, .int x_this_begun, .int x_this_token, .int x_this_value, .int x_this_opened, .int x_this_steps, .ref h_this_code0, .ref h_this_read, .ref h_this_saved, .ref h_this_plan, .ref h_this_bestPlan, .int x_this_most, .int x_this_many, .int x_this_few, .int x_this_everHome, .ref h_this_offThen, .ref h_this_paidThen, .int x_this_firstFit, .ref h_this_rows, .int x_this_rowMany, .ref h_this_sorts, .ref h_this_sizes, .ref h_this_number, .ref h_this_holds, .ref h_this_heldOne, .ref h_this_trace, .int x_this_traced, .int x_this_own, .int x_this_isParted]), (h_this_laid, ia G 65 g4), (h_this_pile, ia G 200 f_this_pile), (h_this_s, ia G 313 f_this_s)]) C h (c_X9_layDown hc5) mv_X9_241 rfl 0 rfl [0, 1, 3] rfl rfl [1] [(h_this_laid, ia G 65 g4)] rfl rfl (by decide +kernel) rfl hl.1 rfl (Nat.le_of_ble_eq_true rfl) (rok (by decide)) dX9_when_11 (fun H locs h => ?_)
    refine lv_bipush (v := (-3 : Int32)) hx hb dX9_when_14 rfl ?_
    refine lv_istore_n (lv' := [(2, .int (-3 : Int32)), (0, .ref h_this), (1, .int p0)]) hx hb dX9_when_16 rfl hl (by decide) rfl (fun ls hl => ?_)
    refine lv_aload_n hx hb dX9_when_17 rfl (lv_at hl 1 rfl) ?_
    refine lv_iload_n hx hb dX9_when_18 rfl (lv_at hl 2 rfl) ?_
    refine lv_iconst (v := (4 : Int32)) hx hb dX9_when_19 rfl ?_
    replace hf := bd1_inv hf
    obtain ⟨r6, hc7, hf⟩ := hf
    refine r_ciV0 C h (c_X9_get hc7) mv_X9_79 rfl 0 rfl [0, 3] rfl rfl hl.1 rfl (Nat.le_of_ble_eq_true rfl) (rok (by decide)) dX9_when_20 (fun H locs h => ?_)
    refine lv_if_ne (tgt := 30) hx hb dX9_when_23 rfl (fun c8 => ?_) (fun c8 => ?_)
    · replace hf := ifn c8 hf
      refine lv_iconst (v := (0 : Int32)) hx hb dX9_when_30 rfl ?_
      exact hK2 _ _ _ _ (B31 (-3 : Int32) (0 : Int32) g4 hf) _ _ _ h (lv_sub hl [1, 2, 0] rfl)
    · replace hf := ifp c8 hf
      refine lv_iconst (v := (1 : Int32)) hx hb dX9_when_26 rfl ?_
      refine lv_goto (tgt := 31) hx hb dX9_when_27 rfl ?_
      exact hK2 _ _ _ _ (B31 (-3 : Int32) (1 : Int32) g4 hf) _ _ _ h (lv_sub hl [1, 2, 0] rfl)
  · replace hf := ifp c3 hf
    refine lv_iconst (v := (-1 : Int32)) hx hb dX9_when_8 rfl ?_
    clear B31 L32 B64 hK2 hK1
    cases hf
    exact r_iret C h hr hlk rfl dX9_when_9
