set_option maxRecDepth 100000 in
set_option maxHeartbeats 4000000 in
theorem c_X9_safe {l : Launch} {G : Gt} {h_this h_this_s h_this_kept h_this_laid h_this_pile h_this_tape h_this_letters h_this_code0 h_this_read h_this_saved h_this_plan h_this_bestPlan h_this_offThen h_this_paidThen h_this_rows h_this_sorts h_this_sizes h_this_number h_this_holds h_this_heldOne h_this_trace : Nat} {p0 : Int32} {x_this_isKept : Int32} {x_this_taped : Int32} {x_this_at : Int32} {x_this_begun : Int32} {x_this_token : Int32} {x_this_value : Int32} {x_this_opened : Int32} {x_this_steps : Int32} {x_this_most : Int32} {x_this_many : Int32} {x_this_few : Int32} {x_this_everHome : Int32} {x_this_firstFit : Int32} {x_this_rowMany : Int32} {x_this_traced : Int32} {x_this_own : Int32} {x_this_isParted : Int32} {f_this_laid : Nat → Int32} {f_this_pile : Nat → Int32} {f_this_s : Nat → Int32} {r : Int32} {m_this_laid : Nat → Int32} {m_this_pile : Nat → Int32} {m_this_s : Nat → Int32} (hf : f_X9_safe p0 f_this_laid f_this_pile f_this_s = some (r, m_this_laid, m_this_pile, m_this_s)) : mFi l G yX9_safe cX9_safe 5 .int 7 [.ref h_this, .int p0] [(h_this, ob 9 [.ref h_this_s, .ref h_this_kept, .ref h_this_laid, .int x_this_isKept, .ref h_this_pile, .ref h_this_tape, .int x_this_taped, .ref h_this_letters, .int x_this_at, .int x_this_begun, .int x_this_token, .int x_this_value, .int x_this_opened, .int x_this_steps, .ref h_this_code0, .ref h_this_read, .ref h_this_saved, .ref h_this_plan, .ref h_this_bestPlan, .int x_this_most, .int x_this_many, .int x_this_few, .int x_this_everHome, .ref h_this_offThen, .ref h_this_paidThen, .int x_this_firstFit, .ref h_this_rows, .int x_this_rowMany, .ref h_this_sorts, .ref h_this_sizes, .ref h_this_number, .ref h_this_holds, .ref h_this_heldOne, .ref h_this_trace, .int x_this_traced, .int x_this_own, .int x_this_isParted]), (h_this_laid, ia G 65 f_this_laid), (h_this_pile, ia G 200 f_this_pile), (h_this_s, ia G 313 f_this_s)] r [(h_this, ob 9 [.ref h_this_s, .ref h_this_kept, .ref h_this_laid, .int x_this_isKept, .ref h_this_pile, .ref h_this_tape, .int x_this_taped, .ref h_this_letters, .int x_this_at, .int x_this_begun, .int x_this_token, .int x_this_value, .int x_this_opened, .int x_this_steps, .ref h_this_code0, .ref h_this_read, .ref h_this_saved, .ref h_this_plan, .ref h_this_bestPlan, .int x_this_most, .int x_this_many, .int x_this_few, .int x_this_everHome, .ref h_this_offThen, .ref h_this_paidThen, .int x_this_firstFit, .ref h_this_rows, .int x_this_rowMany, .ref h_this_sorts, .ref h_this_sizes, .ref h_this_number, .ref h_this_holds, .ref h_this_heldOne, .ref h_this_trace, .int x_this_traced, .int x_this_own, .int x_this_isParted]), (h_this_laid, ia G 65 m_this_laid), (h_this_pile, ia G 200 m_this_pile), (h_this_s, ia G 313 m_this_s)] := by
  refine mFi.of (by decide +kernel) (Nat.le_of_ble_eq_true rfl) ?_
  intro p e s m below meth c A C hr hlk h ls hl
  obtain ⟨hx, hb, hml, hown, hts⟩ := id C
  replace hl : lv_has ls 5 [(0, .ref h_this), (1, .int p0)] := hl
  unfold f_X9_safe at hf
  refine with_K G A 5 (fun K hK1 hK2 => ?_)
  have L51 : ∀ (n : Nat) (v2 : Int32) (v3 : Int32) (v4 : Int32) (g_this_laid : Nat → Int32) (g_this_pile : Nat → Int32) (g_this_s : Nat → Int32), f_X9_safe_L51 n v2 v3 v4 g_this_laid g_this_pile g_this_s = some (r, m_this_laid, m_this_pile, m_this_s) → K 51 ([] : List Value) [(h_this, ob 9 [.ref h_this_s, .ref h_this_kept, .ref h_this_laid, .int x_this_isKept, .ref h_this_pile, .ref h_this_tape, .int x_this_taped, .ref h_this_letters, .int x_this_at, .int x_this_begun, .int x_this_token, .int x_this_value, .int x_this_opened, .int x_this_steps, .ref h_this_code0, .ref h_this_read, .ref h_this_saved, .ref h_this_plan, .ref h_this_bestPlan, .int x_this_most, .int x_this_many, .int x_this_few, .int x_this_everHome, .ref h_this_offThen, .ref h_this_paidThen, .int x_this_firstFit, .ref h_this_rows, .int x_this_rowMany, .ref h_this_sorts, .ref h_this_sizes, .ref h_this_number, .ref h_this_holds, .ref h_this_heldOne, .ref h_this_trace, .int x_this_traced, .int x_this_own, .int x_this_isParted]), (h_this_laid, ia G 65 g_this_laid), (h_this_pile, ia G 200 g_this_pile), (h_this_s, ia G 313 g_this_s)] [(0, .ref h_this), (2, .int v2), (3, .int v3), (4, .int v4)] := by
    intro n
    induction n with
    | zero =>
      intro v2 v3 v4 g_this_laid g_this_pile g_this_s hf
      replace hf : (none : Option _) = some _ := hf
      cases hf
    | succ n ih =>
      intro v2 v3 v4 g_this_laid g_this_pile g_this_s hf
      rw [f_X9_safe_L51] at hf
      refine hK1 _ _ _ _ (fun H locs ls h hl => ?_)
      refine lv_iload hx hb dX9_safe_51 (lv_at hl 3 rfl) ?_
      refine lv_aload_n hx hb dX9_safe_53 rfl (lv_at hl 0 rfl) ?_
      refine r_get C h fk_X9_9 0 rfl rfl dX9_safe_54 ?_
      refine lv_iconst (v := (4 : Int32)) hx hb dX9_safe_57 rfl ?_
      refine r_ialdL C h 3 rfl (vlit rfl) 4 rfl dX9_safe_58 ?_
      refine lv_icmp_ge (tgt := 92) hx hb dX9_safe_59 rfl (fun c7 => ?_) (fun c7 => ?_)
      · replace hf := ifp c7 hf
        refine lv_aload_n hx hb dX9_safe_92 rfl (lv_at hl 0 rfl) ?_
        replace hf := bd1_inv hf
        obtain ⟨g8, hc9, hf⟩ := hf
        refine r_cvV (ws' := [(h_this, ob 9 [.ref h_this_s, .ref h_this_kept, .ref h_this_laid, .int x_this_isKept, .ref h_this_pile, .ref h_this_tape, .int x_this_taped, .ref h_this_letters, .int x_this_at, .int x_this_begun, .int x_this_token, .int x_this_value, .int x_this_opened, .int x_this_steps, .ref h_this_code0, .ref h_this_read, .ref h_this_saved, .ref h_this_plan, .ref h_this_bestPlan, .int x_this_most, .int x_this_many, .int x_this_few, .int x_this_everHome, .ref h_this_offThen, .ref h_this_paidThen, .int x_this_firstFit, .ref h_this_rows, .int x_this_rowMany, .ref h_this_sorts, .ref h_this_sizes, .ref h_this_number, .ref h_this_holds, .ref h_this_heldOne, .ref h_this_trace, .int x_this_traced, .int x_this_own, .int x_this_isParted]), (h_this_laid, ia G 65 g_this_laid), (h_this_pile, ia G 200 g_this_pile), (h_this_s, ia G 313 g8)]) C h (c_X9_layBack hc9) mv_X9_247 rfl 0 rfl [0, 1, 3] rfl rfl [3] [(h_this_s, ia G 313 g8)] rfl rfl (by decide +kernel) rfl hl.1 rfl (Nat.le_of_ble_eq_true rfl) (rok (by decide)) dX9_safe_93 (fun H locs h => ?_)
        refine lv_iload_n hx hb dX9_safe_96 rfl (lv_at hl 2 rfl) ?_
        cases hf
        exact r_iret C h hr hlk rfl dX9_safe_97
      · replace hf := ifn c7 hf
        refine lv_iload_n hx hb dX9_safe_62 rfl (lv_at hl 1 rfl) ?_
        refine lv_if_lt (tgt := 92) hx hb dX9_safe_63 rfl (fun c10 => ?_) (fun c10 => ?_)
        · replace hf := ifp c10 hf
          refine lv_aload_n hx hb dX9_safe_92 rfl (lv_at hl 0 rfl) ?_
          replace hf := bd1_inv hf
          obtain ⟨g11, hc12, hf⟩ := hf
          refine r_cvV (ws' := [(h_this, ob 9 [.ref h_this_s, .ref h_this_kept, .ref h_this_laid, .int x_this_isKept, .ref h_this_pile, .ref h_this_tape, .int x_this_taped, .ref h_this_letters, .int x_this_at, .int x_this_begun, .int x_this_token, .int x_this_value, .int x_this_opened, .int x_this_steps, .ref h_this_code0, .ref h_this_read, .ref h_this_saved, .ref h_this_plan, .ref h_this_bestPlan, .int x_this_most, .int x_this_many, .int x_this_few, .int x_this_everHome, .ref h_this_offThen, .ref h_this_paidThen, .int x_this_firstFit, .ref h_this_rows, .int x_this_rowMany, .ref h_this_sorts, .ref h_this_sizes, .ref h_this_number, .ref h_this_holds, .ref h_this_heldOne, .ref h_this_trace, .int x_this_traced, .int x_this_own, .int x_this_isParted]), (h_this_laid, ia G 65 g_this_laid), (h_this_pile, ia G 200 g_this_pile), (h_this_s, ia G 313 g11)]) C h (c_X9_layBack hc12) mv_X9_247 rfl 0 rfl [0, 1, 3] rfl rfl [3] [(h_this_s, ia G 313 g11)] rfl rfl (by decide +kernel) rfl hl.1 rfl (Nat.le_of_ble_eq_true rfl) (rok (by decide)) dX9_safe_93 (fun H locs h => ?_)
          refine lv_iload_n hx hb dX9_safe_96 rfl (lv_at hl 2 rfl) ?_
          cases hf
          exact r_iret C h hr hlk rfl dX9_safe_97
        · replace hf := ifn c10 hf
          refine lv_iload_n hx hb dX9_safe_66 rfl (lv_at hl 2 rfl) ?_
          refine lv_aload_n hx hb dX9_safe_67 rfl (lv_at hl 0 rfl) ?_
          refine lv_iload hx hb dX9_safe_68 (lv_at hl 3 rfl) ?_
          replace hf := bd1_inv hf
          obtain ⟨r13, hc14, hf⟩ := hf
          refine r_ciV0 C h (c_X9_isOnRock hc14) mv_X9_108 rfl 0 rfl [0, 3] rfl rfl hl.1 rfl (Nat.le_of_ble_eq_true rfl) (rok (by decide)) dX9_safe_70 (fun H locs h => ?_)
          refine lv_if_eq (tgt := 80) hx hb dX9_safe_73 rfl (fun c15 => ?_) (fun c15 => ?_)
          · replace hf := ifp c15 hf
            refine lv_iconst (v := (1 : Int32)) hx hb dX9_safe_80 rfl ?_
            refine lv_iload hx hb dX9_safe_81 (lv_at hl 3 rfl) ?_
            refine lv_ishl hx hb dX9_safe_83 ?_
            refine lv_ior hx hb dX9_safe_84 ?_
            refine lv_topi (fun t16 et16 => ?_)
            replace hf := lt1_inv et16 hf
            refine lv_istore_n (lv' := [(3, .int t16), (0, .ref h_this), (2, .int v2), (4, .int v4)]) hx hb dX9_safe_85 rfl hl (by decide) rfl (fun ls hl => ?_)
            obtain ⟨t17, et17⟩ : ∃ y : Int32, y = v4 + (1 : Int32) := ⟨_, rfl⟩
            replace hf := lt1_inv et17 hf
            refine lv_iinc (v := t17) (lv' := [(4, .int t17), (3, .int t16), (0, .ref h_this), (2, .int v2)]) hx hb dX9_safe_86 hl (k := 3) rfl (by rw [et17]; rfl) (by decide) rfl (fun ls hl => ?_)
            refine lv_goto (tgt := 51) hx hb dX9_safe_89 rfl ?_
            exact hK2 _ _ _ _ (ih v2 t16 t17 g_this_laid g_this_pile g_this_s hf) _ _ _ h (lv_sub hl [2, 3, 1, 0] rfl)
          · replace hf := ifn c15 hf
            refine lv_iconst (v := (0 : Int32)) hx hb dX9_safe_76 rfl ?_
            refine lv_goto (tgt := 84) hx hb dX9_safe_77 rfl ?_
            refine lv_ior hx hb dX9_safe_84 ?_
            refine lv_topi (fun t18 et18 => ?_)
            replace hf := lt1_inv et18 hf
            refine lv_istore_n (lv' := [(3, .int t18), (0, .ref h_this), (2, .int v2), (4, .int v4)]) hx hb dX9_safe_85 rfl hl (by decide) rfl (fun ls hl => ?_)
            obtain ⟨t19, et19⟩ : ∃ y : Int32, y = v4 + (1 : Int32) := ⟨_, rfl⟩
            replace hf := lt1_inv et19 hf
            refine lv_iinc (v := t19) (lv' := [(4, .int t19), (3, .int t18), (0, .ref h_this), (2, .int v2)]) hx hb dX9_safe_86 hl (k := 3) rfl (by rw [et19]; rfl) (by decide) rfl (fun ls hl => ?_)
            refine lv_goto (tgt := 51) hx hb dX9_safe_89 rfl ?_
            exact hK2 _ _ _ _ (ih v2 t18 t19 g_this_laid g_this_pile g_this_s hf) _ _ _ h (lv_sub hl [2, 3, 1, 0] rfl)
  have B46 : ∀ (v2 : Int32) (g_this_laid : Nat → Int32) (g_this_pile : Nat → Int32) (g_this_s : Nat → Int32), f_X9_safe_b46 v2 g_this_laid g_this_pile g_this_s = some (r, m_this_laid, m_this_pile, m_this_s) → K 46 ([] : List Value) [(h_this, ob 9 [.ref h_this_s, .ref h_this_kept, .ref h_this_laid, .int x_this_isKept, .ref h_this_pile, .ref h_this_tape, .int x_this_taped, .ref h_this_letters, .int x_this_at, .int x_this_begun, .int x_this_token, .int x_this_value, .int x_this_opened, .int x_this_steps, .ref h_this_code0, .ref h_this_read, .ref h_this_saved, .ref h_this_plan, .ref h_this_bestPlan, .int x_this_most, .int x_this_many, .int x_this_few, .int x_this_everHome, .ref h_this_offThen, .ref h_this_paidThen, .int x_this_firstFit, .ref h_this_rows, .int x_this_rowMany, .ref h_this_sorts, .ref h_this_sizes, .ref h_this_number, .ref h_this_holds, .ref h_this_heldOne, .ref h_this_trace, .int x_this_traced, .int x_this_own, .int x_this_isParted]), (h_this_laid, ia G 65 g_this_laid), (h_this_pile, ia G 200 g_this_pile), (h_this_s, ia G 313 g_this_s)] [(0, .ref h_this), (2, .int v2)] := by
    intro v2 g_this_laid g_this_pile g_this_s hf
    unfold f_X9_safe_b46 at hf
    refine hK1 _ _ _ _ (fun H locs ls h hl => ?_)
    refine lv_iconst (v := (0 : Int32)) hx hb dX9_safe_46 rfl ?_
    refine lv_istore_n (lv' := [(3, .int (0 : Int32)), (0, .ref h_this), (2, .int v2)]) hx hb dX9_safe_47 rfl hl (by decide) rfl (fun ls hl => ?_)
    refine lv_iconst (v := (0 : Int32)) hx hb dX9_safe_48 rfl ?_
    refine lv_istore (lv' := [(4, .int (0 : Int32)), (3, .int (0 : Int32)), (0, .ref h_this), (2, .int v2)]) hx hb dX9_safe_49 hl (by decide) rfl (fun ls hl => ?_)
    exact hK2 _ _ _ _ (L51 1000 v2 (0 : Int32) (0 : Int32) g_this_laid g_this_pile g_this_s hf) _ _ _ h (lv_sub hl [2, 3, 1, 0] rfl)
  have L20 : ∀ (n : Nat) (v2 : Int32) (v3 : Int32) (g_this_laid : Nat → Int32) (g_this_pile : Nat → Int32) (g_this_s : Nat → Int32), f_X9_safe_L20 p0 n v2 v3 g_this_laid g_this_pile g_this_s = some (r, m_this_laid, m_this_pile, m_this_s) → K 20 ([] : List Value) [(h_this, ob 9 [.ref h_this_s, .ref h_this_kept, .ref h_this_laid, .int x_this_isKept, .ref h_this_pile, .ref h_this_tape, .int x_this_taped, .ref h_this_letters, .int x_this_at, .int x_this_begun, .int x_this_token, .int x_this_value, .int x_this_opened, .int x_this_steps, .ref h_this_code0, .ref h_this_read, .ref h_this_saved, .ref h_this_plan, .ref h_this_bestPlan, .int x_this_most, .int x_this_many, .int x_this_few, .int x_this_everHome, .ref h_this_offThen, .ref h_this_paidThen, .int x_this_firstFit, .ref h_this_rows, .int x_this_rowMany, .ref h_this_sorts, .ref h_this_sizes, .ref h_this_number, .ref h_this_holds, .ref h_this_heldOne, .ref h_this_trace, .int x_this_traced, .int x_this_own, .int x_this_isParted]), (h_this_laid, ia G 65 g_this_laid), (h_this_pile, ia G 200 g_this_pile), (h_this_s, ia G 313 g_this_s)] [(0, .ref h_this), (1, .int p0), (2, .int v2), (3, .int v3)] := by
    intro n
    induction n with
    | zero =>
      intro v2 v3 g_this_laid g_this_pile g_this_s hf
      replace hf : (none : Option _) = some _ := hf
      cases hf
    | succ n ih =>
      intro v2 v3 g_this_laid g_this_pile g_this_s hf
      rw [f_X9_safe_L20] at hf
      refine hK1 _ _ _ _ (fun H locs ls h hl => ?_)
      refine lv_iload_n hx hb dX9_safe_20 rfl (lv_at hl 3 rfl) ?_
      refine lv_iload_n hx hb dX9_safe_21 rfl (lv_at hl 1 rfl) ?_
      refine lv_icmp_ge (tgt := 46) hx hb dX9_safe_22 rfl (fun c6 => ?_) (fun c6 => ?_)
      · replace hf := ifp c6 hf
        exact hK2 _ _ _ _ (B46 v2 g_this_laid g_this_pile g_this_s hf) _ _ _ h (lv_sub hl [0, 2] rfl)
      · replace hf := ifn c6 hf
        refine lv_aload_n hx hb dX9_safe_25 rfl (lv_at hl 0 rfl) ?_
        replace hf := bd1_inv hf
        obtain ⟨r20, hc21, hf⟩ := hf
        refine r_ciV0 C h (c_X9_isOver hc21) mv_X9_232 rfl 0 rfl [0, 3] rfl rfl hl.1 rfl (Nat.le_of_ble_eq_true rfl) (rok (by decide)) dX9_safe_26 (fun H locs h => ?_)
        refine lv_if_ne (tgt := 46) hx hb dX9_safe_29 rfl (fun c22 => ?_) (fun c22 => ?_)
        · replace hf := ifn c22 hf
          exact hK2 _ _ _ _ (B46 v2 g_this_laid g_this_pile g_this_s hf) _ _ _ h (lv_sub hl [0, 2] rfl)
        · replace hf := ifp c22 hf
          refine lv_iload_n hx hb dX9_safe_32 rfl (lv_at hl 2 rfl) ?_
          refine lv_aload_n hx hb dX9_safe_33 rfl (lv_at hl 0 rfl) ?_
          refine lv_iconst (v := (-1 : Int32)) hx hb dX9_safe_34 rfl ?_
          replace hf := bd3_inv hf
          obtain ⟨r23, g24, g25, hc26, hf⟩ := hf
          refine r_ciV (ws' := [(h_this, ob 9 [.ref h_this_s, .ref h_this_kept, .ref h_this_laid, .int x_this_isKept, .ref h_this_pile, .ref h_this_tape, .int x_this_taped, .ref h_this_letters, .int x_this_at, .int x_this_begun, .int x_this_token, .int x_this_value, .int x_this_opened, .int x_this_steps, .ref h_this_code0, .ref h_this_read, .ref h_this_saved, .ref h_this_plan, .ref h_this_bestPlan, .int x_this_most, .int x_this_many, .int x_this_few, .int x_this_everHome, .ref h_this_offThen, .ref h_this_paidThen, .int x_this_firstFit, .ref h_this_rows, .int x_this_rowMany, .ref h_this_sorts, .ref h_this_sizes, .ref h_this_number, .ref h_this_holds, .ref h_this_heldOne, .ref h_this_trace, .int x_this_traced, .int x_this_own, .int x_this_isParted]), (h_this_laid, ia G 65 g_this_laid), (h_this_pile, ia G 200 g24), (h_this_s, ia G 313 g25)]) C h (c_X9_goesBy hc26) mv_X9_238 rfl 0 rfl [0, 2, 3] rfl rfl [2, 3] [(h_this_pile, ia G 200 g24), (h_this_s, ia G 313 g25)] rfl rfl (by decide +kernel) rfl hl.1 rfl (Nat.le_of_ble_eq_true rfl) (rok (by decide)) dX9_safe_35 (fun H locs h => ?_)
          refine lv_iadd hx hb dX9_safe_38 ?_
          refine lv_topi (fun t27 et27 => ?_)
          replace hf := lt1_inv et27 hf
          refine lv_istore_n (lv' := [(2, .int t27), (0, .ref h_this), (1, .int p0), (3, .int v3)]) hx hb dX9_safe_39 rfl hl (by decide) rfl (fun ls hl => ?_)
          obtain ⟨t28, et28⟩ : ∃ y : Int32, y = v3 + (1 : Int32) := ⟨_, rfl⟩
          replace hf := lt1_inv et28 hf
          refine lv_iinc (v := t28) (lv' := [(3, .int t28), (2, .int t27), (0, .ref h_this), (1, .int p0)]) hx hb dX9_safe_40 hl (k := 3) rfl (by rw [et28]; rfl) (by decide) rfl (fun ls hl => ?_)
          refine lv_goto (tgt := 20) hx hb dX9_safe_43 rfl ?_
          exact hK2 _ _ _ _ (ih t27 t28 g_this_laid g24 g25 hf) _ _ _ h (lv_sub hl [2, 3, 1, 0] rfl)
  refine lv_iload_n hx hb dX9_safe_0 rfl (lv_at hl 1 rfl) ?_
  refine lv_iconst (v := (0 : Int32)) hx hb dX9_safe_1 rfl ?_
  refine lv_bipush (v := (16 : Int32)) hx hb dX9_safe_2 rfl ?_
  replace hf := bd1_inv hf
  obtain ⟨r1, hc2, hf⟩ := hf
  refine r_ciS0 C h (c_X9_in1 hc2) ms_X9_71 rfl [] rfl rfl hl.1 rfl (Nat.le_of_ble_eq_true rfl) (rok (by decide)) dX9_safe_4 (fun H locs h => ?_)
  refine lv_if_ne (tgt := 12) hx hb dX9_safe_7 rfl (fun c3 => ?_) (fun c3 => ?_)
  · replace hf := ifn c3 hf
    refine lv_aload_n hx hb dX9_safe_12 rfl (lv_at hl 0 rfl) ?_
    replace hf := bd1_inv hf
    obtain ⟨g4, hc5, hf⟩ := hf
    refine r_cvV (ws' := [(h_this, ob 9 [.ref h_this_s, .ref h_this_kept, .ref h_this_laid, .int x_this_isKept, .ref h_this_pile, .ref h_this_tape, .int x_this_taped, .ref h_this_letters, .int x_this_at, .int x_this_begun, .int x_this_token, .int x_this_value, .int x_this_opened, .int x_this_steps, .ref h_this_code0, .ref h_this_read, .ref h_this_saved, .ref h_this_plan, .ref h_this_bestPlan, .int x_this_most, .int x_this_many, .int x_this_few, .int x_this_everHome, .ref h_this_offThen, .ref h_this_paidThen, .int x_this_firstFit, .ref h_this_rows, .int x_this_rowMany, .ref h_this_sorts, .ref h_this_sizes, .ref h_this_number, .ref h_this_holds, .ref h_this_heldOne, .ref h_this_trace, .int x_this_traced, .int x_this_own, .int x_this_isParted]), (h_this_laid, ia G 65 g4), (h_this_pile, ia G 200 f_this_pile), (h_this_s, ia G 313 f_this_s)]) C h (c_X9_layDown hc5) mv_X9_241 rfl 0 rfl [0, 1, 3] rfl rfl [1] [(h_this_laid, ia G 65 g4)] rfl rfl (by decide +kernel) rfl hl.1 rfl (Nat.le_of_ble_eq_true rfl) (rok (by decide)) dX9_safe_13 (fun H locs h => ?_)
    refine lv_iconst (v := (0 : Int32)) hx hb dX9_safe_16 rfl ?_
    refine lv_istore_n (lv' := [(2, .int (0 : Int32)), (0, .ref h_this), (1, .int p0)]) hx hb dX9_safe_17 rfl hl (by decide) rfl (fun ls hl => ?_)
    refine lv_iconst (v := (0 : Int32)) hx hb dX9_safe_18 rfl ?_
    refine lv_istore_n (lv' := [(3, .int (0 : Int32)), (2, .int (0 : Int32)), (0, .ref h_this), (1, .int p0)]) hx hb dX9_safe_19 rfl hl (by decide) rfl (fun ls hl => ?_)
    exact hK2 _ _ _ _ (L20 1000 (0 : Int32) (0 : Int32) g4 f_this_pile f_this_s hf) _ _ _ h (lv_sub hl [2, 3, 1, 0] rfl)
  · replace hf := ifp c3 hf
    refine lv_iconst (v := (-1 : Int32)) hx hb dX9_safe_10 rfl ?_
    clear L20 B46 L51 hK2 hK1
    cases hf
    exact r_iret C h hr hlk rfl dX9_safe_11
