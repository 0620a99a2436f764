set_option maxRecDepth 100000 in
set_option maxHeartbeats 4000000 in
theorem c_X9_goAll {l : Launch} {G : Gt} {h_this h_this_s h_this_kept h_this_laid h_this_pile h_this_tape h_this_letters h_this_code0 h_this_read h_this_saved h_this_plan h_this_bestPlan h_this_offThen h_this_paidThen h_this_rows h_this_sorts h_this_sizes h_this_number h_this_holds h_this_heldOne h_this_trace : Nat} {p0 : Int32} {p1 : Int32} {p2 : Int32} {x_this_isKept : Int32} {x_this_taped : Int32} {x_this_at : Int32} {x_this_begun : Int32} {x_this_token : Int32} {x_this_value : Int32} {x_this_opened : Int32} {x_this_steps : Int32} {x_this_most : Int32} {x_this_many : Int32} {x_this_few : Int32} {x_this_everHome : Int32} {x_this_firstFit : Int32} {x_this_rowMany : Int32} {x_this_traced : Int32} {x_this_own : Int32} {x_this_isParted : Int32} {f_this_number : Nat → Int32} {f_this_pile : Nat → Int32} {f_this_s : Nat → Int32} {f_this_sizes : Nat → Int32} {f_this_sorts : Nat → Int32} {r : Int32} {m_this_pile : Nat → Int32} {m_this_s : Nat → Int32} (hf : f_X9_goAll p0 p1 p2 f_this_number f_this_pile f_this_s f_this_sizes f_this_sorts = some (r, m_this_pile, m_this_s)) : mFi l G yX9_goAll cX9_goAll 8 .int 7 [.ref h_this, .int p0, .int p1, .int p2] [(h_this, ob 9 [.ref h_this_s, .ref h_this_kept, .ref h_this_laid, .int x_this_isKept, .ref h_this_pile, .ref h_this_tape, .int x_this_taped, .ref h_this_letters, .int x_this_at, .int x_this_begun, .int x_this_token, .int x_this_value, .int x_this_opened, .int x_this_steps, .ref h_this_code0, .ref h_this_read, .ref h_this_saved, .ref h_this_plan, .ref h_this_bestPlan, .int x_this_most, .int x_this_many, .int x_this_few, .int x_this_everHome, .ref h_this_offThen, .ref h_this_paidThen, .int x_this_firstFit, .ref h_this_rows, .int x_this_rowMany, .ref h_this_sorts, .ref h_this_sizes, .ref h_this_number, .ref h_this_holds, .ref h_this_heldOne, .ref h_this_trace, .int x_this_traced, .int x_this_own, .int x_this_isParted]), (h_this_number, ia G 160 f_this_number), (h_this_pile, ia G 200 f_this_pile), (h_this_s, ia G 313 f_this_s), (h_this_sizes, ia G 4 f_this_sizes), (h_this_sorts, ia G 4 f_this_sorts)] r [(h_this, ob 9 [.ref h_this_s, .ref h_this_kept, .ref h_this_laid, .int x_this_isKept, .ref h_this_pile, .ref h_this_tape, .int x_this_taped, .ref h_this_letters, .int x_this_at, .int x_this_begun, .int x_this_token, .int x_this_value, .int x_this_opened, .int x_this_steps, .ref h_this_code0, .ref h_this_read, .ref h_this_saved, .ref h_this_plan, .ref h_this_bestPlan, .int x_this_most, .int x_this_many, .int x_this_few, .int x_this_everHome, .ref h_this_offThen, .ref h_this_paidThen, .int x_this_firstFit, .ref h_this_rows, .int x_this_rowMany, .ref h_this_sorts, .ref h_this_sizes, .ref h_this_number, .ref h_this_holds, .ref h_this_heldOne, .ref h_this_trace, .int x_this_traced, .int x_this_own, .int x_this_isParted]), (h_this_number, ia G 160 f_this_number), (h_this_pile, ia G 200 m_this_pile), (h_this_s, ia G 313 m_this_s), (h_this_sizes, ia G 4 f_this_sizes), (h_this_sorts, ia G 4 f_this_sorts)] := by
  refine mFi.of (by decide +kernel) (Nat.le_of_ble_eq_true rfl) ?_
  intro p e s m below meth c A C hr hlk h ls hl
  obtain ⟨hx, hb, hml, hown, hts⟩ := id C
  replace hl : lv_has ls 8 [(0, .ref h_this), (1, .int p0), (2, .int p1), (3, .int p2)] := hl
  unfold f_X9_goAll at hf
  refine with_K G A 8 (fun K hK1 hK2 => ?_)
  have L41 : ∀ (n : Nat) (v5 : Int32) (v6 : Int32) (g_this_pile : Nat → Int32) (g_this_s : Nat → Int32), f_X9_goAll_L41 p0 p1 p2 f_this_number f_this_sizes n v5 v6 g_this_pile g_this_s = some (r, m_this_pile, m_this_s) → K 41 ([] : List Value) [(h_this, ob 9 [.ref h_this_s, .ref h_this_kept, .ref h_this_laid, .int x_this_isKept, .ref h_this_pile, .ref h_this_tape, .int x_this_taped, .ref h_this_letters, .int x_this_at, .int x_this_begun, .int x_this_token, .int x_this_value, .int x_this_opened, .int x_this_steps, .ref h_this_code0, .ref h_this_read, .ref h_this_saved, .ref h_this_plan, .ref h_this_bestPlan, .int x_this_most, .int x_this_many, .int x_this_few, .int x_this_everHome, .ref h_this_offThen, .ref h_this_paidThen, .int x_this_firstFit, .ref h_this_rows, .int x_this_rowMany, .ref h_this_sorts, .ref h_this_sizes, .ref h_this_number, .ref h_this_holds, .ref h_this_heldOne, .ref h_this_trace, .int x_this_traced, .int x_this_own, .int x_this_isParted]), (h_this_number, ia G 160 f_this_number), (h_this_pile, ia G 200 g_this_pile), (h_this_s, ia G 313 g_this_s), (h_this_sizes, ia G 4 f_this_sizes), (h_this_sorts, ia G 4 f_this_sorts)] [(0, .ref h_this), (1, .int p0), (2, .int p1), (3, .int p2), (5, .int v5), (6, .int v6)] := by
    intro n
    induction n with
    | zero =>
      intro v5 v6 g_this_pile g_this_s hf
      replace hf : (none : Option _) = some _ := hf
      cases hf
    | succ n ih =>
      intro v5 v6 g_this_pile g_this_s hf
      rw [f_X9_goAll_L41] at hf
      refine hK1 _ _ _ _ (fun H locs ls h hl => ?_)
      refine lv_iload hx hb dX9_goAll_41 (lv_at hl 5 rfl) ?_
      refine lv_iload_n hx hb dX9_goAll_43 rfl (lv_at hl 3 rfl) ?_
      refine lv_icmp_ge (tgt := 114) hx hb dX9_goAll_44 rfl (fun c10 => ?_) (fun c10 => ?_)
      · replace hf := ifp c10 hf
        refine lv_iload hx hb dX9_goAll_114 (lv_at hl 4 rfl) ?_
        clear ih hK2 hK1
        cases hf
        exact r_iret C h hr hlk rfl dX9_goAll_116
      · replace hf := ifn c10 hf
        refine lv_aload_n hx hb dX9_goAll_47 rfl (lv_at hl 0 rfl) ?_
        refine lv_iload_n hx hb dX9_goAll_48 rfl (lv_at hl 1 rfl) ?_
        refine lv_iload_n hx hb dX9_goAll_49 rfl (lv_at hl 2 rfl) ?_
        refine lv_iload hx hb dX9_goAll_50 (lv_at hl 5 rfl) ?_
        replace hf := bd1_inv hf
        obtain ⟨r11, hc12, hf⟩ := hf
        refine r_ciV0 C h (c_X9_isItem hc12) mv_X9_338 rfl 0 rfl [0, 4] rfl rfl hl.1 rfl (Nat.le_of_ble_eq_true rfl) (rok (by decide)) dX9_goAll_52 (fun H locs h => ?_)
        refine lv_if_ne (tgt := 61) hx hb dX9_goAll_55 rfl (fun c13 => ?_) (fun c13 => ?_)
        · replace hf := ifn c13 hf
          refine lv_aload_n hx hb dX9_goAll_61 rfl (lv_at hl 0 rfl) ?_
          refine r_get C h fk_X9_59 0 rfl rfl dX9_goAll_62 ?_
          refine lv_bipush (v := (40 : Int32)) hx hb dX9_goAll_65 rfl ?_
          refine lv_iload_n hx hb dX9_goAll_67 rfl (lv_at hl 1 rfl) ?_
          refine lv_imul hx hb dX9_goAll_68 ?_
          refine lv_iload_n hx hb dX9_goAll_69 rfl (lv_at hl 2 rfl) ?_
          refine lv_iadd hx hb dX9_goAll_70 ?_
          refine lv_iload hx hb dX9_goAll_71 (lv_at hl 5 rfl) ?_
          refine lv_iadd hx hb dX9_goAll_73 ?_
          replace hf := chkI_inv hf
          obtain ⟨hi14, hf⟩ := hf
          refine r_iald C h 1 rfl hi14 dX9_goAll_74 ?_
          refine lv_topi (fun t15 et15 => ?_)
          replace hf := lt1_inv et15 hf
          refine lv_istore (lv' := [(7, .int t15), (0, .ref h_this), (1, .int p0), (2, .int p1), (3, .int p2), (5, .int v5), (6, .int v6)]) hx hb dX9_goAll_75 hl (by decide) rfl (fun ls hl => ?_)
          refine lv_iload hx hb dX9_goAll_77 (lv_at hl 5 rfl) ?_
          refine lv_aload_n hx hb dX9_goAll_79 rfl (lv_at hl 1 rfl) ?_
          refine lv_iload hx hb dX9_goAll_80 (lv_at hl 0 rfl) ?_
          replace hf := bd1_inv hf
          obtain ⟨r16, hc17, hf⟩ := hf
          refine r_ciV0 C h (c_X9_isAct hc17) mv_X9_326 rfl 0 rfl [0, 3] rfl rfl hl.1 rfl (Nat.le_of_ble_eq_true rfl) (rok (by decide)) dX9_goAll_82 (fun H locs h => ?_)
          refine lv_if_eq (tgt := 104) hx hb dX9_goAll_85 rfl (fun c18 => ?_) (fun c18 => ?_)
          · replace hf := ifp c18 hf
            refine lv_iconst (v := (0 : Int32)) hx hb dX9_goAll_104 rfl ?_
            refine lv_iadd hx hb dX9_goAll_105 ?_
            refine lv_topi (fun t19 et19 => ?_)
            replace hf := lt1_inv et19 hf
            refine lv_istore (lv' := [(5, .int t19), (7, .int t15), (0, .ref h_this), (1, .int p0), (2, .int p1), (3, .int p2), (6, .int v6)]) hx hb dX9_goAll_106 hl (by decide) rfl (fun ls hl => ?_)
            obtain ⟨t20, et20⟩ : ∃ y : Int32, y = v6 + (1 : Int32) := ⟨_, rfl⟩
            replace hf := lt1_inv et20 hf
            refine lv_iinc (v := t20) (lv' := [(6, .int t20), (5, .int t19), (7, .int t15), (0, .ref h_this), (1, .int p0), (2, .int p1), (3, .int p2)]) hx hb dX9_goAll_108 hl (k := 6) rfl (by rw [et20]; rfl) (by decide) rfl (fun ls hl => ?_)
            refine lv_goto (tgt := 41) hx hb dX9_goAll_111 rfl ?_
            exact hK2 _ _ _ _ (ih t19 t20 g_this_pile g_this_s hf) _ _ _ h (lv_sub hl [3, 4, 5, 6, 1, 0] rfl)
          · replace hf := ifn c18 hf
            refine lv_aload_n hx hb dX9_goAll_88 rfl (lv_at hl 1 rfl) ?_
            replace hf := bd1_inv hf
            obtain ⟨r21, hc22, hf⟩ := hf
            refine r_ciV0 C h (c_X9_isOver hc22) mv_X9_232 rfl 0 rfl [0, 3] rfl rfl hl.1 rfl (Nat.le_of_ble_eq_true rfl) (rok (by decide)) dX9_goAll_89 (fun H locs h => ?_)
            refine lv_if_ne (tgt := 104) hx hb dX9_goAll_92 rfl (fun c23 => ?_) (fun c23 => ?_)
            · replace hf := ifn c23 hf
              refine lv_iconst (v := (0 : Int32)) hx hb dX9_goAll_104 rfl ?_
              refine lv_iadd hx hb dX9_goAll_105 ?_
              refine lv_topi (fun t24 et24 => ?_)
              replace hf := lt1_inv et24 hf
              refine lv_istore (lv' := [(5, .int t24), (7, .int t15), (0, .ref h_this), (1, .int p0), (2, .int p1), (3, .int p2), (6, .int v6)]) hx hb dX9_goAll_106 hl (by decide) rfl (fun ls hl => ?_)
              obtain ⟨t25, et25⟩ : ∃ y : Int32, y = v6 + (1 : Int32) := ⟨_, rfl⟩
              replace hf := lt1_inv et25 hf
              refine lv_iinc (v := t25) (lv' := [(6, .int t25), (5, .int t24), (7, .int t15), (0, .ref h_this), (1, .int p0), (2, .int p1), (3, .int p2)]) hx hb dX9_goAll_108 hl (k := 6) rfl (by rw [et25]; rfl) (by decide) rfl (fun ls hl => ?_)
              refine lv_goto (tgt := 41) hx hb dX9_goAll_111 rfl ?_
              exact hK2 _ _ _ _ (ih t24 t25 g_this_pile g_this_s hf) _ _ _ h (lv_sub hl [3, 4, 5, 6, 1, 0] rfl)
            · replace hf := ifp c23 hf
              refine lv_aload_n hx hb dX9_goAll_95 rfl (lv_at hl 1 rfl) ?_
              refine lv_iload hx hb dX9_goAll_96 (lv_at hl 0 rfl) ?_
              replace hf := bd3_inv hf
              obtain ⟨r26, g27, g28, hc29, hf⟩ := hf
              refine r_ciV (ws' := [(h_this, ob 9 [.ref h_this_s, .ref h_this_kept, .ref h_this_laid, .int x_this_isKept, .ref h_this_pile, .ref h_this_tape, .int x_this_taped, .ref h_this_letters, .int x_this_at, .int x_this_begun, .int x_this_token, .int x_this_value, .int x_this_opened, .int x_this_steps, .ref h_this_code0, .ref h_this_read, .ref h_this_saved, .ref h_this_plan, .ref h_this_bestPlan, .int x_this_most, .int x_this_many, .int x_this_few, .int x_this_everHome, .ref h_this_offThen, .ref h_this_paidThen, .int x_this_firstFit, .ref h_this_rows, .int x_this_rowMany, .ref h_this_sorts, .ref h_this_sizes, .ref h_this_number, .ref h_this_holds, .ref h_this_heldOne, .ref h_this_trace, .int x_this_traced, .int x_this_own, .int x_this_isParted]), (h_this_number, ia G 160 f_this_number), (h_this_pile, ia G 200 g27), (h_this_s, ia G 313 g28), (h_this_sizes, ia G 4 f_this_sizes), (h_this_sorts, ia G 4 f_this_sorts)]) C h (c_X9_goesBy hc29) mv_X9_238 rfl 0 rfl [0, 2, 3] rfl rfl [2, 3] [(h_this_pile, ia G 200 g27), (h_this_s, ia G 313 g28)] rfl rfl (by decide +kernel) rfl hl.1 rfl (Nat.le_of_ble_eq_true rfl) (rok (by decide)) dX9_goAll_98 (fun H locs h => ?_)
              refine lv_goto (tgt := 105) hx hb dX9_goAll_101 rfl ?_
              refine lv_iadd hx hb dX9_goAll_105 ?_
              refine lv_topi (fun t30 et30 => ?_)
              replace hf := lt1_inv et30 hf
              refine lv_istore (lv' := [(5, .int t30), (7, .int t15), (0, .ref h_this), (1, .int p0), (2, .int p1), (3, .int p2), (6, .int v6)]) hx hb dX9_goAll_106 hl (by decide) rfl (fun ls hl => ?_)
              obtain ⟨t31, et31⟩ : ∃ y : Int32, y = v6 + (1 : Int32) := ⟨_, rfl⟩
              replace hf := lt1_inv et31 hf
              refine lv_iinc (v := t31) (lv' := [(6, .int t31), (5, .int t30), (7, .int t15), (0, .ref h_this), (1, .int p0), (2, .int p1), (3, .int p2)]) hx hb dX9_goAll_108 hl (k := 6) rfl (by rw [et31]; rfl) (by decide) rfl (fun ls hl => ?_)
              refine lv_goto (tgt := 41) hx hb dX9_goAll_111 rfl ?_
              exact hK2 _ _ _ _ (ih t30 t31 g27 g28 hf) _ _ _ h (lv_sub hl [3, 4, 5, 6, 1, 0] rfl)
        · replace hf := ifp c13 hf
          refine lv_bipush (v := (-12 : Int32)) hx hb dX9_goAll_58 rfl ?_
          clear ih hK2 hK1
          cases hf
          exact r_iret C h hr hlk rfl dX9_goAll_60
  refine lv_iload_n hx hb dX9_goAll_0 rfl (lv_at hl 1 rfl) ?_
  replace hf := bd1_inv hf
  obtain ⟨r1, hc2, hf⟩ := hf
  refine r_ciS0 C h (c_X9_isSheet hc2) ms_X9_329 rfl [] rfl rfl hl.1 rfl (Nat.le_of_ble_eq_true rfl) (rok (by decide)) dX9_goAll_1 (fun H locs h => ?_)
  refine lv_if_eq (tgt := 17) hx hb dX9_goAll_4 rfl (fun c3 => ?_) (fun c3 => ?_)
  · replace hf := ifp c3 hf
    refine lv_iconst (v := (-1 : Int32)) hx hb dX9_goAll_17 rfl ?_
    clear L41 hK2 hK1
    cases hf
    exact r_iret C h hr hlk rfl dX9_goAll_18
  · replace hf := ifn c3 hf
    refine lv_iload_n hx hb dX9_goAll_7 rfl (lv_at hl 3 rfl) ?_
    refine lv_iconst (v := (0 : Int32)) hx hb dX9_goAll_8 rfl ?_
    refine lv_bipush (v := (20 : Int32)) hx hb dX9_goAll_9 rfl ?_
    replace hf := bd1_inv hf
    obtain ⟨r4, hc5, hf⟩ := hf
    refine r_ciS0 C h (c_X9_in1 hc5) ms_X9_71 rfl [] rfl rfl hl.1 rfl (Nat.le_of_ble_eq_true rfl) (rok (by decide)) dX9_goAll_11 (fun H locs h => ?_)
    refine lv_if_ne (tgt := 19) hx hb dX9_goAll_14 rfl (fun c6 => ?_) (fun c6 => ?_)
    · replace hf := ifn c6 hf
      refine lv_aload_n hx hb dX9_goAll_19 rfl (lv_at hl 0 rfl) ?_
      refine lv_iload_n hx hb dX9_goAll_20 rfl (lv_at hl 1 rfl) ?_
      refine lv_iconst (v := (0 : Int32)) hx hb dX9_goAll_21 rfl ?_
      replace hf := bd1_inv hf
      obtain ⟨r7, hc8, hf⟩ := hf
      refine r_ciV0 C h (c_X9_lacks hc8) mv_X9_335 rfl 0 rfl [0, 5] rfl rfl hl.1 rfl (Nat.le_of_ble_eq_true rfl) (rok (by decide)) dX9_goAll_22 (fun H locs h => ?_)
      refine lv_istore (lv' := [(4, .int r7), (0, .ref h_this), (1, .int p0), (2, .int p1), (3, .int p2)]) hx hb dX9_goAll_25 hl (by decide) rfl (fun ls hl => ?_)
      refine lv_iload hx hb dX9_goAll_27 (lv_at hl 0 rfl) ?_
      refine lv_if_eq (tgt := 35) hx hb dX9_goAll_29 rfl (fun c9 => ?_) (fun c9 => ?_)
      · replace hf := ifp c9 hf
        refine lv_iconst (v := (0 : Int32)) hx hb dX9_goAll_35 rfl ?_
        refine lv_istore (lv' := [(5, .int (0 : Int32)), (4, .int r7), (0, .ref h_this), (1, .int p0), (2, .int p1), (3, .int p2)]) hx hb dX9_goAll_36 hl (by decide) rfl (fun ls hl => ?_)
        refine lv_iconst (v := (0 : Int32)) hx hb dX9_goAll_38 rfl ?_
        refine lv_istore (lv' := [(6, .int (0 : Int32)), (5, .int (0 : Int32)), (4, .int r7), (0, .ref h_this), (1, .int p0), (2, .int p1), (3, .int p2)]) hx hb dX9_goAll_39 hl (by decide) rfl (fun ls hl => ?_)
        exact hK2 _ _ _ _ (L41 1000 (0 : Int32) (0 : Int32) f_this_pile f_this_s hf) _ _ _ h (lv_sub hl [3, 4, 5, 6, 1, 0] rfl)
      · replace hf := ifn c9 hf
        refine lv_iload hx hb dX9_goAll_32 (lv_at hl 0 rfl) ?_
        clear L41 hK2 hK1
        cases hf
        exact r_iret C h hr hlk rfl dX9_goAll_34
    · replace hf := ifp c6 hf
      refine lv_iconst (v := (-1 : Int32)) hx hb dX9_goAll_17 rfl ?_
      clear L41 hK2 hK1
      cases hf
      exact r_iret C h hr hlk rfl dX9_goAll_18
