def f_X9_state (p0 : Int32) (f_this_s : Nat → Int32) : Option (Int32) := (if p0 = (0 : Int32) then some (f_this_s 0) else (if p0 = (1 : Int32) then some (f_this_s 1) else (if p0 = (2 : Int32) then some (f_this_s 2) else (if p0 = (3 : Int32) then bd1 (f_X9_isOver f_this_s) (fun r8 => (if r8 = 0 then some (0 : Int32) else some (1 : Int32))) else (if p0 = (4 : Int32) then bd1 (f_X9_those (4 : Int32) f_this_s) (fun r11 => some r11) else (if p0 = (5 : Int32) then bd1 (f_X9_lightNow f_this_s) (fun r13 => some r13) else (if p0 = (6 : Int32) then bd1 (f_X9_onRock f_this_s) (fun r15 => some r15) else some (-1 : Int32))))))))
set_option maxRecDepth 100000 in
set_option maxHeartbeats 4000000 in
theorem c_X9_state {l : Launch} {G : Gt} {h_this h_this_s h_this_kept h_this_laid h_this_pile h_this_tape h_this_letters h_this_code0 h_this_read h_this_saved h_this_plan h_this_bestPlan h_this_offThen h_this_paidThen h_this_rows h_this_sorts h_this_sizes h_this_number h_this_holds h_this_heldOne h_this_trace : Nat} {p0 : Int32} {x_this_isKept : Int32} {x_this_taped : Int32} {x_this_at : Int32} {x_this_begun : Int32} {x_this_token : Int32} {x_this_value : Int32} {x_this_opened : Int32} {x_this_steps : Int32} {x_this_most : Int32} {x_this_many : Int32} {x_this_few : Int32} {x_this_everHome : Int32} {x_this_firstFit : Int32} {x_this_rowMany : Int32} {x_this_traced : Int32} {x_this_own : Int32} {x_this_isParted : Int32} {f_this_s : Nat → Int32} {r : Int32} (hf : f_X9_state p0 f_this_s = some r) : mFi l G yX9_state cX9_state 2 .int 3 [.ref h_this, .int p0] [(h_this, ob 9 [.ref h_this_s, .ref h_this_kept, .ref h_this_laid, .int x_this_isKept, .ref h_this_pile, .ref h_this_tape, .int x_this_taped, .ref h_this_letters, .int x_this_at, .int x_this_begun, .int x_this_token, .int x_this_value, .int x_this_opened, .int x_this_steps, .ref h_this_code0, .ref h_this_read, .ref h_this_saved, .ref h_this_plan, .ref h_this_bestPlan, .int x_this_most, .int x_this_many, .int x_this_few, .int x_this_everHome, .ref h_this_offThen, .ref h_this_paidThen, .int x_this_firstFit, .ref h_this_rows, .int x_this_rowMany, .ref h_this_sorts, .ref h_this_sizes, .ref h_this_number, .ref h_this_holds, .ref h_this_heldOne, .ref h_this_trace, .int x_this_traced, .int x_this_own, .int x_this_isParted]), (h_this_s, ia G 313 f_this_s)] r [(h_this, ob 9 [.ref h_this_s, .ref h_this_kept, .ref h_this_laid, .int x_this_isKept, .ref h_this_pile, .ref h_this_tape, .int x_this_taped, .ref h_this_letters, .int x_this_at, .int x_this_begun, .int x_this_token, .int x_this_value, .int x_this_opened, .int x_this_steps, .ref h_this_code0, .ref h_this_read, .ref h_this_saved, .ref h_this_plan, .ref h_this_bestPlan, .int x_this_most, .int x_this_many, .int x_this_few, .int x_this_everHome, .ref h_this_offThen, .ref h_this_paidThen, .int x_this_firstFit, .ref h_this_rows, .int x_this_rowMany, .ref h_this_sorts, .ref h_this_sizes, .ref h_this_number, .ref h_this_holds, .ref h_this_heldOne, .ref h_this_trace, .int x_this_traced, .int x_this_own, .int x_this_isParted]), (h_this_s, ia G 313 f_this_s)] := by
  refine mFi.of (by decide +kernel) (Nat.le_of_ble_eq_true rfl) ?_
  intro p e s m below meth c A C hr hlk h ls hl
  obtain ⟨hx, hb, hml, hown, hts⟩ := id C
  replace hl : lv_has ls 2 [(0, .ref h_this), (1, .int p0)] := hl
  unfold f_X9_state at hf
  refine lv_iload_n hx hb dX9_state_0 rfl (lv_at hl 1 rfl) ?_
  by_cases c1 : p0 = (0 : Int32)
  · replace hf := ifp c1 hf
    refine r_tab (tgt := 44) C dX9_state_1 (0 : Int32) c1 (by decide) rfl rfl ?_
    refine lv_aload_n hx hb dX9_state_44 rfl (lv_at hl 0 rfl) ?_
    refine r_get C h fk_X9_9 0 rfl rfl dX9_state_45 ?_
    refine lv_iconst (v := (0 : Int32)) hx hb dX9_state_48 rfl ?_
    refine r_ialdL C h 1 rfl (vlit rfl) 0 rfl dX9_state_49 ?_
    cases hf
    exact r_iret C h hr hlk rfl dX9_state_50
  · replace hf := ifn c1 hf
    by_cases c2 : p0 = (1 : Int32)
    · replace hf := ifp c2 hf
      refine r_tab (tgt := 51) C dX9_state_1 (1 : Int32) c2 (by decide) rfl rfl ?_
      refine lv_aload_n hx hb dX9_state_51 rfl (lv_at hl 0 rfl) ?_
      refine r_get C h fk_X9_9 0 rfl rfl dX9_state_52 ?_
      refine lv_iconst (v := (1 : Int32)) hx hb dX9_state_55 rfl ?_
      refine r_ialdL C h 1 rfl (vlit rfl) 1 rfl dX9_state_56 ?_
      cases hf
      exact r_iret C h hr hlk rfl dX9_state_57
    · replace hf := ifn c2 hf
      by_cases c3 : p0 = (2 : Int32)
      · replace hf := ifp c3 hf
        refine r_tab (tgt := 58) C dX9_state_1 (2 : Int32) c3 (by decide) rfl rfl ?_
        refine lv_aload_n hx hb dX9_state_58 rfl (lv_at hl 0 rfl) ?_
        refine r_get C h fk_X9_9 0 rfl rfl dX9_state_59 ?_
        refine lv_iconst (v := (2 : Int32)) hx hb dX9_state_62 rfl ?_
        refine r_ialdL C h 1 rfl (vlit rfl) 2 rfl dX9_state_63 ?_
        cases hf
        exact r_iret C h hr hlk rfl dX9_state_64
      · replace hf := ifn c3 hf
        by_cases c4 : p0 = (3 : Int32)
        · replace hf := ifp c4 hf
          refine r_tab (tgt := 65) C dX9_state_1 (3 : Int32) c4 (by decide) rfl rfl ?_
          refine lv_aload_n hx hb dX9_state_65 rfl (lv_at hl 0 rfl) ?_
          replace hf := bd1_inv hf
          obtain ⟨r8, hc9, hf⟩ := hf
          refine r_ciV0 C h (c_X9_isOver hc9) mv_X9_232 rfl 0 rfl [0, 1] rfl rfl hl.1 rfl (Nat.le_of_ble_eq_true rfl) (rok (by decide)) dX9_state_66 (fun H locs h => ?_)
          refine lv_if_eq (tgt := 76) hx hb dX9_state_69 rfl (fun c10 => ?_) (fun c10 => ?_)
          · replace hf := ifp c10 hf
            refine lv_iconst (v := (0 : Int32)) hx hb dX9_state_76 rfl ?_
            cases hf
            exact r_iret C h hr hlk rfl dX9_state_77
          · replace hf := ifn c10 hf
            refine lv_iconst (v := (1 : Int32)) hx hb dX9_state_72 rfl ?_
            refine lv_goto (tgt := 77) hx hb dX9_state_73 rfl ?_
            cases hf
            exact r_iret C h hr hlk rfl dX9_state_77
        · replace hf := ifn c4 hf
          by_cases c5 : p0 = (4 : Int32)
          · replace hf := ifp c5 hf
            refine r_tab (tgt := 78) C dX9_state_1 (4 : Int32) c5 (by decide) rfl rfl ?_
            refine lv_aload_n hx hb dX9_state_78 rfl (lv_at hl 0 rfl) ?_
            refine lv_iconst (v := (4 : Int32)) hx hb dX9_state_79 rfl ?_
            replace hf := bd1_inv hf
            obtain ⟨r11, hc12, hf⟩ := hf
            refine r_ciV0 C h (c_X9_those hc12) mv_X9_235 rfl 0 rfl [0, 1] rfl rfl hl.1 rfl (Nat.le_of_ble_eq_true rfl) (rok (by decide)) dX9_state_80 (fun H locs h => ?_)
            cases hf
            exact r_iret C h hr hlk rfl dX9_state_83
          · replace hf := ifn c5 hf
            by_cases c6 : p0 = (5 : Int32)
            · replace hf := ifp c6 hf
              refine r_tab (tgt := 84) C dX9_state_1 (5 : Int32) c6 (by decide) rfl rfl ?_
              refine lv_aload_n hx hb dX9_state_84 rfl (lv_at hl 0 rfl) ?_
              replace hf := bd1_inv hf
              obtain ⟨r13, hc14, hf⟩ := hf
              refine r_ciV0 C h (c_X9_lightNow hc14) mv_X9_83 rfl 0 rfl [0, 1] rfl rfl hl.1 rfl (Nat.le_of_ble_eq_true rfl) (rok (by decide)) dX9_state_85 (fun H locs h => ?_)
              cases hf
              exact r_iret C h hr hlk rfl dX9_state_88
            · replace hf := ifn c6 hf
              by_cases c7 : p0 = (6 : Int32)
              · replace hf := ifp c7 hf
                refine r_tab (tgt := 89) C dX9_state_1 (6 : Int32) c7 (by decide) rfl rfl ?_
                refine lv_aload_n hx hb dX9_state_89 rfl (lv_at hl 0 rfl) ?_
                replace hf := bd1_inv hf
                obtain ⟨r15, hc16, hf⟩ := hf
                refine r_ciV0 C h (c_X9_onRock hc16) mv_X9_217 rfl 0 rfl [0, 1] rfl rfl hl.1 rfl (Nat.le_of_ble_eq_true rfl) (rok (by decide)) dX9_state_90 (fun H locs h => ?_)
                cases hf
                exact r_iret C h hr hlk rfl dX9_state_93
              · replace hf := ifn c7 hf
                refine r_tabD (tgt := 94) C dX9_state_1 [(0 : Int32), (1 : Int32), (2 : Int32), (3 : Int32), (4 : Int32), (5 : Int32), (6 : Int32)] (by decide) (nel_c c1 (nel_c c2 (nel_c c3 (nel_c c4 (nel_c c5 (nel_c c6 (nel_c c7 nel_0))))))) rfl ?_
                refine lv_iconst (v := (-1 : Int32)) hx hb dX9_state_94 rfl ?_
                cases hf
                exact r_iret C h hr hlk rfl dX9_state_95
def f_X9_feed_L30 (p0 : Int64) (p1 : Int32) : Nat → Int32 → Int32 → (Nat → Int32) → Option (Int32 × Int32 × (Nat → Int32))
  | 0, _, _, _ => none
  | n + 1, v4, y_this_taped, g_this_tape => (if p1 ≤ v4 then some (y_this_taped, y_this_taped, g_this_tape) else lt1 (((p0 >>> (((8 : Int32) * v4).toInt64 &&& 63)) &&& (255 : Int64)).toInt32) (fun (t6 : Int32) => chkI y_this_taped 200 (lt1 (y_this_taped + (1 : Int32)) (fun (t8 : Int32) => lt1 (v4 + (1 : Int32)) (fun (t9 : Int32) => (f_X9_feed_L30 p0 p1 n) t9 t8 (upd g_this_tape y_this_taped.toNatClampNeg t6))))))
def f_X9_feed (p0 : Int64) (p1 : Int32) (x_this_taped : Int32) (f_this_tape : Nat → Int32) : Option (Int32 × Int32 × (Nat → Int32)) := bd1 (f_X9_in1 p1 (1 : Int32) (8 : Int32)) (fun r1 => (if r1 = 0 then some ((-1 : Int32), x_this_taped, f_this_tape) else (if (x_this_taped + p1) ≤ (200 : Int32) then f_X9_feed_L30 p0 p1 1000 (0 : Int32) x_this_taped f_this_tape else some ((-2 : Int32), x_this_taped, f_this_tape))))
set_option maxRecDepth 100000 in
set_option maxHeartbeats 4000000 in
theorem c_X9_feed {l : Launch} {G : Gt} {h_this h_this_s h_this_kept h_this_laid h_this_pile h_this_tape h_this_letters h_this_code0 h_this_read h_this_saved h_this_plan h_this_bestPlan h_this_offThen h_this_paidThen h_this_rows h_this_sorts h_this_sizes h_this_number h_this_holds h_this_heldOne h_this_trace : Nat} {p0 : Int64} {p1 : Int32} {x_this_isKept : Int32} {x_this_taped : Int32} {x_this_at : Int32} {x_this_begun : Int32} {x_this_token : Int32} {x_this_value : Int32} {x_this_opened : Int32} {x_this_steps : Int32} {x_this_most : Int32} {x_this_many : Int32} {x_this_few : Int32} {x_this_everHome : Int32} {x_this_firstFit : Int32} {x_this_rowMany : Int32} {x_this_traced : Int32} {x_this_own : Int32} {x_this_isParted : Int32} {f_this_tape : Nat → Int32} {r : Int32} {m_this_taped : Int32} {m_this_tape : Nat → Int32} (hf : f_X9_feed p0 p1 x_this_taped f_this_tape = some (r, m_this_taped, m_this_tape)) : mFi l G yX9_feed cX9_feed 5 .int 1 [.ref h_this, .long p0, .int p1] [(h_this, ob 9 [.ref h_this_s, .ref h_this_kept, .ref h_this_laid, .int x_this_isKept, .ref h_this_pile, .ref h_this_tape, .int x_this_taped, .ref h_this_letters, .int x_this_at, .int x_this_begun, .int x_this_token, .int x_this_value, .int x_this_opened, .int x_this_steps, .ref h_this_code0, .ref h_this_read, .ref h_this_saved, .ref h_this_plan, .ref h_this_bestPlan, .int x_this_most, .int x_this_many, .int x_this_few, .int x_this_everHome, .ref h_this_offThen, .ref h_this_paidThen, .int x_this_firstFit, .ref h_this_rows, .int x_this_rowMany, .ref h_this_sorts, .ref h_this_sizes, .ref h_this_number, .ref h_this_holds, .ref h_this_heldOne, .ref h_this_trace, .int x_this_traced, .int x_this_own, .int x_this_isParted]), (h_this_tape, ia G 200 f_this_tape)] r [(h_this, ob 9 [.ref h_this_s, .ref h_this_kept, .ref h_this_laid, .int x_this_isKept, .ref h_this_pile, .ref h_this_tape, .int m_this_taped, .ref h_this_letters, .int x_this_at, .int x_this_begun, .int x_this_token, .int x_this_value, .int x_this_opened, .int x_this_steps, .ref h_this_code0, .ref h_this_read, .ref h_this_saved, .ref h_this_plan, .ref h_this_bestPlan, .int x_this_most, .int x_this_many, .int x_this_few, .int x_this_everHome, .ref h_this_offThen, .ref h_this_paidThen, .int x_this_firstFit, .ref h_this_rows, .int x_this_rowMany, .ref h_this_sorts, .ref h_this_sizes, .ref h_this_number, .ref h_this_holds, .ref h_this_heldOne, .ref h_this_trace, .int x_this_traced, .int x_this_own, .int x_this_isParted]), (h_this_tape, ia G 200 m_this_tape)] := by
  refine mFi.of (by decide +kernel) (Nat.le_of_ble_eq_true rfl) ?_
  intro p e s m below meth c A C hr hlk h ls hl
  obtain ⟨hx, hb, hml, hown, hts⟩ := id C
  replace hl : lv_has ls 5 [(0, .ref h_this), (1, .long p0), (3, .int p1)] := hl
  unfold f_X9_feed at hf
  refine with_K G A 5 (fun K hK1 hK2 => ?_)
  have L30 : ∀ (n : Nat) (v4 : Int32) (y_this_taped : Int32) (g_this_tape : Nat → Int32), f_X9_feed_L30 p0 p1 n v4 y_this_taped g_this_tape = some (r, m_this_taped, m_this_tape) → K 30 ([] : List Value) [(h_this, ob 9 [.ref h_this_s, .ref h_this_kept, .ref h_this_laid, .int x_this_isKept, .ref h_this_pile, .ref h_this_tape, .int y_this_taped, .ref h_this_letters, .int x_this_at, .int x_this_begun, .int x_this_token, .int x_this_value, .int x_this_opened, .int x_this_steps, .ref h_this_code0, .ref h_this_read, .ref h_this_saved, .ref h_this_plan, .ref h_this_bestPlan, .int x_this_most, .int x_this_many, .int x_this_few, .int x_this_everHome, .ref h_this_offThen, .ref h_this_paidThen, .int x_this_firstFit, .ref h_this_rows, .int x_this_rowMany, .ref h_this_sorts, .ref h_this_sizes, .ref h_this_number, .ref h_this_holds, .ref h_this_heldOne, .ref h_this_trace, .int x_this_traced, .int x_this_own, .int x_this_isParted]), (h_this_tape, ia G 200 g_this_tape)] [(0, .ref h_this), (1, .long p0), (3, .int p1), (4, .int v4)] := by
    intro n
    induction n with
    | zero =>
      intro v4 y_this_taped g_this_tape hf
      replace hf : (none : Option _) = some _ := hf
      cases hf
    | succ n ih =>
      intro v4 y_this_taped g_this_tape hf
      rw [f_X9_feed_L30] at hf
      refine hK1 _ _ _ _ (fun H locs ls h hl => ?_)
      refine lv_iload hx hb dX9_feed_30 (lv_at hl 3 rfl) ?_
      refine lv_iload_n hx hb dX9_feed_32 rfl (lv_at hl 2 rfl) ?_
      refine lv_icmp_ge (tgt := 73) hx hb dX9_feed_33 rfl (fun c5 => ?_) (fun c5 => ?_)
      · replace hf := ifp c5 hf
        refine lv_aload_n hx hb dX9_feed_73 rfl (lv_at hl 0 rfl) ?_
        refine r_get C h fk_X9_127 0 rfl rfl dX9_feed_74 ?_
        cases hf
        exact r_iret C h hr hlk rfl dX9_feed_77
      · replace hf := ifn c5 hf
        refine lv_aload_n hx hb dX9_feed_36 rfl (lv_at hl 0 rfl) ?_
        refine r_get C h fk_X9_22 0 rfl rfl dX9_feed_37 ?_
        refine lv_aload_n hx hb dX9_feed_40 rfl (lv_at hl 0 rfl) ?_
        refine r_get C h fk_X9_127 0 rfl rfl dX9_feed_41 ?_
        refine lv_lload_n hx hb dX9_feed_44 rfl (lv_at hl 1 rfl) ?_
        refine lv_bipush (v := (8 : Int32)) hx hb dX9_feed_45 rfl ?_
        refine lv_iload hx hb dX9_feed_47 (lv_at hl 3 rfl) ?_
        refine lv_imul hx hb dX9_feed_49 ?_
        refine lv_lshr hx hb dX9_feed_50 rfl ?_
        refine lv_ldc2 hx hb hown (hts _ cw_X9_190) dX9_feed_51 ?_
        refine lv_land hx hb dX9_feed_54 ?_
        refine lv_l2i hx hb dX9_feed_55 rfl ?_
        refine lv_topi (fun t6 et6 => ?_)
        replace hf := lt1_inv et6 hf
        replace hf := chkI_inv hf
        obtain ⟨hi7, hf⟩ := hf
        refine r_iast (ws' := [(h_this, ob 9 [.ref h_this_s, .ref h_this_kept, .ref h_this_laid, .int x_this_isKept, .ref h_this_pile, .ref h_this_tape, .int y_this_taped, .ref h_this_letters, .int x_this_at, .int x_this_begun, .int x_this_token, .int x_this_value, .int x_this_opened, .int x_this_steps, .ref h_this_code0, .ref h_this_read, .ref h_this_saved, .ref h_this_plan, .ref h_this_bestPlan, .int x_this_most, .int x_this_many, .int x_this_few, .int x_this_everHome, .ref h_this_offThen, .ref h_this_paidThen, .int x_this_firstFit, .ref h_this_rows, .int x_this_rowMany, .ref h_this_sorts, .ref h_this_sizes, .ref h_this_number, .ref h_this_holds, .ref h_this_heldOne, .ref h_this_trace, .int x_this_traced, .int x_this_own, .int x_this_isParted]), (h_this_tape, ia G 200 (upd g_this_tape y_this_taped.toNatClampNeg t6))]) C h 1 rfl hi7 dX9_feed_56 rfl (fun H locs h => ?_)
        refine lv_aload_n hx hb dX9_feed_57 rfl (lv_at hl 0 rfl) ?_
        refine lv_dup hx hb dX9_feed_58 rfl ?_
        refine r_get C h fk_X9_127 0 rfl rfl dX9_feed_59 ?_
        refine lv_iconst (v := (1 : Int32)) hx hb dX9_feed_62 rfl ?_
        refine lv_iadd hx hb dX9_feed_63 ?_
        refine lv_topi (fun t8 et8 => ?_)
        replace hf := lt1_inv et8 hf
        refine r_put (ws' := [(h_this, ob 9 [.ref h_this_s, .ref h_this_kept, .ref h_this_laid, .int x_this_isKept, .ref h_this_pile, .ref h_this_tape, .int t8, .ref h_this_letters, .int x_this_at, .int x_this_begun, .int x_this_token, .int x_this_value, .int x_this_opened, .int x_this_steps, .ref h_this_code0, .ref h_this_read, .ref h_this_saved, .ref h_this_plan, .ref h_this_bestPlan, .int x_this_most, .int x_this_many, .int x_this_few, .int x_this_everHome, .ref h_this_offThen, .ref h_this_paidThen, .int x_this_firstFit, .ref h_this_rows, .int x_this_rowMany, .ref h_this_sorts, .ref h_this_sizes, .ref h_this_number, .ref h_this_holds, .ref h_this_heldOne, .ref h_this_trace, .int x_this_traced, .int x_this_own, .int x_this_isParted]), (h_this_tape, ia G 200 (upd g_this_tape y_this_taped.toNatClampNeg t6))]) C h fw_X9_127 0 rfl rfl rfl (Nat.le_of_ble_eq_true rfl) dX9_feed_64 rfl (fun H locs h => ?_)
        obtain ⟨t9, et9⟩ : ∃ y : Int32, y = v4 + (1 : Int32) := ⟨_, rfl⟩
        replace hf := lt1_inv et9 hf
        refine lv_iinc (v := t9) (lv' := [(4, .int t9), (0, .ref h_this), (1, .long p0), (3, .int p1)]) hx hb dX9_feed_67 hl (k := 3) rfl (by rw [et9]; rfl) (by decide) rfl (fun ls hl => ?_)
        refine lv_goto (tgt := 30) hx hb dX9_feed_70 rfl ?_
        exact hK2 _ _ _ _ (ih t9 t8 (upd g_this_tape y_this_taped.toNatClampNeg t6) hf) _ _ _ h (lv_sub hl [1, 2, 3, 0] rfl)
  refine lv_iload_n hx hb dX9_feed_0 rfl (lv_at hl 2 rfl) ?_
  refine lv_iconst (v := (1 : Int32)) hx hb dX9_feed_1 rfl ?_
  refine lv_bipush (v := (8 : Int32)) hx hb dX9_feed_2 rfl ?_
  replace hf := bd1_inv hf
  obtain ⟨r1, hc2, hf⟩ := hf
  refine r_ciS0 C h (c_X9_in1 hc2) ms_X9_71 rfl [] rfl rfl hl.1 rfl (Nat.le_of_ble_eq_true rfl) (rok (by decide)) dX9_feed_4 (fun H locs h => ?_)
  refine lv_if_ne (tgt := 12) hx hb dX9_feed_7 rfl (fun c3 => ?_) (fun c3 => ?_)
  · replace hf := ifn c3 hf
    refine lv_aload_n hx hb dX9_feed_12 rfl (lv_at hl 0 rfl) ?_
    refine r_get C h fk_X9_127 0 rfl rfl dX9_feed_13 ?_
    refine lv_iload_n hx hb dX9_feed_16 rfl (lv_at hl 2 rfl) ?_
    refine lv_iadd hx hb dX9_feed_17 ?_
    refine lv_sipush (v := (200 : Int32)) hx hb dX9_feed_18 rfl ?_
    refine lv_icmp_le (tgt := 27) hx hb dX9_feed_21 rfl (fun c4 => ?_) (fun c4 => ?_)
    · replace hf := ifp c4 hf
      refine lv_iconst (v := (0 : Int32)) hx hb dX9_feed_27 rfl ?_
      refine lv_istore (lv' := [(4, .int (0 : Int32)), (0, .ref h_this), (1, .long p0), (3, .int p1)]) hx hb dX9_feed_28 hl (by decide) rfl (fun ls hl => ?_)
      exact hK2 _ _ _ _ (L30 1000 (0 : Int32) x_this_taped f_this_tape hf) _ _ _ h (lv_sub hl [1, 2, 3, 0] rfl)
    · replace hf := ifn c4 hf
      refine lv_bipush (v := (-2 : Int32)) hx hb dX9_feed_24 rfl ?_
      cases hf
      exact r_iret C h hr hlk rfl dX9_feed_26
  · replace hf := ifp c3 hf
    refine lv_iconst (v := (-1 : Int32)) hx hb dX9_feed_10 rfl ?_
    cases hf
    exact r_iret C h hr hlk rfl dX9_feed_11
def f_X9_byteAt (p0 : Int32) (x_this_taped : Int32) (f_this_tape : Nat → Int32) : Option (Int32) := (if x_this_taped ≤ p0 then some (-1 : Int32) else chkI p0 200 (some (f_this_tape p0.toNatClampNeg)))
set_option maxRecDepth 100000 in
set_option maxHeartbeats 4000000 in
theorem c_X9_byteAt {l : Launch} {G : Gt} {h_this h_this_s h_this_kept h_this_laid h_this_pile h_this_tape h_this_letters h_this_code0 h_this_read h_this_saved h_this_plan h_this_bestPlan h_this_offThen h_this_paidThen h_this_rows h_this_sorts h_this_sizes h_this_number h_this_holds h_this_heldOne h_this_trace : Nat} {p0 : Int32} {x_this_isKept : Int32} {x_this_taped : Int32} {x_this_at : Int32} {x_this_begun : Int32} {x_this_token : Int32} {x_this_value : Int32} {x_this_opened : Int32} {x_this_steps : Int32} {x_this_most : Int32} {x_this_many : Int32} {x_this_few : Int32} {x_this_everHome : Int32} {x_this_firstFit : Int32} {x_this_rowMany : Int32} {x_this_traced : Int32} {x_this_own : Int32} {x_this_isParted : Int32} {f_this_tape : Nat → Int32} {r : Int32} (hf : f_X9_byteAt p0 x_this_taped f_this_tape = some r) : mFi l G yX9_byteAt cX9_byteAt 2 .int 0 [.ref h_this, .int p0] [(h_this, ob 9 [.ref h_this_s, .ref h_this_kept, .ref h_this_laid, .int x_this_isKept, .ref h_this_pile, .ref h_this_tape, .int x_this_taped, .ref h_this_letters, .int x_this_at, .int x_this_begun, .int x_this_token, .int x_this_value, .int x_this_opened, .int x_this_steps, .ref h_this_code0, .ref h_this_read, .ref h_this_saved, .ref h_this_plan, .ref h_this_bestPlan, .int x_this_most, .int x_this_many, .int x_this_few, .int x_this_everHome, .ref h_this_offThen, .ref h_this_paidThen, .int x_this_firstFit, .ref h_this_rows, .int x_this_rowMany, .ref h_this_sorts, .ref h_this_sizes, .ref h_this_number, .ref h_this_holds, .ref h_this_heldOne, .ref h_this_trace, .int x_this_traced, .int x_this_own, .int x_this_isParted]), (h_this_tape, ia G 200 f_this_tape)] r [(h_this, ob 9 [.ref h_this_s, .ref h_this_kept, .ref h_this_laid, .int x_this_isKept, .ref h_this_pile, .ref h_this_tape, .int x_this_taped, .ref h_this_letters, .int x_this_at, .int x_this_begun, .int x_this_token, .int x_this_value, .int x_this_opened, .int x_this_steps, .ref h_this_code0, .ref h_this_read, .ref h_this_saved, .ref h_this_plan, .ref h_this_bestPlan, .int x_this_most, .int x_this_many, .int x_this_few, .int x_this_everHome, .ref h_this_offThen, .ref h_this_paidThen, .int x_this_firstFit, .ref h_this_rows, .int x_this_rowMany, .ref h_this_sorts, .ref h_this_sizes, .ref h_this_number, .ref h_this_holds, .ref h_this_heldOne, .ref h_this_trace, .int x_this_traced, .int x_this_own, .int x_this_isParted]), (h_this_tape, ia G 200 f_this_tape)] := by
  refine mFi.of (by decide +kernel) (Nat.le_of_ble_eq_true rfl) ?_
  intro p e s m below meth c A C hr hlk h ls hl
  obtain ⟨hx, hb, hml, hown, hts⟩ := id C
  replace hl : lv_has ls 2 [(0, .ref h_this), (1, .int p0)] := hl
  unfold f_X9_byteAt at hf
  refine lv_iload_n hx hb dX9_byteAt_0 rfl (lv_at hl 1 rfl) ?_
  refine lv_aload_n hx hb dX9_byteAt_1 rfl (lv_at hl 0 rfl) ?_
  refine r_get C h fk_X9_127 0 rfl rfl dX9_byteAt_2 ?_
  refine lv_icmp_ge (tgt := 17) hx hb dX9_byteAt_5 rfl (fun c1 => ?_) (fun c1 => ?_)
  · replace hf := ifp c1 hf
    refine lv_iconst (v := (-1 : Int32)) hx hb dX9_byteAt_17 rfl ?_
    cases hf
    exact r_iret C h hr hlk rfl dX9_byteAt_18
  · replace hf := ifn c1 hf
    refine lv_aload_n hx hb dX9_byteAt_8 rfl (lv_at hl 0 rfl) ?_
    refine r_get C h fk_X9_22 0 rfl rfl dX9_byteAt_9 ?_
    refine lv_iload_n hx hb dX9_byteAt_12 rfl (lv_at hl 1 rfl) ?_
    replace hf := chkI_inv hf
    obtain ⟨hi2, hf⟩ := hf
    refine r_iald C h 1 rfl hi2 dX9_byteAt_13 ?_
    refine lv_goto (tgt := 18) hx hb dX9_byteAt_14 rfl ?_
    cases hf
    exact r_iret C h hr hlk rfl dX9_byteAt_18
def f_X9_isNameOf_b71 (rec22 : Int32 → Int32 → Option (Int32)) (v3 : Int32) (s0 : Int32) (s1 : Int32) : Option (Int32) := (if s0 = s1 then lt1 (v3 + (1 : Int32)) (fun (t10 : Int32) => rec22 (1 : Int32) t10) else lt1 (v3 + (1 : Int32)) (fun (t9 : Int32) => rec22 (0 : Int32) t9))
def f_X9_isNameOf_L22 (p0 : Int32) (x_this_taped : Int32) (x_this_at : Int32) (x_this_begun : Int32) (f_this_letters : Nat → Int32) (f_this_tape : Nat → Int32) : Nat → Int32 → Int32 → Option (Int32)
  | 0, _, _ => none
  | n + 1, v2, v3 => (if (8 : Int32) ≤ v3 then chkB v2 (some v2) else (if v2 = 0 then chkB v2 (some v2) else chkI (((8 : Int32) * p0) + v3) 144 ((if x_this_at ≤ (x_this_begun + v3) then f_X9_isNameOf_b71 (f_X9_isNameOf_L22 p0 x_this_taped x_this_at x_this_begun f_this_letters f_this_tape n) v3 (f_this_letters (((8 : Int32) * p0) + v3).toNatClampNeg) (32 : Int32) else bd1 (f_X9_byteAt (x_this_begun + v3) x_this_taped f_this_tape) (fun r11 => f_X9_isNameOf_b71 (f_X9_isNameOf_L22 p0 x_this_taped x_this_at x_this_begun f_this_letters f_this_tape n) v3 (f_this_letters (((8 : Int32) * p0) + v3).toNatClampNeg) r11)))))
def f_X9_isNameOf_b19 (p0 : Int32) (x_this_taped : Int32) (x_this_at : Int32) (x_this_begun : Int32) (f_this_letters : Nat → Int32) (f_this_tape : Nat → Int32) (s0 : Int32) : Option (Int32) := f_X9_isNameOf_L22 p0 x_this_taped x_this_at x_this_begun f_this_letters f_this_tape 1000 s0 (0 : Int32)
def f_X9_isNameOf (p0 : Int32) (x_this_taped : Int32) (x_this_at : Int32) (x_this_begun : Int32) (f_this_letters : Nat → Int32) (f_this_tape : Nat → Int32) : Option (Int32) := (if (8 : Int32) < (x_this_at - x_this_begun) then f_X9_isNameOf_b19 p0 x_this_taped x_this_at x_this_begun f_this_letters f_this_tape (0 : Int32) else f_X9_isNameOf_b19 p0 x_this_taped x_this_at x_this_begun f_this_letters f_this_tape (1 : Int32))
set_option maxRecDepth 100000 in
set_option maxHeartbeats 4000000 in
theorem c_X9_isNameOf {l : Launch} {G : Gt} {h_this h_this_s h_this_kept h_this_laid h_this_pile h_this_tape h_this_letters h_this_code0 h_this_read h_this_saved h_this_plan h_this_bestPlan h_this_offThen h_this_paidThen h_this_rows h_this_sorts h_this_sizes h_this_number h_this_holds h_this_heldOne h_this_trace : Nat} {p0 : Int32} {x_this_isKept : Int32} {x_this_taped : Int32} {x_this_at : Int32} {x_this_begun : Int32} {x_this_token : Int32} {x_this_value : Int32} {x_this_opened : Int32} {x_this_steps : Int32} {x_this_most : Int32} {x_this_many : Int32} {x_this_few : Int32} {x_this_everHome : Int32} {x_this_firstFit : Int32} {x_this_rowMany : Int32} {x_this_traced : Int32} {x_this_own : Int32} {x_this_isParted : Int32} {f_this_letters : Nat → Int32} {f_this_tape : Nat → Int32} {r : Int32} (hf : f_X9_isNameOf p0 x_this_taped x_this_at x_this_begun f_this_letters f_this_tape = some r) : mFi l G yX9_isNameOf cX9_isNameOf 4 .boolean 1 [.ref h_this, .int p0] [(h_this, ob 9 [.ref h_this_s, .ref h_this_kept, .ref h_this_laid, .int x_this_isKept, .ref h_this_pile, .ref h_this_tape, .int x_this_taped, .ref h_this_letters, .int x_this_at, .int x_this_begun, .int x_this_token, .int x_this_value, .int x_this_opened, .int x_this_steps, .ref h_this_code0, .ref h_this_read, .ref h_this_saved, .ref h_this_plan, .ref h_this_bestPlan, .int x_this_most, .int x_this_many, .int x_this_few, .int x_this_everHome, .ref h_this_offThen, .ref h_this_paidThen, .int x_this_firstFit, .ref h_this_rows, .int x_this_rowMany, .ref h_this_sorts, .ref h_this_sizes, .ref h_this_number, .ref h_this_holds, .ref h_this_heldOne, .ref h_this_trace, .int x_this_traced, .int x_this_own, .int x_this_isParted]), (h_this_letters, ca G 144 f_this_letters), (h_this_tape, ia G 200 f_this_tape)] r [(h_this, ob 9 [.ref h_this_s, .ref h_this_kept, .ref h_this_laid, .int x_this_isKept, .ref h_this_pile, .ref h_this_tape, .int x_this_taped, .ref h_this_letters, .int x_this_at, .int x_this_begun, .int x_this_token, .int x_this_value, .int x_this_opened, .int x_this_steps, .ref h_this_code0, .ref h_this_read, .ref h_this_saved, .ref h_this_plan, .ref h_this_bestPlan, .int x_this_most, .int x_this_many, .int x_this_few, .int x_this_everHome, .ref h_this_offThen, .ref h_this_paidThen, .int x_this_firstFit, .ref h_this_rows, .int x_this_rowMany, .ref h_this_sorts, .ref h_this_sizes, .ref h_this_number, .ref h_this_holds, .ref h_this_heldOne, .ref h_this_trace, .int x_this_traced, .int x_this_own, .int x_this_isParted]), (h_this_letters, ca G 144 f_this_letters), (h_this_tape, ia G 200 f_this_tape)] := by
  refine mFi.of (by decide +kernel) (Nat.le_of_ble_eq_true rfl) ?_
  intro p e s m below meth c A C hr hlk h ls hl
  obtain ⟨hx, hb, hml, hown, hts⟩ := id C
  replace hl : lv_has ls 4 [(0, .ref h_this), (1, .int p0)] := hl
  unfold f_X9_isNameOf at hf
  refine with_K G A 4 (fun K hK1 hK2 => ?_)
  have B71 : ∀ (rec22 : Int32 → Int32 → Option (Int32)) (hrec22 : ∀ (v2 : Int32) (v3 : Int32), rec22 v2 v3 = some r → K 22 ([] : List Value) [(h_this, ob 9 [.ref h_this_s, .ref h_this_kept, .ref h_this_laid, .int x_this_isKept, .ref h_this_pile, .ref h_this_tape, .int x_this_taped, .ref h_this_letters, .int x_this_at, .int x_this_begun, .int x_this_token, .int x_this_value, .int x_this_opened, .int x_this_steps, .ref h_this_code0, .ref h_this_read, .ref h_this_saved, .ref h_this_plan, .ref h_this_bestPlan, .int x_this_most, .int x_this_many, .int x_this_few, .int x_this_everHome, .ref h_this_offThen, .ref h_this_paidThen, .int x_this_firstFit, .ref h_this_rows, .int x_this_rowMany, .ref h_this_sorts, .ref h_this_sizes, .ref h_this_number, .ref h_this_holds, .ref h_this_heldOne, .ref h_this_trace, .int x_this_traced, .int x_this_own, .int x_this_isParted]), (h_this_letters, ca G 144 f_this_letters), (h_this_tape, ia G 200 f_this_tape)] [(0, .ref h_this), (1, .int p0), (2, .int v2), (3, .int v3)]) (v3 : Int32) (s0 : Int32) (s1 : Int32), f_X9_isNameOf_b71 rec22 v3 s0 s1 = some r → K 71 [.int s1, .int s0] [(h_this, ob 9 [.ref h_this_s, .ref h_this_kept, .ref h_this_laid, .int x_this_isKept, .ref h_this_pile, .ref h_this_tape, .int x_this_taped, .ref h_this_letters, .int x_this_at, .int x_this_begun, .int x_this_token, .int x_this_value, .int x_this_opened, .int x_this_steps, .ref h_this_code0, .ref h_this_read, .ref h_this_saved, .ref h_this_plan, .ref h_this_bestPlan, .int x_this_most, .int x_this_many, .int x_this_few, .int x_this_everHome, .ref h_this_offThen, .ref h_this_paidThen, .int x_this_firstFit, .ref h_this_rows, .int x_this_rowMany, .ref h_this_sorts, .ref h_this_sizes, .ref h_this_number, .ref h_this_holds, .ref h_this_heldOne, .ref h_this_trace, .int x_this_traced, .int x_this_own, .int x_this_isParted]), (h_this_letters, ca G 144 f_this_letters), (h_this_tape, ia G 200 f_this_tape)] [(0, .ref h_this), (1, .int p0), (3, .int v3)] := by
    intro rec22 hrec22 v3 s0 s1 hf
    unfold f_X9_isNameOf_b71 at hf
    refine hK1 _ _ _ _ (fun H locs ls h hl => ?_)
    refine lv_icmp_ne (tgt := 78) hx hb dX9_isNameOf_71 rfl (fun c8 => ?_) (fun c8 => ?_)
    · replace hf := ifn c8 hf
      refine lv_iconst (v := (0 : Int32)) hx hb dX9_isNameOf_78 rfl ?_
      refine lv_istore_n (lv' := [(2, .int (0 : Int32)), (0, .ref h_this), (1, .int p0), (3, .int v3)]) hx hb dX9_isNameOf_79 rfl hl (by decide) rfl (fun ls hl => ?_)
      obtain ⟨t9, et9⟩ : ∃ y : Int32, y = v3 + (1 : Int32) := ⟨_, rfl⟩
      replace hf := lt1_inv et9 hf
      refine lv_iinc (v := t9) (lv' := [(3, .int t9), (2, .int (0 : Int32)), (0, .ref h_this), (1, .int p0)]) hx hb dX9_isNameOf_80 hl (k := 3) rfl (by rw [et9]; rfl) (by decide) rfl (fun ls hl => ?_)
      refine lv_goto (tgt := 22) hx hb dX9_isNameOf_83 rfl ?_
      exact hK2 _ _ _ _ (hrec22 (0 : Int32) t9 hf) _ _ _ h (lv_sub hl [2, 3, 1, 0] rfl)
    · replace hf := ifp c8 hf
      refine lv_iconst (v := (1 : Int32)) hx hb dX9_isNameOf_74 rfl ?_
      refine lv_goto (tgt := 79) hx hb dX9_isNameOf_75 rfl ?_
      refine lv_istore_n (lv' := [(2, .int (1 : Int32)), (0, .ref h_this), (1, .int p0), (3, .int v3)]) hx hb dX9_isNameOf_79 rfl hl (by decide) rfl (fun ls hl => ?_)
      obtain ⟨t10, et10⟩ : ∃ y : Int32, y = v3 + (1 : Int32) := ⟨_, rfl⟩
      replace hf := lt1_inv et10 hf
      refine lv_iinc (v := t10) (lv' := [(3, .int t10), (2, .int (1 : Int32)), (0, .ref h_this), (1, .int p0)]) hx hb dX9_isNameOf_80 hl (k := 3) rfl (by rw [et10]; rfl) (by decide) rfl (fun ls hl => ?_)
      refine lv_goto (tgt := 22) hx hb dX9_isNameOf_83 rfl ?_
      exact hK2 _ _ _ _ (hrec22 (1 : Int32) t10 hf) _ _ _ h (lv_sub hl [2, 3, 1, 0] rfl)
  have L22 : ∀ (n : Nat) (v2 : Int32) (v3 : Int32), f_X9_isNameOf_L22 p0 x_this_taped x_this_at x_this_begun f_this_letters f_this_tape n v2 v3 = some r → K 22 ([] : List Value) [(h_this, ob 9 [.ref h_this_s, .ref h_this_kept, .ref h_this_laid, .int x_this_isKept, .ref h_this_pile, .ref h_this_tape, .int x_this_taped, .ref h_this_letters, .int x_this_at, .int x_this_begun, .int x_this_token, .int x_this_value, .int x_this_opened, .int x_this_steps, .ref h_this_code0, .ref h_this_read, .ref h_this_saved, .ref h_this_plan, .ref h_this_bestPlan, .int x_this_most, .int x_this_many, .int x_this_few, .int x_this_everHome, .ref h_this_offThen, .ref h_this_paidThen, .int x_this_firstFit, .ref h_this_rows, .int x_this_rowMany, .ref h_this_sorts, .ref h_this_sizes, .ref h_this_number, .ref h_this_holds, .ref h_this_heldOne, .ref h_this_trace, .int x_this_traced, .int x_this_own, .int x_this_isParted]), (h_this_letters, ca G 144 f_this_letters), (h_this_tape, ia G 200 f_this_tape)] [(0, .ref h_this), (1, .int p0), (2, .int v2), (3, .int v3)] := by
    intro n
    induction n with
    | zero =>
      intro v2 v3 hf
      replace hf : (none : Option _) = some _ := hf
      cases hf
    | succ n ih =>
      intro v2 v3 hf
      rw [f_X9_isNameOf_L22] at hf
      refine hK1 _ _ _ _ (fun H locs ls h hl => ?_)
      refine lv_iload_n hx hb dX9_isNameOf_22 rfl (lv_at hl 3 rfl) ?_
      refine lv_bipush (v := (8 : Int32)) hx hb dX9_isNameOf_23 rfl ?_
      refine lv_icmp_ge (tgt := 86) hx hb dX9_isNameOf_25 rfl (fun c2 => ?_) (fun c2 => ?_)
      · replace hf := ifp c2 hf
        refine lv_iload_n hx hb dX9_isNameOf_86 rfl (lv_at hl 2 rfl) ?_
        replace hf := chkB_inv hf
        obtain ⟨hb3, hf⟩ := hf
        cases hf
        exact r_iret C h hr hlk hb3 dX9_isNameOf_87
      · replace hf := ifn c2 hf
        refine lv_iload_n hx hb dX9_isNameOf_28 rfl (lv_at hl 2 rfl) ?_
        refine lv_if_eq (tgt := 86) hx hb dX9_isNameOf_29 rfl (fun c4 => ?_) (fun c4 => ?_)
        · replace hf := ifp c4 hf
          refine lv_iload_n hx hb dX9_isNameOf_86 rfl (lv_at hl 2 rfl) ?_
          replace hf := chkB_inv hf
          obtain ⟨hb5, hf⟩ := hf
          cases hf
          exact r_iret C h hr hlk hb5 dX9_isNameOf_87
        · replace hf := ifn c4 hf
          refine lv_aload_n hx hb dX9_isNameOf_32 rfl (lv_at hl 0 rfl) ?_
          refine r_get C h fk_X9_25 0 rfl rfl dX9_isNameOf_33 ?_
          refine lv_bipush (v := (8 : Int32)) hx hb dX9_isNameOf_36 rfl ?_
          refine lv_iload_n hx hb dX9_isNameOf_38 rfl (lv_at hl 1 rfl) ?_
          refine lv_imul hx hb dX9_isNameOf_39 ?_
          refine lv_iload_n hx hb dX9_isNameOf_40 rfl (lv_at hl 3 rfl) ?_
          refine lv_iadd hx hb dX9_isNameOf_41 ?_
          replace hf := chkI_inv hf
          obtain ⟨hi6, hf⟩ := hf
          refine r_cald C h 1 rfl hi6 dX9_isNameOf_42 ?_
          refine lv_aload_n hx hb dX9_isNameOf_43 rfl (lv_at hl 0 rfl) ?_
          refine r_get C h fk_X9_134 0 rfl rfl dX9_isNameOf_44 ?_
          refine lv_iload_n hx hb dX9_isNameOf_47 rfl (lv_at hl 3 rfl) ?_
          refine lv_iadd hx hb dX9_isNameOf_48 ?_
          refine lv_aload_n hx hb dX9_isNameOf_49 rfl (lv_at hl 0 rfl) ?_
          refine r_get C h fk_X9_131 0 rfl rfl dX9_isNameOf_50 ?_
          refine lv_icmp_ge (tgt := 69) hx hb dX9_isNameOf_53 rfl (fun c7 => ?_) (fun c7 => ?_)
          · replace hf := ifp c7 hf
            refine lv_bipush (v := (32 : Int32)) hx hb dX9_isNameOf_69 rfl ?_
            exact hK2 _ _ _ _ (B71 _ ih v3 (f_this_letters (((8 : Int32) * p0) + v3).toNatClampNeg) (32 : Int32) hf) _ _ _ h (lv_sub hl [0, 1, 3] rfl)
          · replace hf := ifn c7 hf
            refine lv_aload_n hx hb dX9_isNameOf_56 rfl (lv_at hl 0 rfl) ?_
            refine lv_aload_n hx hb dX9_isNameOf_57 rfl (lv_at hl 0 rfl) ?_
            refine r_get C h fk_X9_134 0 rfl rfl dX9_isNameOf_58 ?_
            refine lv_iload_n hx hb dX9_isNameOf_61 rfl (lv_at hl 3 rfl) ?_
            refine lv_iadd hx hb dX9_isNameOf_62 ?_
            replace hf := bd1_inv hf
            obtain ⟨r11, hc12, hf⟩ := hf
            refine r_ciV0 C h (c_X9_byteAt hc12) mv_X9_137 rfl 0 rfl [0, 2] rfl rfl hl.1 rfl (Nat.le_of_ble_eq_true rfl) (rok (by decide)) dX9_isNameOf_63 (fun H locs h => ?_)
            refine lv_goto (tgt := 71) hx hb dX9_isNameOf_66 rfl ?_
            exact hK2 _ _ _ _ (B71 _ ih v3 (f_this_letters (((8 : Int32) * p0) + v3).toNatClampNeg) r11 hf) _ _ _ h (lv_sub hl [0, 1, 3] rfl)
  have B19 : ∀ (s0 : Int32), f_X9_isNameOf_b19 p0 x_this_taped x_this_at x_this_begun f_this_letters f_this_tape s0 = some r → K 19 [.int s0] [(h_this, ob 9 [.ref h_this_s, .ref h_this_kept, .ref h_this_laid, .int x_this_isKept, .ref h_this_pile, .ref h_this_tape, .int x_this_taped, .ref h_this_letters, .int x_this_at, .int x_this_begun, .int x_this_token, .int x_this_value, .int x_this_opened, .int x_this_steps, .ref h_this_code0, .ref h_this_read, .ref h_this_saved, .ref h_this_plan, .ref h_this_bestPlan, .int x_this_most, .int x_this_many, .int x_this_few, .int x_this_everHome, .ref h_this_offThen, .ref h_this_paidThen, .int x_this_firstFit, .ref h_this_rows, .int x_this_rowMany, .ref h_this_sorts, .ref h_this_sizes, .ref h_this_number, .ref h_this_holds, .ref h_this_heldOne, .ref h_this_trace, .int x_this_traced, .int x_this_own, .int x_this_isParted]), (h_this_letters, ca G 144 f_this_letters), (h_this_tape, ia G 200 f_this_tape)] [(0, .ref h_this), (1, .int p0)] := by
    intro s0 hf
    unfold f_X9_isNameOf_b19 at hf
    refine hK1 _ _ _ _ (fun H locs ls h hl => ?_)
    refine lv_istore_n (lv' := [(2, .int s0), (0, .ref h_this), (1, .int p0)]) hx hb dX9_isNameOf_19 rfl hl (by decide) rfl (fun ls hl => ?_)
    refine lv_iconst (v := (0 : Int32)) hx hb dX9_isNameOf_20 rfl ?_
    refine lv_istore_n (lv' := [(3, .int (0 : Int32)), (2, .int s0), (0, .ref h_this), (1, .int p0)]) hx hb dX9_isNameOf_21 rfl hl (by decide) rfl (fun ls hl => ?_)
    exact hK2 _ _ _ _ (L22 1000 s0 (0 : Int32) hf) _ _ _ h (lv_sub hl [2, 3, 1, 0] rfl)
  refine lv_aload_n hx hb dX9_isNameOf_0 rfl (lv_at hl 0 rfl) ?_
  refine r_get C h fk_X9_131 0 rfl rfl dX9_isNameOf_1 ?_
  refine lv_aload_n hx hb dX9_isNameOf_4 rfl (lv_at hl 0 rfl) ?_
  refine r_get C h fk_X9_134 0 rfl rfl dX9_isNameOf_5 ?_
  refine lv_isub hx hb dX9_isNameOf_8 ?_
  refine lv_bipush (v := (8 : Int32)) hx hb dX9_isNameOf_9 rfl ?_
  refine lv_icmp_gt (tgt := 18) hx hb dX9_isNameOf_11 rfl (fun c1 => ?_) (fun c1 => ?_)
  · replace hf := ifp c1 hf
    refine lv_iconst (v := (0 : Int32)) hx hb dX9_isNameOf_18 rfl ?_
    exact hK2 _ _ _ _ (B19 (0 : Int32) hf) _ _ _ h (lv_sub hl [0, 1] rfl)
  · replace hf := ifn c1 hf
    refine lv_iconst (v := (1 : Int32)) hx hb dX9_isNameOf_14 rfl ?_
    refine lv_goto (tgt := 19) hx hb dX9_isNameOf_15 rfl ?_
    exact hK2 _ _ _ _ (B19 (1 : Int32) hf) _ _ _ h (lv_sub hl [0, 1] rfl)
def f_X9_readsName_L39 (x_this_taped : Int32) (x_this_begun : Int32) (f_this_letters : Nat → Int32) (f_this_tape : Nat → Int32) : Nat → Int32 → Int32 → Int32 → Option (Int32 × Int32)
  | 0, _, _, _ => none
  | n + 1, v1, y_this_at, y_this_token => (if (18 : Int32) ≤ v1 then some (y_this_at, y_this_token) else bd1 (f_X9_isNameOf v1 x_this_taped y_this_at x_this_begun f_this_letters f_this_tape) (fun r7 => (if r7 = 0 then lt1 (v1 + (1 : Int32)) (fun (t10 : Int32) => (f_X9_readsName_L39 x_this_taped x_this_begun f_this_letters f_this_tape n) t10 y_this_at y_this_token) else lt1 (v1 + (1 : Int32)) (fun (t11 : Int32) => (f_X9_readsName_L39 x_this_taped x_this_begun f_this_letters f_this_tape n) t11 y_this_at v1))))
def f_X9_readsName_b31 (x_this_taped : Int32) (x_this_begun : Int32) (f_this_letters : Nat → Int32) (f_this_tape : Nat → Int32) (y_this_at : Int32) : Option (Int32 × Int32) := f_X9_readsName_L39 x_this_taped x_this_begun f_this_letters f_this_tape 1000 (0 : Int32) y_this_at (101 : Int32)
def f_X9_readsName_L0 (x_this_taped : Int32) (x_this_begun : Int32) (f_this_letters : Nat → Int32) (f_this_tape : Nat → Int32) : Nat → Int32 → Option (Int32 × Int32)
  | 0, _ => none
  | n + 1, y_this_at => bd1 (f_X9_byteAt y_this_at x_this_taped f_this_tape) (fun r1 => bd1 (f_X9_in1 r1 (97 : Int32) (122 : Int32)) (fun r3 => (if r3 = 0 then f_X9_readsName_b31 x_this_taped x_this_begun f_this_letters f_this_tape y_this_at else lt1 (y_this_at + (1 : Int32)) (fun (t12 : Int32) => (f_X9_readsName_L0 x_this_taped x_this_begun f_this_letters f_this_tape n) t12))))
def f_X9_readsName (x_this_taped : Int32) (x_this_at : Int32) (x_this_begun : Int32) (f_this_letters : Nat → Int32) (f_this_tape : Nat → Int32) : Option (Int32 × Int32) := f_X9_readsName_L0 x_this_taped x_this_begun f_this_letters f_this_tape 1000 x_this_at
set_option maxRecDepth 100000 in
set_option maxHeartbeats 4000000 in
theorem c_X9_readsName {l : Launch} {G : Gt} {h_this h_this_s h_this_kept h_this_laid h_this_pile h_this_tape h_this_letters h_this_code0 h_this_read h_this_saved h_this_plan h_this_bestPlan h_this_offThen h_this_paidThen h_this_rows h_this_sorts h_this_sizes h_this_number h_this_holds h_this_heldOne h_this_trace : Nat} {x_this_isKept : Int32} {x_this_taped : Int32} {x_this_at : Int32} {x_this_begun : Int32} {x_this_token : Int32} {x_this_value : Int32} {x_this_opened : Int32} {x_this_steps : Int32} {x_this_most : Int32} {x_this_many : Int32} {x_this_few : Int32} {x_this_everHome : Int32} {x_this_firstFit : Int32} {x_this_rowMany : Int32} {x_this_traced : Int32} {x_this_own : Int32} {x_this_isParted : Int32} {f_this_letters : Nat → Int32} {f_this_tape : Nat → Int32} {m_this_at : Int32} {m_this_token : Int32} (hf : f_X9_readsName x_this_taped x_this_at x_this_begun f_this_letters f_this_tape = some (m_this_at, m_this_token)) : mFv l G yX9_readsName cX9_readsName 2 2 [.ref h_this] [(h_this, ob 9 [.ref h_this_s, .ref h_this_kept, .ref h_this_laid, .int x_this_isKept, .ref h_this_pile, .ref h_this_tape, .int x_this_taped, .ref h_this_letters, .int x_this_at, .int x_this_begun, .int x_this_token, .int x_this_value, .int x_this_opened, .int x_this_steps, .ref h_this_code0, .ref h_this_read, .ref h_this_saved, .ref h_this_plan, .ref h_this_bestPlan, .int x_this_most, .int x_this_many, .int x_this_few, .int x_this_everHome, .ref h_this_offThen, .ref h_this_paidThen, .int x_this_firstFit, .ref h_this_rows, .int x_this_rowMany, .ref h_this_sorts, .ref h_this_sizes, .ref h_this_number, .ref h_this_holds, .ref h_this_heldOne, .ref h_this_trace, .int x_this_traced, .int x_this_own, .int x_this_isParted]), (h_this_letters, ca G 144 f_this_letters), (h_this_tape, ia G 200 f_this_tape)] [(h_this, ob 9 [.ref h_this_s, .ref h_this_kept, .ref h_this_laid, .int x_this_isKept, .ref h_this_pile, .ref h_this_tape, .int x_this_taped, .ref h_this_letters, .int m_this_at, .int x_this_begun, .int m_this_token, .int x_this_value, .int x_this_opened, .int x_this_steps, .ref h_this_code0, .ref h_this_read, .ref h_this_saved, .ref h_this_plan, .ref h_this_bestPlan, .int x_this_most, .int x_this_many, .int x_this_few, .int x_this_everHome, .ref h_this_offThen, .ref h_this_paidThen, .int x_this_firstFit, .ref h_this_rows, .int x_this_rowMany, .ref h_this_sorts, .ref h_this_sizes, .ref h_this_number, .ref h_this_holds, .ref h_this_heldOne, .ref h_this_trace, .int x_this_traced, .int x_this_own, .int x_this_isParted]), (h_this_letters, ca G 144 f_this_letters), (h_this_tape, ia G 200 f_this_tape)] := by
  refine mFv.of (by decide +kernel) (Nat.le_of_ble_eq_true rfl) ?_
  intro p e s m below meth c A C hr hlk h ls hl
  obtain ⟨hx, hb, hml, hown, hts⟩ := id C
  replace hl : lv_has ls 2 [(0, .ref h_this)] := hl
  unfold f_X9_readsName at hf
  refine with_K G A 2 (fun K hK1 hK2 => ?_)
  have L39 : ∀ (n : Nat) (v1 : Int32) (y_this_at : Int32) (y_this_token : Int32), f_X9_readsName_L39 x_this_taped x_this_begun f_this_letters f_this_tape n v1 y_this_at y_this_token = some (m_this_at, m_this_token) → K 39 ([] : List Value) [(h_this, ob 9 [.ref h_this_s, .ref h_this_kept, .ref h_this_laid, .int x_this_isKept, .ref h_this_pile, .ref h_this_tape, .int x_this_taped, .ref h_this_letters, .int y_this_at, .int x_this_begun, .int y_this_token, .int x_this_value, .int x_this_opened, .int x_this_steps, .ref h_this_code0, .ref h_this_read, .ref h_this_saved, .ref h_this_plan, .ref h_this_bestPlan, .int x_this_most, .int x_this_many, .int x_this_few, .int x_this_everHome, .ref h_this_offThen, .ref h_this_paidThen, .int x_this_firstFit, .ref h_this_rows, .int x_this_rowMany, .ref h_this_sorts, .ref h_this_sizes, .ref h_this_number, .ref h_this_holds, .ref h_this_heldOne, .ref h_this_trace, .int x_this_traced, .int x_this_own, .int x_this_isParted]), (h_this_letters, ca G 144 f_this_letters), (h_this_tape, ia G 200 f_this_tape)] [(0, .ref h_this), (1, .int v1)] := by
    intro n
    induction n with
    | zero =>
      intro v1 y_this_at y_this_token hf
      replace hf : (none : Option _) = some _ := hf
      cases hf
    | succ n ih =>
      intro v1 y_this_at y_this_token hf
      rw [f_X9_readsName_L39] at hf
      refine hK1 _ _ _ _ (fun H locs ls h hl => ?_)
      refine lv_iload_n hx hb dX9_readsName_39 rfl (lv_at hl 1 rfl) ?_
      refine lv_bipush (v := (18 : Int32)) hx hb dX9_readsName_40 rfl ?_
      refine lv_icmp_ge (tgt := 71) hx hb dX9_readsName_42 rfl (fun c6 => ?_) (fun c6 => ?_)
      · replace hf := ifp c6 hf
        cases hf
        exact r_vret C h hr hlk dX9_readsName_71
      · replace hf := ifn c6 hf
        refine lv_aload_n hx hb dX9_readsName_45 rfl (lv_at hl 0 rfl) ?_
        refine lv_aload_n hx hb dX9_readsName_46 rfl (lv_at hl 0 rfl) ?_
        refine lv_iload_n hx hb dX9_readsName_47 rfl (lv_at hl 1 rfl) ?_
        replace hf := bd1_inv hf
        obtain ⟨r7, hc8, hf⟩ := hf
        refine r_ciV0 C h (c_X9_isNameOf hc8) mv_X9_143 rfl 0 rfl [0, 1, 2] rfl rfl hl.1 rfl (Nat.le_of_ble_eq_true rfl) (rok (by decide)) dX9_readsName_48 (fun H locs h => ?_)
        refine lv_if_eq (tgt := 58) hx hb dX9_readsName_51 rfl (fun c9 => ?_) (fun c9 => ?_)
        · replace hf := ifp c9 hf
          refine lv_aload_n hx hb dX9_readsName_58 rfl (lv_at hl 0 rfl) ?_
          refine r_get C h fk_X9_140 0 rfl rfl dX9_readsName_59 ?_
          refine r_put (ws' := [(h_this, ob 9 [.ref h_this_s, .ref h_this_kept, .ref h_this_laid, .int x_this_isKept, .ref h_this_pile, .ref h_this_tape, .int x_this_taped, .ref h_this_letters, .int y_this_at, .int x_this_begun, .int y_this_token, .int x_this_value, .int x_this_opened, .int x_this_steps, .ref h_this_code0, .ref h_this_read, .ref h_this_saved, .ref h_this_plan, .ref h_this_bestPlan, .int x_this_most, .int x_this_many, .int x_this_few, .int x_this_everHome, .ref h_this_offThen, .ref h_this_paidThen, .int x_this_firstFit, .ref h_this_rows, .int x_this_rowMany, .ref h_this_sorts, .ref h_this_sizes, .ref h_this_number, .ref h_this_holds, .ref h_this_heldOne, .ref h_this_trace, .int x_this_traced, .int x_this_own, .int x_this_isParted]), (h_this_letters, ca G 144 f_this_letters), (h_this_tape, ia G 200 f_this_tape)]) C h fw_X9_140 0 rfl rfl rfl (Nat.le_of_ble_eq_true rfl) dX9_readsName_62 rfl (fun H locs h => ?_)
          obtain ⟨t10, et10⟩ : ∃ y : Int32, y = v1 + (1 : Int32) := ⟨_, rfl⟩
          replace hf := lt1_inv et10 hf
          refine lv_iinc (v := t10) (lv' := [(1, .int t10), (0, .ref h_this)]) hx hb dX9_readsName_65 hl (k := 1) rfl (by rw [et10]; rfl) (by decide) rfl (fun ls hl => ?_)
          refine lv_goto (tgt := 39) hx hb dX9_readsName_68 rfl ?_
          exact hK2 _ _ _ _ (ih t10 y_this_at y_this_token hf) _ _ _ h (lv_sub hl [1, 0] rfl)
        · replace hf := ifn c9 hf
          refine lv_iload_n hx hb dX9_readsName_54 rfl (lv_at hl 1 rfl) ?_
          refine lv_goto (tgt := 62) hx hb dX9_readsName_55 rfl ?_
          refine r_put (ws' := [(h_this, ob 9 [.ref h_this_s, .ref h_this_kept, .ref h_this_laid, .int x_this_isKept, .ref h_this_pile, .ref h_this_tape, .int x_this_taped, .ref h_this_letters, .int y_this_at, .int x_this_begun, .int v1, .int x_this_value, .int x_this_opened, .int x_this_steps, .ref h_this_code0, .ref h_this_read, .ref h_this_saved, .ref h_this_plan, .ref h_this_bestPlan, .int x_this_most, .int x_this_many, .int x_this_few, .int x_this_everHome, .ref h_this_offThen, .ref h_this_paidThen, .int x_this_firstFit, .ref h_this_rows, .int x_this_rowMany, .ref h_this_sorts, .ref h_this_sizes, .ref h_this_number, .ref h_this_holds, .ref h_this_heldOne, .ref h_this_trace, .int x_this_traced, .int x_this_own, .int x_this_isParted]), (h_this_letters, ca G 144 f_this_letters), (h_this_tape, ia G 200 f_this_tape)]) C h fw_X9_140 0 rfl rfl rfl (Nat.le_of_ble_eq_true rfl) dX9_readsName_62 rfl (fun H locs h => ?_)
          obtain ⟨t11, et11⟩ : ∃ y : Int32, y = v1 + (1 : Int32) := ⟨_, rfl⟩
          replace hf := lt1_inv et11 hf
          refine lv_iinc (v := t11) (lv' := [(1, .int t11), (0, .ref h_this)]) hx hb dX9_readsName_65 hl (k := 1) rfl (by rw [et11]; rfl) (by decide) rfl (fun ls hl => ?_)
          refine lv_goto (tgt := 39) hx hb dX9_readsName_68 rfl ?_
          exact hK2 _ _ _ _ (ih t11 y_this_at v1 hf) _ _ _ h (lv_sub hl [1, 0] rfl)
  have B31 : ∀ (y_this_at : Int32), f_X9_readsName_b31 x_this_taped x_this_begun f_this_letters f_this_tape y_this_at = some (m_this_at, m_this_token) → K 31 ([] : List Value) [(h_this, ob 9 [.ref h_this_s, .ref h_this_kept, .ref h_this_laid, .int x_this_isKept, .ref h_this_pile, .ref h_this_tape, .int x_this_taped, .ref h_this_letters, .int y_this_at, .int x_this_begun, .int x_this_token, .int x_this_value, .int x_this_opened, .int x_this_steps, .ref h_this_code0, .ref h_this_read, .ref h_this_saved, .ref h_this_plan, .ref h_this_bestPlan, .int x_this_most, .int x_this_many, .int x_this_few, .int x_this_everHome, .ref h_this_offThen, .ref h_this_paidThen, .int x_this_firstFit, .ref h_this_rows, .int x_this_rowMany, .ref h_this_sorts, .ref h_this_sizes, .ref h_this_number, .ref h_this_holds, .ref h_this_heldOne, .ref h_this_trace, .int x_this_traced, .int x_this_own, .int x_this_isParted]), (h_this_letters, ca G 144 f_this_letters), (h_this_tape, ia G 200 f_this_tape)] [(0, .ref h_this)] := by
    intro y_this_at hf
    unfold f_X9_readsName_b31 at hf
    refine hK1 _ _ _ _ (fun H locs ls h hl => ?_)
    refine lv_aload_n hx hb dX9_readsName_31 rfl (lv_at hl 0 rfl) ?_
    refine lv_bipush (v := (101 : Int32)) hx hb dX9_readsName_32 rfl ?_
    refine r_put (ws' := [(h_this, ob 9 [.ref h_this_s, .ref h_this_kept, .ref h_this_laid, .int x_this_isKept, .ref h_this_pile, .ref h_this_tape, .int x_this_taped, .ref h_this_letters, .int y_this_at, .int x_this_begun, .int (101 : Int32), .int x_this_value, .int x_this_opened, .int x_this_steps, .ref h_this_code0, .ref h_this_read, .ref h_this_saved, .ref h_this_plan, .ref h_this_bestPlan, .int x_this_most, .int x_this_many, .int x_this_few, .int x_this_everHome, .ref h_this_offThen, .ref h_this_paidThen, .int x_this_firstFit, .ref h_this_rows, .int x_this_rowMany, .ref h_this_sorts, .ref h_this_sizes, .ref h_this_number, .ref h_this_holds, .ref h_this_heldOne, .ref h_this_trace, .int x_this_traced, .int x_this_own, .int x_this_isParted]), (h_this_letters, ca G 144 f_this_letters), (h_this_tape, ia G 200 f_this_tape)]) C h fw_X9_140 0 rfl rfl rfl (Nat.le_of_ble_eq_true rfl) dX9_readsName_34 rfl (fun H locs h => ?_)
    refine lv_iconst (v := (0 : Int32)) hx hb dX9_readsName_37 rfl ?_
    refine lv_istore_n (lv' := [(1, .int (0 : Int32)), (0, .ref h_this)]) hx hb dX9_readsName_38 rfl hl (by decide) rfl (fun ls hl => ?_)
    exact hK2 _ _ _ _ (L39 1000 (0 : Int32) y_this_at (101 : Int32) hf) _ _ _ h (lv_sub hl [1, 0] rfl)
  have L0 : ∀ (n : Nat) (y_this_at : Int32), f_X9_readsName_L0 x_this_taped x_this_begun f_this_letters f_this_tape n y_this_at = some (m_this_at, m_this_token) → K 0 ([] : List Value) [(h_this, ob 9 [.ref h_this_s, .ref h_this_kept, .ref h_this_laid, .int x_this_isKept, .ref h_this_pile, .ref h_this_tape, .int x_this_taped, .ref h_this_letters, .int y_this_at, .int x_this_begun, .int x_this_token, .int x_this_value, .int x_this_opened, .int x_this_steps, .ref h_this_code0, .ref h_this_read, .ref h_this_saved, .ref h_this_plan, .ref h_this_bestPlan, .int x_this_most, .int x_this_many, .int x_this_few, .int x_this_everHome, .ref h_this_offThen, .ref h_this_paidThen, .int x_this_firstFit, .ref h_this_rows, .int x_this_rowMany, .ref h_this_sorts, .ref h_this_sizes, .ref h_this_number, .ref h_this_holds, .ref h_this_heldOne, .ref h_this_trace, .int x_this_traced, .int x_this_own, .int x_this_isParted]), (h_this_letters, ca G 144 f_this_letters), (h_this_tape, ia G 200 f_this_tape)] [(0, .ref h_this)] := by
    intro n
    induction n with
    | zero =>
      intro y_this_at hf
      replace hf : (none : Option _) = some _ := hf
      cases hf
    | succ n ih =>
      intro y_this_at hf
      rw [f_X9_readsName_L0] at hf
      refine hK1 _ _ _ _ (fun H locs ls h hl => ?_)
      refine lv_aload_n hx hb dX9_readsName_0 rfl (lv_at hl 0 rfl) ?_
      refine lv_aload_n hx hb dX9_readsName_1 rfl (lv_at hl 0 rfl) ?_
      refine r_get C h fk_X9_131 0 rfl rfl dX9_readsName_2 ?_
      replace hf := bd1_inv hf
      obtain ⟨r1, hc2, hf⟩ := hf
      refine r_ciV0 C h (c_X9_byteAt hc2) mv_X9_137 rfl 0 rfl [0, 2] rfl rfl hl.1 rfl (Nat.le_of_ble_eq_true rfl) (rok (by decide)) dX9_readsName_5 (fun H locs h => ?_)
      refine lv_bipush (v := (97 : Int32)) hx hb dX9_readsName_8 rfl ?_
      refine lv_bipush (v := (122 : Int32)) hx hb dX9_readsName_10 rfl ?_
      replace hf := bd1_inv hf
      obtain ⟨r3, hc4, hf⟩ := hf
      refine r_ciS0 C h (c_X9_in1 hc4) ms_X9_71 rfl [] rfl rfl hl.1 rfl (Nat.le_of_ble_eq_true rfl) (rok (by decide)) dX9_readsName_12 (fun H locs h => ?_)
      refine lv_if_eq (tgt := 31) hx hb dX9_readsName_15 rfl (fun c5 => ?_) (fun c5 => ?_)
      · replace hf := ifp c5 hf
        exact hK2 _ _ _ _ (B31 y_this_at hf) _ _ _ h (lv_sub hl [0] rfl)
      · replace hf := ifn c5 hf
        refine lv_aload_n hx hb dX9_readsName_18 rfl (lv_at hl 0 rfl) ?_
        refine lv_dup hx hb dX9_readsName_19 rfl ?_
        refine r_get C h fk_X9_131 0 rfl rfl dX9_readsName_20 ?_
        refine lv_iconst (v := (1 : Int32)) hx hb dX9_readsName_23 rfl ?_
        refine lv_iadd hx hb dX9_readsName_24 ?_
        refine lv_topi (fun t12 et12 => ?_)
        replace hf := lt1_inv et12 hf
        refine r_put (ws' := [(h_this, ob 9 [.ref h_this_s, .ref h_this_kept, .ref h_this_laid, .int x_this_isKept, .ref h_this_pile, .ref h_this_tape, .int x_this_taped, .ref h_this_letters, .int t12, .int x_this_begun, .int x_this_token, .int x_this_value, .int x_this_opened, .int x_this_steps, .ref h_this_code0, .ref h_this_read, .ref h_this_saved, .ref h_this_plan, .ref h_this_bestPlan, .int x_this_most, .int x_this_many, .int x_this_few, .int x_this_everHome, .ref h_this_offThen, .ref h_this_paidThen, .int x_this_firstFit, .ref h_this_rows, .int x_this_rowMany, .ref h_this_sorts, .ref h_this_sizes, .ref h_this_number, .ref h_this_holds, .ref h_this_heldOne, .ref h_this_trace, .int x_this_traced, .int x_this_own, .int x_this_isParted]), (h_this_letters, ca G 144 f_this_letters), (h_this_tape, ia G 200 f_this_tape)]) C h fw_X9_131 0 rfl rfl rfl (Nat.le_of_ble_eq_true rfl) dX9_readsName_25 rfl (fun H locs h => ?_)
        refine lv_goto (tgt := 0) hx hb dX9_readsName_28 rfl ?_
        exact hK2 _ _ _ _ (ih t12 hf) _ _ _ h (lv_sub hl [0] rfl)
  exact hK2 _ _ _ _ (L0 1000 x_this_at hf) _ _ _ h (lv_sub hl [0] rfl)
def f_X9_readsNumber_b79 (x_this_begun : Int32) (y_this_at : Int32) (y_this_value : Int32) : Option (Int32 × Int32 × Int32) := (if (y_this_at - x_this_begun) ≤ (4 : Int32) then some (y_this_at, (100 : Int32), y_this_value) else some (y_this_at, (101 : Int32), y_this_value))
def f_X9_readsNumber_b63 (rec5 : Int32 → Int32 → Option (Int32 × Int32 × Int32)) (s1 : Int32) (y_this_at : Int32) (y_this_value : Int32) : Option (Int32 × Int32 × Int32) := lt1 (y_this_at + (1 : Int32)) (fun (t8 : Int32) => rec5 t8 s1)
def f_X9_readsNumber_L5 (x_this_taped : Int32) (x_this_begun : Int32) (f_this_tape : Nat → Int32) : Nat → Int32 → Int32 → Option (Int32 × Int32 × Int32)
  | 0, _, _ => none
  | n + 1, y_this_at, y_this_value => bd1 (f_X9_byteAt y_this_at x_this_taped f_this_tape) (fun r1 => bd1 (f_X9_in1 r1 (48 : Int32) (57 : Int32)) (fun r3 => (if r3 = 0 then f_X9_readsNumber_b79 x_this_begun y_this_at y_this_value else (if (4 : Int32) ≤ (y_this_at - x_this_begun) then f_X9_readsNumber_b63 (f_X9_readsNumber_L5 x_this_taped x_this_begun f_this_tape n) y_this_value y_this_at y_this_value else bd1 (f_X9_byteAt y_this_at x_this_taped f_this_tape) (fun r9 => f_X9_readsNumber_b63 (f_X9_readsNumber_L5 x_this_taped x_this_begun f_this_tape n) ((((10 : Int32) * y_this_value) + r9) - (48 : Int32)) y_this_at y_this_value)))))
def f_X9_readsNumber (x_this_taped : Int32) (x_this_at : Int32) (x_this_begun : Int32) (f_this_tape : Nat → Int32) : Option (Int32 × Int32 × Int32) := f_X9_readsNumber_L5 x_this_taped x_this_begun f_this_tape 1000 x_this_at (0 : Int32)
set_option maxRecDepth 100000 in
set_option maxHeartbeats 4000000 in
theorem c_X9_readsNumber {l : Launch} {G : Gt} {h_this h_this_s h_this_kept h_this_laid h_this_pile h_this_tape h_this_letters h_this_code0 h_this_read h_this_saved h_this_plan h_this_bestPlan h_this_offThen h_this_paidThen h_this_rows h_this_sorts h_this_sizes h_this_number h_this_holds h_this_heldOne h_this_trace : Nat} {x_this_isKept : Int32} {x_this_taped : Int32} {x_this_at : Int32} {x_this_begun : Int32} {x_this_token : Int32} {x_this_value : Int32} {x_this_opened : Int32} {x_this_steps : Int32} {x_this_most : Int32} {x_this_many : Int32} {x_this_few : Int32} {x_this_everHome : Int32} {x_this_firstFit : Int32} {x_this_rowMany : Int32} {x_this_traced : Int32} {x_this_own : Int32} {x_this_isParted : Int32} {f_this_tape : Nat → Int32} {m_this_at : Int32} {m_this_token : Int32} {m_this_value : Int32} (hf : f_X9_readsNumber x_this_taped x_this_at x_this_begun f_this_tape = some (m_this_at, m_this_token, m_this_value)) : mFv l G yX9_readsNumber cX9_readsNumber 1 1 [.ref h_this] [(h_this, ob 9 [.ref h_this_s, .ref h_this_kept, .ref h_this_laid, .int x_this_isKept, .ref h_this_pile, .ref h_this_tape, .int x_this_taped, .ref h_this_letters, .int x_this_at, .int x_this_begun, .int x_this_token, .int x_this_value, .int x_this_opened, .int x_this_steps, .ref h_this_code0, .ref h_this_read, .ref h_this_saved, .ref h_this_plan, .ref h_this_bestPlan, .int x_this_most, .int x_this_many, .int x_this_few, .int x_this_everHome, .ref h_this_offThen, .ref h_this_paidThen, .int x_this_firstFit, .ref h_this_rows, .int x_this_rowMany, .ref h_this_sorts, .ref h_this_sizes, .ref h_this_number, .ref h_this_holds, .ref h_this_heldOne, .ref h_this_trace, .int x_this_traced, .int x_this_own, .int x_this_isParted]), (h_this_tape, ia G 200 f_this_tape)] [(h_this, ob 9 [.ref h_this_s, .ref h_this_kept, .ref h_this_laid, .int x_this_isKept, .ref h_this_pile, .ref h_this_tape, .int x_this_taped, .ref h_this_letters, .int m_this_at, .int x_this_begun, .int m_this_token, .int m_this_value, .int x_this_opened, .int x_this_steps, .ref h_this_code0, .ref h_this_read, .ref h_this_saved, .ref h_this_plan, .ref h_this_bestPlan, .int x_this_most, .int x_this_many, .int x_this_few, .int x_this_everHome, .ref h_this_offThen, .ref h_this_paidThen, .int x_this_firstFit, .ref h_this_rows, .int x_this_rowMany, .ref h_this_sorts, .ref h_this_sizes, .ref h_this_number, .ref h_this_holds, .ref h_this_heldOne, .ref h_this_trace, .int x_this_traced, .int x_this_own, .int x_this_isParted]), (h_this_tape, ia G 200 f_this_tape)] := by
  refine mFv.of (by decide +kernel) (Nat.le_of_ble_eq_true rfl) ?_
  intro p e s m below meth c A C hr hlk h ls hl
  obtain ⟨hx, hb, hml, hown, hts⟩ := id C
  replace hl : lv_has ls 1 [(0, .ref h_this)] := hl
  unfold f_X9_readsNumber at hf
  refine with_K G A 1 (fun K hK1 hK2 => ?_)
  have B79 : ∀ (y_this_at : Int32) (y_this_value : Int32), f_X9_readsNumber_b79 x_this_begun y_this_at y_this_value = some (m_this_at, m_this_token, m_this_value) → K 79 ([] : List Value) [(h_this, ob 9 [.ref h_this_s, .ref h_this_kept, .ref h_this_laid, .int x_this_isKept, .ref h_this_pile, .ref h_this_tape, .int x_this_taped, .ref h_this_letters, .int y_this_at, .int x_this_begun, .int x_this_token, .int y_this_value, .int x_this_opened, .int x_this_steps, .ref h_this_code0, .ref h_this_read, .ref h_this_saved, .ref h_this_plan, .ref h_this_bestPlan, .int x_this_most, .int x_this_many, .int x_this_few, .int x_this_everHome, .ref h_this_offThen, .ref h_this_paidThen, .int x_this_firstFit, .ref h_this_rows, .int x_this_rowMany, .ref h_this_sorts, .ref h_this_sizes, .ref h_this_number, .ref h_this_holds, .ref h_this_heldOne, .ref h_this_trace, .int x_this_traced, .int x_this_own, .int x_this_isParted]), (h_this_tape, ia G 200 f_this_tape)] [(0, .ref h_this)] := by
    intro y_this_at y_this_value hf
    unfold f_X9_readsNumber_b79 at hf
    refine hK1 _ _ _ _ (fun H locs ls h hl => ?_)
    refine lv_aload_n hx hb dX9_readsNumber_79 rfl (lv_at hl 0 rfl) ?_
    refine lv_aload_n hx hb dX9_readsNumber_80 rfl (lv_at hl 0 rfl) ?_
    refine r_get C h fk_X9_131 0 rfl rfl dX9_readsNumber_81 ?_
    refine lv_aload_n hx hb dX9_readsNumber_84 rfl (lv_at hl 0 rfl) ?_
    refine r_get C h fk_X9_134 0 rfl rfl dX9_readsNumber_85 ?_
    refine lv_isub hx hb dX9_readsNumber_88 ?_
    refine lv_iconst (v := (4 : Int32)) hx hb dX9_readsNumber_89 rfl ?_
    refine lv_icmp_le (tgt := 98) hx hb dX9_readsNumber_90 rfl (fun c6 => ?_) (fun c6 => ?_)
    · replace hf := ifp c6 hf
      refine lv_bipush (v := (100 : Int32)) hx hb dX9_readsNumber_98 rfl ?_
      refine r_put (ws' := [(h_this, ob 9 [.ref h_this_s, .ref h_this_kept, .ref h_this_laid, .int x_this_isKept, .ref h_this_pile, .ref h_this_tape, .int x_this_taped, .ref h_this_letters, .int y_this_at, .int x_this_begun, .int (100 : Int32), .int y_this_value, .int x_this_opened, .int x_this_steps, .ref h_this_code0, .ref h_this_read, .ref h_this_saved, .ref h_this_plan, .ref h_this_bestPlan, .int x_this_most, .int x_this_many, .int x_this_few, .int x_this_everHome, .ref h_this_offThen, .ref h_this_paidThen, .int x_this_firstFit, .ref h_this_rows, .int x_this_rowMany, .ref h_this_sorts, .ref h_this_sizes, .ref h_this_number, .ref h_this_holds, .ref h_this_heldOne, .ref h_this_trace, .int x_this_traced, .int x_this_own, .int x_this_isParted]), (h_this_tape, ia G 200 f_this_tape)]) C h fw_X9_140 0 rfl rfl rfl (Nat.le_of_ble_eq_true rfl) dX9_readsNumber_100 rfl (fun H locs h => ?_)
      cases hf
      exact r_vret C h hr hlk dX9_readsNumber_103
    · replace hf := ifn c6 hf
      refine lv_bipush (v := (101 : Int32)) hx hb dX9_readsNumber_93 rfl ?_
      refine lv_goto (tgt := 100) hx hb dX9_readsNumber_95 rfl ?_
      refine r_put (ws' := [(h_this, ob 9 [.ref h_this_s, .ref h_this_kept, .ref h_this_laid, .int x_this_isKept, .ref h_this_pile, .ref h_this_tape, .int x_this_taped, .ref h_this_letters, .int y_this_at, .int x_this_begun, .int (101 : Int32), .int y_this_value, .int x_this_opened, .int x_this_steps, .ref h_this_code0, .ref h_this_read, .ref h_this_saved, .ref h_this_plan, .ref h_this_bestPlan, .int x_this_most, .int x_this_many, .int x_this_few, .int x_this_everHome, .ref h_this_offThen, .ref h_this_paidThen, .int x_this_firstFit, .ref h_this_rows, .int x_this_rowMany, .ref h_this_sorts, .ref h_this_sizes, .ref h_this_number, .ref h_this_holds, .ref h_this_heldOne, .ref h_this_trace, .int x_this_traced, .int x_this_own, .int x_this_isParted]), (h_this_tape, ia G 200 f_this_tape)]) C h fw_X9_140 0 rfl rfl rfl (Nat.le_of_ble_eq_true rfl) dX9_readsNumber_100 rfl (fun H locs h => ?_)
      cases hf
      exact r_vret C h hr hlk dX9_readsNumber_103
  have B63 : ∀ (rec5 : Int32 → Int32 → Option (Int32 × Int32 × Int32)) (hrec5 : ∀ (y_this_at : Int32) (y_this_value : Int32), rec5 y_this_at y_this_value = some (m_this_at, m_this_token, m_this_value) → K 5 ([] : List Value) [(h_this, ob 9 [.ref h_this_s, .ref h_this_kept, .ref h_this_laid, .int x_this_isKept, .ref h_this_pile, .ref h_this_tape, .int x_this_taped, .ref h_this_letters, .int y_this_at, .int x_this_begun, .int x_this_token, .int y_this_value, .int x_this_opened, .int x_this_steps, .ref h_this_code0, .ref h_this_read, .ref h_this_saved, .ref h_this_plan, .ref h_this_bestPlan, .int x_this_most, .int x_this_many, .int x_this_few, .int x_this_everHome, .ref h_this_offThen, .ref h_this_paidThen, .int x_this_firstFit, .ref h_this_rows, .int x_this_rowMany, .ref h_this_sorts, .ref h_this_sizes, .ref h_this_number, .ref h_this_holds, .ref h_this_heldOne, .ref h_this_trace, .int x_this_traced, .int x_this_own, .int x_this_isParted]), (h_this_tape, ia G 200 f_this_tape)] [(0, .ref h_this)]) (s1 : Int32) (y_this_at : Int32) (y_this_value : Int32), f_X9_readsNumber_b63 rec5 s1 y_this_at y_this_value = some (m_this_at, m_this_token, m_this_value) → K 63 [.int s1, .ref h_this] [(h_this, ob 9 [.ref h_this_s, .ref h_this_kept, .ref h_this_laid, .int x_this_isKept, .ref h_this_pile, .ref h_this_tape, .int x_this_taped, .ref h_this_letters, .int y_this_at, .int x_this_begun, .int x_this_token, .int y_this_value, .int x_this_opened, .int x_this_steps, .ref h_this_code0, .ref h_this_read, .ref h_this_saved, .ref h_this_plan, .ref h_this_bestPlan, .int x_this_most, .int x_this_many, .int x_this_few, .int x_this_everHome, .ref h_this_offThen, .ref h_this_paidThen, .int x_this_firstFit, .ref h_this_rows, .int x_this_rowMany, .ref h_this_sorts, .ref h_this_sizes, .ref h_this_number, .ref h_this_holds, .ref h_this_heldOne, .ref h_this_trace, .int x_this_traced, .int x_this_own, .int x_this_isParted]), (h_this_tape, ia G 200 f_this_tape)] [(0, .ref h_this)] := by
    intro rec5 hrec5 s1 y_this_at y_this_value hf
    unfold f_X9_readsNumber_b63 at hf
    refine hK1 _ _ _ _ (fun H locs ls h hl => ?_)
    refine r_put (ws' := [(h_this, ob 9 [.ref h_this_s, .ref h_this_kept, .ref h_this_laid, .int x_this_isKept, .ref h_this_pile, .ref h_this_tape, .int x_this_taped, .ref h_this_letters, .int y_this_at, .int x_this_begun, .int x_this_token, .int s1, .int x_this_opened, .int x_this_steps, .ref h_this_code0, .ref h_this_read, .ref h_this_saved, .ref h_this_plan, .ref h_this_bestPlan, .int x_this_most, .int x_this_many, .int x_this_few, .int x_this_everHome, .ref h_this_offThen, .ref h_this_paidThen, .int x_this_firstFit, .ref h_this_rows, .int x_this_rowMany, .ref h_this_sorts, .ref h_this_sizes, .ref h_this_number, .ref h_this_holds, .ref h_this_heldOne, .ref h_this_trace, .int x_this_traced, .int x_this_own, .int x_this_isParted]), (h_this_tape, ia G 200 f_this_tape)]) C h fw_X9_146 0 rfl rfl rfl (Nat.le_of_ble_eq_true rfl) dX9_readsNumber_63 rfl (fun H locs h => ?_)
    refine lv_aload_n hx hb dX9_readsNumber_66 rfl (lv_at hl 0 rfl) ?_
    refine lv_dup hx hb dX9_readsNumber_67 rfl ?_
    refine r_get C h fk_X9_131 0 rfl rfl dX9_readsNumber_68 ?_
    refine lv_iconst (v := (1 : Int32)) hx hb dX9_readsNumber_71 rfl ?_
    refine lv_iadd hx hb dX9_readsNumber_72 ?_
    refine lv_topi (fun t8 et8 => ?_)
    replace hf := lt1_inv et8 hf
    refine r_put (ws' := [(h_this, ob 9 [.ref h_this_s, .ref h_this_kept, .ref h_this_laid, .int x_this_isKept, .ref h_this_pile, .ref h_this_tape, .int x_this_taped, .ref h_this_letters, .int t8, .int x_this_begun, .int x_this_token, .int s1, .int x_this_opened, .int x_this_steps, .ref h_this_code0, .ref h_this_read, .ref h_this_saved, .ref h_this_plan, .ref h_this_bestPlan, .int x_this_most, .int x_this_many, .int x_this_few, .int x_this_everHome, .ref h_this_offThen, .ref h_this_paidThen, .int x_this_firstFit, .ref h_this_rows, .int x_this_rowMany, .ref h_this_sorts, .ref h_this_sizes, .ref h_this_number, .ref h_this_holds, .ref h_this_heldOne, .ref h_this_trace, .int x_this_traced, .int x_this_own, .int x_this_isParted]), (h_this_tape, ia G 200 f_this_tape)]) C h fw_X9_131 0 rfl rfl rfl (Nat.le_of_ble_eq_true rfl) dX9_readsNumber_73 rfl (fun H locs h => ?_)
    refine lv_goto (tgt := 5) hx hb dX9_readsNumber_76 rfl ?_
    exact hK2 _ _ _ _ (hrec5 t8 s1 hf) _ _ _ h (lv_sub hl [0] rfl)
  have L5 : ∀ (n : Nat) (y_this_at : Int32) (y_this_value : Int32), f_X9_readsNumber_L5 x_this_taped x_this_begun f_this_tape n y_this_at y_this_value = some (m_this_at, m_this_token, m_this_value) → K 5 ([] : List Value) [(h_this, ob 9 [.ref h_this_s, .ref h_this_kept, .ref h_this_laid, .int x_this_isKept, .ref h_this_pile, .ref h_this_tape, .int x_this_taped, .ref h_this_letters, .int y_this_at, .int x_this_begun, .int x_this_token, .int y_this_value, .int x_this_opened, .int x_this_steps, .ref h_this_code0, .ref h_this_read, .ref h_this_saved, .ref h_this_plan, .ref h_this_bestPlan, .int x_this_most, .int x_this_many, .int x_this_few, .int x_this_everHome, .ref h_this_offThen, .ref h_this_paidThen, .int x_this_firstFit, .ref h_this_rows, .int x_this_rowMany, .ref h_this_sorts, .ref h_this_sizes, .ref h_this_number, .ref h_this_holds, .ref h_this_heldOne, .ref h_this_trace, .int x_this_traced, .int x_this_own, .int x_this_isParted]), (h_this_tape, ia G 200 f_this_tape)] [(0, .ref h_this)] := by
    intro n
    induction n with
    | zero =>
      intro y_this_at y_this_value hf
      replace hf : (none : Option _) = some _ := hf
      cases hf
    | succ n ih =>
      intro y_this_at y_this_value hf
      rw [f_X9_readsNumber_L5] at hf
      refine hK1 _ _ _ _ (fun H locs ls h hl => ?_)
      refine lv_aload_n hx hb dX9_readsNumber_5 rfl (lv_at hl 0 rfl) ?_
      refine lv_aload_n hx hb dX9_readsNumber_6 rfl (lv_at hl 0 rfl) ?_
      refine r_get C h fk_X9_131 0 rfl rfl dX9_readsNumber_7 ?_
      replace hf := bd1_inv hf
      obtain ⟨r1, hc2, hf⟩ := hf
      refine r_ciV0 C h (c_X9_byteAt hc2) mv_X9_137 rfl 0 rfl [0, 1] rfl rfl hl.1 rfl (Nat.le_of_ble_eq_true rfl) (rok (by decide)) dX9_readsNumber_10 (fun H locs h => ?_)
      refine lv_bipush (v := (48 : Int32)) hx hb dX9_readsNumber_13 rfl ?_
      refine lv_bipush (v := (57 : Int32)) hx hb dX9_readsNumber_15 rfl ?_
      replace hf := bd1_inv hf
      obtain ⟨r3, hc4, hf⟩ := hf
      refine r_ciS0 C h (c_X9_in1 hc4) ms_X9_71 rfl [] rfl rfl hl.1 rfl (Nat.le_of_ble_eq_true rfl) (rok (by decide)) dX9_readsNumber_17 (fun H locs h => ?_)
      refine lv_if_eq (tgt := 79) hx hb dX9_readsNumber_20 rfl (fun c5 => ?_) (fun c5 => ?_)
      · replace hf := ifp c5 hf
        exact hK2 _ _ _ _ (B79 y_this_at y_this_value hf) _ _ _ h (lv_sub hl [0] rfl)
      · replace hf := ifn c5 hf
        refine lv_aload_n hx hb dX9_readsNumber_23 rfl (lv_at hl 0 rfl) ?_
        refine lv_aload_n hx hb dX9_readsNumber_24 rfl (lv_at hl 0 rfl) ?_
        refine r_get C h fk_X9_131 0 rfl rfl dX9_readsNumber_25 ?_
        refine lv_aload_n hx hb dX9_readsNumber_28 rfl (lv_at hl 0 rfl) ?_
        refine r_get C h fk_X9_134 0 rfl rfl dX9_readsNumber_29 ?_
        refine lv_isub hx hb dX9_readsNumber_32 ?_
        refine lv_iconst (v := (4 : Int32)) hx hb dX9_readsNumber_33 rfl ?_
        refine lv_icmp_ge (tgt := 59) hx hb dX9_readsNumber_34 rfl (fun c7 => ?_) (fun c7 => ?_)
        · replace hf := ifp c7 hf
          refine lv_aload_n hx hb dX9_readsNumber_59 rfl (lv_at hl 0 rfl) ?_
          refine r_get C h fk_X9_146 0 rfl rfl dX9_readsNumber_60 ?_
          exact hK2 _ _ _ _ (B63 _ ih y_this_value y_this_at y_this_value hf) _ _ _ h (lv_sub hl [0] rfl)
        · replace hf := ifn c7 hf
          refine lv_bipush (v := (10 : Int32)) hx hb dX9_readsNumber_37 rfl ?_
          refine lv_aload_n hx hb dX9_readsNumber_39 rfl (lv_at hl 0 rfl) ?_
          refine r_get C h fk_X9_146 0 rfl rfl dX9_readsNumber_40 ?_
          refine lv_imul hx hb dX9_readsNumber_43 ?_
          refine lv_aload_n hx hb dX9_readsNumber_44 rfl (lv_at hl 0 rfl) ?_
          refine lv_aload_n hx hb dX9_readsNumber_45 rfl (lv_at hl 0 rfl) ?_
          refine r_get C h fk_X9_131 0 rfl rfl dX9_readsNumber_46 ?_
          replace hf := bd1_inv hf
          obtain ⟨r9, hc10, hf⟩ := hf
          refine r_ciV0 C h (c_X9_byteAt hc10) mv_X9_137 rfl 0 rfl [0, 1] rfl rfl hl.1 rfl (Nat.le_of_ble_eq_true rfl) (rok (by decide)) dX9_readsNumber_49 (fun H locs h => ?_)
          refine lv_iadd hx hb dX9_readsNumber_52 ?_
          refine lv_bipush (v := (48 : Int32)) hx hb dX9_readsNumber_53 rfl ?_
          refine lv_isub hx hb dX9_readsNumber_55 ?_
          refine lv_goto (tgt := 63) hx hb dX9_readsNumber_56 rfl ?_
          exact hK2 _ _ _ _ (B63 _ ih ((((10 : Int32) * y_this_value) + r9) - (48 : Int32)) y_this_at y_this_value hf) _ _ _ h (lv_sub hl [0] rfl)
  refine lv_aload_n hx hb dX9_readsNumber_0 rfl (lv_at hl 0 rfl) ?_
  refine lv_iconst (v := (0 : Int32)) hx hb dX9_readsNumber_1 rfl ?_
  refine r_put (ws' := [(h_this, ob 9 [.ref h_this_s, .ref h_this_kept, .ref h_this_laid, .int x_this_isKept, .ref h_this_pile, .ref h_this_tape, .int x_this_taped, .ref h_this_letters, .int x_this_at, .int x_this_begun, .int x_this_token, .int (0 : Int32), .int x_this_opened, .int x_this_steps, .ref h_this_code0, .ref h_this_read, .ref h_this_saved, .ref h_this_plan, .ref h_this_bestPlan, .int x_this_most, .int x_this_many, .int x_this_few, .int x_this_everHome, .ref h_this_offThen, .ref h_this_paidThen, .int x_this_firstFit, .ref h_this_rows, .int x_this_rowMany, .ref h_this_sorts, .ref h_this_sizes, .ref h_this_number, .ref h_this_holds, .ref h_this_heldOne, .ref h_this_trace, .int x_this_traced, .int x_this_own, .int x_this_isParted]), (h_this_tape, ia G 200 f_this_tape)]) C h fw_X9_146 0 rfl rfl rfl (Nat.le_of_ble_eq_true rfl) dX9_readsNumber_2 rfl (fun H locs h => ?_)
  exact hK2 _ _ _ _ (L5 1000 x_this_at (0 : Int32) hf) _ _ _ h (lv_sub hl [0] rfl)
