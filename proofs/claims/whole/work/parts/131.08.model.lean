set_option maxRecDepth 100000 in
set_option maxHeartbeats 4000000 in
theorem c_X9_play {l : Launch} {G : Gt} {h_this h_this_s h_this_kept h_this_laid h_this_pile h_this_tape h_this_letters h_this_code0 h_this_read h_this_saved h_this_plan h_this_bestPlan h_this_offThen h_this_paidThen h_this_rows h_this_sorts h_this_sizes h_this_number h_this_holds h_this_heldOne h_this_trace : Nat} {p0 : Int32} {x_this_isKept : Int32} {x_this_taped : Int32} {x_this_at : Int32} {x_this_begun : Int32} {x_this_token : Int32} {x_this_value : Int32} {x_this_opened : Int32} {x_this_steps : Int32} {x_this_most : Int32} {x_this_many : Int32} {x_this_few : Int32} {x_this_everHome : Int32} {x_this_firstFit : Int32} {x_this_rowMany : Int32} {x_this_traced : Int32} {x_this_own : Int32} {x_this_isParted : Int32} {f_this_pile : Nat → Int32} {f_this_plan : Nat → Int32} {f_this_s : Nat → Int32} {f_this_saved : Nat → Int32} {r : Int32} {m_this_pile : Nat → Int32} {m_this_plan : Nat → Int32} {m_this_s : Nat → Int32} {m_this_saved : Nat → Int32} (hf : f_X9_play p0 f_this_pile f_this_plan f_this_s f_this_saved = some (r, m_this_pile, m_this_plan, m_this_s, m_this_saved)) : mFi l G yX9_play cX9_play 3 .int 43 [.ref h_this, .int p0] [(h_this, ob 9 [.ref h_this_s, .ref h_this_kept, .ref h_this_laid, .int x_this_isKept, .ref h_this_pile, .ref h_this_tape, .int x_this_taped, .ref h_this_letters, .int x_this_at, .int x_this_begun, .int x_this_token, .int x_this_value, .int x_this_opened, .int x_this_steps, .ref h_this_code0, .ref h_this_read, .ref h_this_saved, .ref h_this_plan, .ref h_this_bestPlan, .int x_this_most, .int x_this_many, .int x_this_few, .int x_this_everHome, .ref h_this_offThen, .ref h_this_paidThen, .int x_this_firstFit, .ref h_this_rows, .int x_this_rowMany, .ref h_this_sorts, .ref h_this_sizes, .ref h_this_number, .ref h_this_holds, .ref h_this_heldOne, .ref h_this_trace, .int x_this_traced, .int x_this_own, .int x_this_isParted]), (h_this_pile, ia G 200 f_this_pile), (h_this_plan, ia G 4 f_this_plan), (h_this_s, ia G 313 f_this_s), (h_this_saved, ia G 325 f_this_saved)] r [(h_this, ob 9 [.ref h_this_s, .ref h_this_kept, .ref h_this_laid, .int x_this_isKept, .ref h_this_pile, .ref h_this_tape, .int x_this_taped, .ref h_this_letters, .int x_this_at, .int x_this_begun, .int x_this_token, .int x_this_value, .int x_this_opened, .int x_this_steps, .ref h_this_code0, .ref h_this_read, .ref h_this_saved, .ref h_this_plan, .ref h_this_bestPlan, .int x_this_most, .int x_this_many, .int x_this_few, .int x_this_everHome, .ref h_this_offThen, .ref h_this_paidThen, .int x_this_firstFit, .ref h_this_rows, .int x_this_rowMany, .ref h_this_sorts, .ref h_this_sizes, .ref h_this_number, .ref h_this_holds, .ref h_this_heldOne, .ref h_this_trace, .int x_this_traced, .int x_this_own, .int x_this_isParted]), (h_this_pile, ia G 200 m_this_pile), (h_this_plan, ia G 4 m_this_plan), (h_this_s, ia G 313 m_this_s), (h_this_saved, ia G 325 m_this_saved)] := by
  refine mFi.of (by decide +kernel) (Nat.le_of_ble_eq_true rfl) ?_
  intro p e s m below meth c A C hr hlk h ls hl
  obtain ⟨hx, hb, hml, hown, hts⟩ := id C
  replace hl : lv_has ls 3 [(0, .ref h_this), (1, .int p0)] := hl
  unfold f_X9_play at hf
  refine lv_iload_n hx hb dX9_play_0 rfl (lv_at hl 1 rfl) ?_
  refine lv_iconst (v := (1 : Int32)) hx hb dX9_play_1 rfl ?_
  refine lv_iconst (v := (4 : Int32)) hx hb dX9_play_2 rfl ?_
  replace hf := bd1_inv hf
  obtain ⟨r1, hc2, hf⟩ := hf
  refine r_ciS0 C h (c_X9_in1 hc2) ms_X9_71 rfl [] rfl rfl hl.1 rfl (Nat.le_of_ble_eq_true rfl) (rok (by decide)) dX9_play_3 (fun H locs h => ?_)
  refine lv_if_ne (tgt := 11) hx hb dX9_play_6 rfl (fun c3 => ?_) (fun c3 => ?_)
  · replace hf := ifn c3 hf
    refine lv_aload_n hx hb dX9_play_11 rfl (lv_at hl 0 rfl) ?_
    replace hf := bd1_inv hf
    obtain ⟨r4, hc5, hf⟩ := hf
    refine r_ciV0 C h (c_X9_isOver hc5) mv_X9_232 rfl 0 rfl [0, 3] rfl rfl hl.1 rfl (Nat.le_of_ble_eq_true rfl) (rok (by decide)) dX9_play_12 (fun H locs h => ?_)
    refine lv_if_eq (tgt := 21) hx hb dX9_play_15 rfl (fun c6 => ?_) (fun c6 => ?_)
    · replace hf := ifp c6 hf
      refine lv_aload_n hx hb dX9_play_21 rfl (lv_at hl 0 rfl) ?_
      refine lv_iconst (v := (0 : Int32)) hx hb dX9_play_22 rfl ?_
      refine lv_aload_n hx hb dX9_play_23 rfl (lv_at hl 0 rfl) ?_
      refine lv_iload_n hx hb dX9_play_24 rfl (lv_at hl 1 rfl) ?_
      replace hf := bd1_inv hf
      obtain ⟨r7, hc8, hf⟩ := hf
      refine r_ciV0 C h (c_X9_daysOf hc8) mv_X9_288 rfl 0 rfl [0, 3] rfl rfl hl.1 rfl (Nat.le_of_ble_eq_true rfl) (rok (by decide)) dX9_play_25 (fun H locs h => ?_)
      replace hf := bd5_inv hf
      obtain ⟨r9, g10, g11, g12, g13, hc14, hf⟩ := hf
      refine r_ciV (ws' := [(h_this, ob 9 [.ref h_this_s, .ref h_this_kept, .ref h_this_laid, .int x_this_isKept, .ref h_this_pile, .ref h_this_tape, .int x_this_taped, .ref h_this_letters, .int x_this_at, .int x_this_begun, .int x_this_token, .int x_this_value, .int x_this_opened, .int x_this_steps, .ref h_this_code0, .ref h_this_read, .ref h_this_saved, .ref h_this_plan, .ref h_this_bestPlan, .int x_this_most, .int x_this_many, .int x_this_few, .int x_this_everHome, .ref h_this_offThen, .ref h_this_paidThen, .int x_this_firstFit, .ref h_this_rows, .int x_this_rowMany, .ref h_this_sorts, .ref h_this_sizes, .ref h_this_number, .ref h_this_holds, .ref h_this_heldOne, .ref h_this_trace, .int x_this_traced, .int x_this_own, .int x_this_isParted]), (h_this_pile, ia G 200 g10), (h_this_plan, ia G 4 g11), (h_this_s, ia G 313 g12), (h_this_saved, ia G 325 g13)]) C h (C_X9_playedFrom 6 hc14) mv_X9_301 rfl 0 rfl [0, 1, 2, 3, 4] rfl rfl [1, 2, 3, 4] [(h_this_pile, ia G 200 g10), (h_this_plan, ia G 4 g11), (h_this_s, ia G 313 g12), (h_this_saved, ia G 325 g13)] rfl rfl (by decide +kernel) rfl hl.1 rfl (Nat.le_of_ble_eq_true rfl) (rok (by decide)) dX9_play_28 (fun H locs h => ?_)
      refine lv_istore_n (lv' := [(2, .int r9), (0, .ref h_this), (1, .int p0)]) hx hb dX9_play_31 rfl hl (by decide) rfl (fun ls hl => ?_)
      refine lv_iload_n hx hb dX9_play_32 rfl (lv_at hl 0 rfl) ?_
      refine lv_if_ge (tgt := 41) hx hb dX9_play_33 rfl (fun c15 => ?_) (fun c15 => ?_)
      · replace hf := ifp c15 hf
        refine lv_aload_n hx hb dX9_play_41 rfl (lv_at hl 1 rfl) ?_
        refine r_get C h fk_X9_38 0 rfl rfl dX9_play_42 ?_
        refine lv_iconst (v := (0 : Int32)) hx hb dX9_play_45 rfl ?_
        refine r_ialdL C h 2 rfl (vlit rfl) 0 rfl dX9_play_46 ?_
        cases hf
        exact r_iret C h hr hlk rfl dX9_play_47
      · replace hf := ifn c15 hf
        refine lv_bipush (v := (-3 : Int32)) hx hb dX9_play_36 rfl ?_
        refine lv_goto (tgt := 47) hx hb dX9_play_38 rfl ?_
        cases hf
        exact r_iret C h hr hlk rfl dX9_play_47
    · replace hf := ifn c6 hf
      refine lv_bipush (v := (-3 : Int32)) hx hb dX9_play_18 rfl ?_
      cases hf
      exact r_iret C h hr hlk rfl dX9_play_20
  · replace hf := ifp c3 hf
    refine lv_iconst (v := (-1 : Int32)) hx hb dX9_play_9 rfl ?_
    cases hf
    exact r_iret C h hr hlk rfl dX9_play_10
