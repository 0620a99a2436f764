set_option maxRecDepth 100000 in
set_option maxHeartbeats 4000000 in
theorem c_X9_game {l : Launch} {G : Gt} {h_this h_this_s h_this_kept h_this_laid h_this_pile h_this_tape h_this_letters h_this_code0 h_this_read h_this_saved h_this_plan h_this_bestPlan h_this_offThen h_this_paidThen h_this_rows h_this_sorts h_this_sizes h_this_number h_this_holds h_this_heldOne h_this_trace : Nat} {p0 : Int32} {x_this_isKept : Int32} {x_this_taped : Int32} {x_this_at : Int32} {x_this_begun : Int32} {x_this_token : Int32} {x_this_value : Int32} {x_this_opened : Int32} {x_this_steps : Int32} {x_this_most : Int32} {x_this_many : Int32} {x_this_few : Int32} {x_this_everHome : Int32} {x_this_firstFit : Int32} {x_this_rowMany : Int32} {x_this_traced : Int32} {x_this_own : Int32} {x_this_isParted : Int32} {f_this_pile : Nat → Int32} {f_this_plan : Nat → Int32} {f_this_s : Nat → Int32} {f_this_saved : Nat → Int32} {r : Int32} {m_this_pile : Nat → Int32} {m_this_plan : Nat → Int32} {m_this_s : Nat → Int32} {m_this_saved : Nat → Int32} (hf : f_X9_game p0 f_this_pile f_this_plan f_this_s f_this_saved = some (r, m_this_pile, m_this_plan, m_this_s, m_this_saved)) : mFi l G yX9_game cX9_game 2 .int 43 [.ref h_this, .int p0] [(h_this, ob 9 [.ref h_this_s, .ref h_this_kept, .ref h_this_laid, .int x_this_isKept, .ref h_this_pile, .ref h_this_tape, .int x_this_taped, .ref h_this_letters, .int x_this_at, .int x_this_begun, .int x_this_token, .int x_this_value, .int x_this_opened, .int x_this_steps, .ref h_this_code0, .ref h_this_read, .ref h_this_saved, .ref h_this_plan, .ref h_this_bestPlan, .int x_this_most, .int x_this_many, .int x_this_few, .int x_this_everHome, .ref h_this_offThen, .ref h_this_paidThen, .int x_this_firstFit, .ref h_this_rows, .int x_this_rowMany, .ref h_this_sorts, .ref h_this_sizes, .ref h_this_number, .ref h_this_holds, .ref h_this_heldOne, .ref h_this_trace, .int x_this_traced, .int x_this_own, .int x_this_isParted]), (h_this_pile, ia G 200 f_this_pile), (h_this_plan, ia G 4 f_this_plan), (h_this_s, ia G 313 f_this_s), (h_this_saved, ia G 325 f_this_saved)] r [(h_this, ob 9 [.ref h_this_s, .ref h_this_kept, .ref h_this_laid, .int x_this_isKept, .ref h_this_pile, .ref h_this_tape, .int x_this_taped, .ref h_this_letters, .int x_this_at, .int x_this_begun, .int x_this_token, .int x_this_value, .int x_this_opened, .int x_this_steps, .ref h_this_code0, .ref h_this_read, .ref h_this_saved, .ref h_this_plan, .ref h_this_bestPlan, .int x_this_most, .int x_this_many, .int x_this_few, .int x_this_everHome, .ref h_this_offThen, .ref h_this_paidThen, .int x_this_firstFit, .ref h_this_rows, .int x_this_rowMany, .ref h_this_sorts, .ref h_this_sizes, .ref h_this_number, .ref h_this_holds, .ref h_this_heldOne, .ref h_this_trace, .int x_this_traced, .int x_this_own, .int x_this_isParted]), (h_this_pile, ia G 200 m_this_pile), (h_this_plan, ia G 4 m_this_plan), (h_this_s, ia G 313 m_this_s), (h_this_saved, ia G 325 m_this_saved)] := by
  refine mFi.of (by decide +kernel) (Nat.le_of_ble_eq_true rfl) ?_
  intro p e s m below meth c A C hr hlk h ls hl
  obtain ⟨hx, hb, hml, hown, hts⟩ := id C
  replace hl : lv_has ls 2 [(0, .ref h_this), (1, .int p0)] := hl
  unfold f_X9_game at hf
  refine lv_iload_n hx hb dX9_game_0 rfl (lv_at hl 1 rfl) ?_
  refine lv_iconst (v := (1 : Int32)) hx hb dX9_game_1 rfl ?_
  refine lv_iconst (v := (4 : Int32)) hx hb dX9_game_2 rfl ?_
  replace hf := bd1_inv hf
  obtain ⟨r1, hc2, hf⟩ := hf
  refine r_ciS0 C h (c_X9_in1 hc2) ms_X9_71 rfl [] rfl rfl hl.1 rfl (Nat.le_of_ble_eq_true rfl) (rok (by decide)) dX9_game_3 (fun H locs h => ?_)
  refine lv_if_eq (tgt := 22) hx hb dX9_game_6 rfl (fun c3 => ?_) (fun c3 => ?_)
  · replace hf := ifp c3 hf
    refine lv_iconst (v := (-1 : Int32)) hx hb dX9_game_22 rfl ?_
    cases hf
    exact r_iret C h hr hlk rfl dX9_game_23
  · replace hf := ifn c3 hf
    refine lv_aload_n hx hb dX9_game_9 rfl (lv_at hl 0 rfl) ?_
    refine lv_iconst (v := (0 : Int32)) hx hb dX9_game_10 rfl ?_
    refine lv_aload_n hx hb dX9_game_11 rfl (lv_at hl 0 rfl) ?_
    refine lv_iload_n hx hb dX9_game_12 rfl (lv_at hl 1 rfl) ?_
    replace hf := bd1_inv hf
    obtain ⟨r4, hc5, hf⟩ := hf
    refine r_ciV0 C h (c_X9_daysOf hc5) mv_X9_288 rfl 0 rfl [0, 3] rfl rfl hl.1 rfl (Nat.le_of_ble_eq_true rfl) (rok (by decide)) dX9_game_13 (fun H locs h => ?_)
    replace hf := bd5_inv hf
    obtain ⟨r6, g7, g8, g9, g10, hc11, hf⟩ := hf
    refine r_ciV (ws' := [(h_this, ob 9 [.ref h_this_s, .ref h_this_kept, .ref h_this_laid, .int x_this_isKept, .ref h_this_pile, .ref h_this_tape, .int x_this_taped, .ref h_this_letters, .int x_this_at, .int x_this_begun, .int x_this_token, .int x_this_value, .int x_this_opened, .int x_this_steps, .ref h_this_code0, .ref h_this_read, .ref h_this_saved, .ref h_this_plan, .ref h_this_bestPlan, .int x_this_most, .int x_this_many, .int x_this_few, .int x_this_everHome, .ref h_this_offThen, .ref h_this_paidThen, .int x_this_firstFit, .ref h_this_rows, .int x_this_rowMany, .ref h_this_sorts, .ref h_this_sizes, .ref h_this_number, .ref h_this_holds, .ref h_this_heldOne, .ref h_this_trace, .int x_this_traced, .int x_this_own, .int x_this_isParted]), (h_this_pile, ia G 200 g7), (h_this_plan, ia G 4 g8), (h_this_s, ia G 313 g9), (h_this_saved, ia G 325 g10)]) C h (C_X9_playedFrom 6 hc11) mv_X9_301 rfl 0 rfl [0, 1, 2, 3, 4] rfl rfl [1, 2, 3, 4] [(h_this_pile, ia G 200 g7), (h_this_plan, ia G 4 g8), (h_this_s, ia G 313 g9), (h_this_saved, ia G 325 g10)] rfl rfl (by decide +kernel) rfl hl.1 rfl (Nat.le_of_ble_eq_true rfl) (rok (by decide)) dX9_game_16 (fun H locs h => ?_)
    refine lv_goto (tgt := 23) hx hb dX9_game_19 rfl ?_
    cases hf
    exact r_iret C h hr hlk rfl dX9_game_23
