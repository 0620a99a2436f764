set_option maxRecDepth 100000 in
set_option maxHeartbeats 4000000 in
theorem c_J7_fill_53178 {l : Launch} {G : Gt} {h_a0 : Nat} {p1 : Int32} {n_a0 : Nat} {f_a0 : Nat → Int32} {m_a0 : Nat → Int32} (hf : f_J7_fill_53178 p1 n_a0 f_a0 = some m_a0) : mFv l G yJ7_fill_53178 cJ7_fill_53178 4 0 [.ref h_a0, .int p1] [(h_a0, ia G n_a0 f_a0)] [(h_a0, ia G n_a0 m_a0)] := by
  refine mFv.of (by decide +kernel) (Nat.le_of_ble_eq_true rfl) ?_
  intro p e s m below meth c A C hr hlk h ls hl
  obtain ⟨hx, hb, hml, hown, hts⟩ := id C
  replace hl : lv_has ls 4 [(0, .ref h_a0), (1, .int p1)] := hl
  unfold f_J7_fill_53178 at hf
  refine with_K G A 4 (fun K hK1 hK2 => ?_)
  have L5 : ∀ (n : Nat) (v2 : Int32) (v3 : Int32) (g_a0 : Nat → Int32), f_J7_fill_53178_L5 p1 n_a0 n v2 v3 g_a0 = some m_a0 → K 5 ([] : List Value) [(h_a0, ia G n_a0 g_a0)] [(0, .ref h_a0), (1, .int p1), (2, .int v2), (3, .int v3)] := by
    intro n
    induction n with
    | zero =>
      intro v2 v3 g_a0 hf
      replace hf : (none : Option _) = some _ := hf
      cases hf
    | succ n ih =>
      intro v2 v3 g_a0 hf
      rw [f_J7_fill_53178_L5] at hf
      refine hK1 _ _ _ _ (fun H locs ls h hl => ?_)
      refine lv_iload_n hx hb dJ7_fill_53178_5 rfl (lv_at hl 2 rfl) ?_
      refine lv_iload_n hx hb dJ7_fill_53178_6 rfl (lv_at hl 3 rfl) ?_
      refine lv_icmp_ge (tgt := 20) hx hb dJ7_fill_53178_7 rfl (fun c2 => ?_) (fun c2 => ?_)
      · replace hf := ifp c2 hf
        cases hf
        exact r_vret C h hr hlk dJ7_fill_53178_20
      · replace hf := ifn c2 hf
        refine lv_aload_n hx hb dJ7_fill_53178_10 rfl (lv_at hl 0 rfl) ?_
        refine lv_iload_n hx hb dJ7_fill_53178_11 rfl (lv_at hl 2 rfl) ?_
        refine lv_iload_n hx hb dJ7_fill_53178_12 rfl (lv_at hl 1 rfl) ?_
        replace hf := chkI_inv hf
        obtain ⟨hi3, hf⟩ := hf
        refine r_iast (ws' := [(h_a0, ia G n_a0 (upd g_a0 v2.toNatClampNeg p1))]) C h 0 rfl hi3 dJ7_fill_53178_13 rfl (fun H locs h => ?_)
        obtain ⟨t4, et4⟩ : ∃ y : Int32, y = v2 + (1 : Int32) := ⟨_, rfl⟩
        replace hf := lt1_inv et4 hf
        refine lv_iinc (v := t4) (lv' := [(2, .int t4), (0, .ref h_a0), (1, .int p1), (3, .int v3)]) hx hb dJ7_fill_53178_14 hl (k := 2) rfl (by rw [et4]; rfl) (by decide) rfl (fun ls hl => ?_)
        refine lv_goto (tgt := 5) hx hb dJ7_fill_53178_17 rfl ?_
        exact hK2 _ _ _ _ (ih t4 v3 (upd g_a0 v2.toNatClampNeg p1) hf) _ _ _ h (lv_sub hl [1, 2, 0, 3] rfl)
  refine lv_iconst (v := (0 : Int32)) hx hb dJ7_fill_53178_0 rfl ?_
  refine lv_istore_n (lv' := [(2, .int (0 : Int32)), (0, .ref h_a0), (1, .int p1)]) hx hb dJ7_fill_53178_1 rfl hl (by decide) rfl (fun ls hl => ?_)
  refine lv_aload_n hx hb dJ7_fill_53178_2 rfl (lv_at hl 1 rfl) ?_
  refine r_alen C h 0 rfl dJ7_fill_53178_3 ?_
  refine lv_topi (fun t1 et1 => ?_)
  replace hf := lt1_inv et1 hf
  refine lv_istore_n (lv' := [(3, .int t1), (2, .int (0 : Int32)), (0, .ref h_a0), (1, .int p1)]) hx hb dJ7_fill_53178_4 rfl hl (by decide) rfl (fun ls hl => ?_)
  exact hK2 _ _ _ _ (L5 1000 (0 : Int32) t1 f_a0 hf) _ _ _ h (lv_sub hl [2, 3, 1, 0] rfl)
