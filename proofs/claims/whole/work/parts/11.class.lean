def f_X4_advance_b102 (n_a0 : Nat) (f_a0 : Nat → Int32) (x_this_numeral : Int32) (y_this_tokenAt : Int32) (y_this_place : Int32) : Option (Int32 × Int32 × Int32 × Int32) := bd1 (f_X4_wordOf y_this_tokenAt (y_this_place - y_this_tokenAt) n_a0 f_a0) (fun r19 => some (r19, y_this_tokenAt, x_this_numeral, y_this_place))
def f_X4_advance_L69 (p1 : Int32) (n_a0 : Nat) (f_a0 : Nat → Int32) (x_this_numeral : Int32) : Nat → Int32 → Int32 → Option (Int32 × Int32 × Int32 × Int32)
  | 0, _, _ => none
  | n + 1, y_this_tokenAt, y_this_place => (if p1 ≤ y_this_place then f_X4_advance_b102 n_a0 f_a0 x_this_numeral y_this_tokenAt y_this_place else chkI y_this_place n_a0 (bd1 (f_X4_isLetter (f_a0 y_this_place.toNatClampNeg)) (fun r22 => (if r22 = 0 then f_X4_advance_b102 n_a0 f_a0 x_this_numeral y_this_tokenAt y_this_place else lt1 (y_this_place + (1 : Int32)) (fun (t25 : Int32) => (f_X4_advance_L69 p1 n_a0 f_a0 x_this_numeral n) y_this_tokenAt t25)))))
def f_X4_advance_b32 (p1 : Int32) (n_a0 : Nat) (f_a0 : Nat → Int32) (x_this_numeral : Int32) (y_this_place : Int32) : Option (Int32 × Int32 × Int32 × Int32) := (if y_this_place < p1 then chkI y_this_place n_a0 (bd1 (f_X4_isLetter (f_a0 y_this_place.toNatClampNeg)) (fun r4 => (if r4 = 0 then chkI y_this_place n_a0 (bd1 (f_X4_isDigit (f_a0 y_this_place.toNatClampNeg)) (fun r8 => (if r8 = 0 then chkI y_this_place n_a0 (lt1 ((256 : Int32) + (f_a0 y_this_place.toNatClampNeg)) (fun (t12 : Int32) => lt1 (y_this_place + (1 : Int32)) (fun (t13 : Int32) => some (t12, y_this_place, x_this_numeral, t13)))) else bd3 (f_X4_advanceDigits p1 n_a0 f_a0 y_this_place y_this_place) (fun y14 y15 y16 => some (y14, y_this_place, y15, y16))))) else f_X4_advance_L69 p1 n_a0 f_a0 x_this_numeral 1000 y_this_place y_this_place))) else some ((19 : Int32), y_this_place, x_this_numeral, y_this_place))
def f_X4_advance_L0 (p1 : Int32) (n_a0 : Nat) (f_a0 : Nat → Int32) (x_this_numeral : Int32) : Nat → Int32 → Option (Int32 × Int32 × Int32 × Int32)
  | 0, _ => none
  | n + 1, y_this_place => (if p1 ≤ y_this_place then f_X4_advance_b32 p1 n_a0 f_a0 x_this_numeral y_this_place else chkI y_this_place n_a0 ((if (f_a0 y_this_place.toNatClampNeg) = (32 : Int32) then lt1 (y_this_place + (1 : Int32)) (fun (t28 : Int32) => (f_X4_advance_L0 p1 n_a0 f_a0 x_this_numeral n) t28) else f_X4_advance_b32 p1 n_a0 f_a0 x_this_numeral y_this_place)))
def f_X4_advance (p1 : Int32) (n_a0 : Nat) (f_a0 : Nat → Int32) (x_this_numeral : Int32) (x_this_place : Int32) : Option (Int32 × Int32 × Int32 × Int32) := f_X4_advance_L0 p1 n_a0 f_a0 x_this_numeral 1000 x_this_place
set_option maxRecDepth 100000 in
set_option maxHeartbeats 4000000 in
theorem c_X4_advance {l : Launch} {G : Gt} {h_a0 h_this h_this_waiting : Nat} {p1 : Int32} {n_a0 : Nat} {f_a0 : Nat → Int32} {x_this_waitingCount : Int32} {x_this_open : Int32} {x_this_expected : Int32} {x_this_kind : Int32} {x_this_left : Int32} {x_this_sign : Int32} {x_this_token : Int32} {x_this_tokenAt : Int32} {x_this_numeral : Int32} {x_this_place : Int32} {m_this_token : Int32} {m_this_tokenAt : Int32} {m_this_numeral : Int32} {m_this_place : Int32} (hf : f_X4_advance p1 n_a0 f_a0 x_this_numeral x_this_place = some (m_this_token, m_this_tokenAt, m_this_numeral, m_this_place)) : mFv l G yX4_advance cX4_advance 3 10 [.ref h_this, .ref h_a0, .int p1] [(h_a0, ia G n_a0 f_a0), (h_this, ob 4 [.ref h_this_waiting, .int x_this_waitingCount, .int x_this_open, .int x_this_expected, .int x_this_kind, .int x_this_left, .int x_this_sign, .int x_this_token, .int x_this_tokenAt, .int x_this_numeral, .int x_this_place])] [(h_a0, ia G n_a0 f_a0), (h_this, ob 4 [.ref h_this_waiting, .int x_this_waitingCount, .int x_this_open, .int x_this_expected, .int x_this_kind, .int x_this_left, .int x_this_sign, .int m_this_token, .int m_this_tokenAt, .int m_this_numeral, .int m_this_place])] := by
  refine mFv.of (by decide +kernel) (Nat.le_of_ble_eq_true rfl) ?_
  intro p e s m below meth c A C hr hlk h ls hl
  obtain ⟨hx, hb, hml, hown, hts⟩ := id C
  replace hl : lv_has ls 3 [(0, .ref h_this), (1, .ref h_a0), (2, .int p1)] := hl
  unfold f_X4_advance at hf
  refine with_K G A 3 (fun K hK1 hK2 => ?_)
  have B102 : ∀ (y_this_tokenAt : Int32) (y_this_place : Int32), f_X4_advance_b102 n_a0 f_a0 x_this_numeral y_this_tokenAt y_this_place = some (m_this_token, m_this_tokenAt, m_this_numeral, m_this_place) → K 102 ([] : List Value) [(h_a0, ia G n_a0 f_a0), (h_this, ob 4 [.ref h_this_waiting, .int x_this_waitingCount, .int x_this_open, .int x_this_expected, .int x_this_kind, .int x_this_left, .int x_this_sign, .int x_this_token, .int y_this_tokenAt, .int x_this_numeral, .int y_this_place])] [(0, .ref h_this), (1, .ref h_a0)] := by
    intro y_this_tokenAt y_this_place hf
    unfold f_X4_advance_b102 at hf
    refine hK1 _ _ _ _ (fun H locs ls h hl => ?_)
    refine lv_aload_n hx hb dX4_advance_102 rfl (lv_at hl 0 rfl) ?_
    refine lv_aload_n hx hb dX4_advance_103 rfl (lv_at hl 1 rfl) ?_
    refine lv_aload_n hx hb dX4_advance_104 rfl (lv_at hl 0 rfl) ?_
    refine r_get C h fk_X4_37 1 rfl rfl dX4_advance_105 ?_
    refine lv_aload_n hx hb dX4_advance_108 rfl (lv_at hl 0 rfl) ?_
    refine r_get C h fk_X4_43 1 rfl rfl dX4_advance_109 ?_
    refine lv_aload_n hx hb dX4_advance_112 rfl (lv_at hl 0 rfl) ?_
    refine r_get C h fk_X4_37 1 rfl rfl dX4_advance_113 ?_
    refine lv_isub hx hb dX4_advance_116 ?_
    replace hf := bd1_inv hf
    obtain ⟨r19, hc20, hf⟩ := hf
    refine r_ciS0 C h (c_X4_wordOf hc20) ms_X4_63 rfl [0] rfl rfl hl.1 rfl (Nat.le_of_ble_eq_true rfl) (rok (by decide)) dX4_advance_117 (fun H locs h => ?_)
    refine r_put (ws' := [(h_a0, ia G n_a0 f_a0), (h_this, ob 4 [.ref h_this_waiting, .int x_this_waitingCount, .int x_this_open, .int x_this_expected, .int x_this_kind, .int x_this_left, .int x_this_sign, .int r19, .int y_this_tokenAt, .int x_this_numeral, .int y_this_place])]) C h fw_X4_34 1 rfl rfl rfl (Nat.le_of_ble_eq_true rfl) dX4_advance_120 rfl (fun H locs h => ?_)
    refine lv_goto (tgt := 171) hx hb dX4_advance_123 rfl ?_
    cases hf
    exact r_vret C h hr hlk dX4_advance_171
  have L69 : ∀ (n : Nat) (y_this_tokenAt : Int32) (y_this_place : Int32), f_X4_advance_L69 p1 n_a0 f_a0 x_this_numeral n y_this_tokenAt y_this_place = some (m_this_token, m_this_tokenAt, m_this_numeral, m_this_place) → K 69 ([] : List Value) [(h_a0, ia G n_a0 f_a0), (h_this, ob 4 [.ref h_this_waiting, .int x_this_waitingCount, .int x_this_open, .int x_this_expected, .int x_this_kind, .int x_this_left, .int x_this_sign, .int x_this_token, .int y_this_tokenAt, .int x_this_numeral, .int y_this_place])] [(0, .ref h_this), (1, .ref h_a0), (2, .int p1)] := by
    intro n
    induction n with
    | zero =>
      intro y_this_tokenAt y_this_place hf
      replace hf : (none : Option _) = some _ := hf
      cases hf
    | succ n ih =>
      intro y_this_tokenAt y_this_place hf
      rw [f_X4_advance_L69] at hf
      refine hK1 _ _ _ _ (fun H locs ls h hl => ?_)
      refine lv_aload_n hx hb dX4_advance_69 rfl (lv_at hl 0 rfl) ?_
      refine r_get C h fk_X4_43 1 rfl rfl dX4_advance_70 ?_
      refine lv_iload_n hx hb dX4_advance_73 rfl (lv_at hl 2 rfl) ?_
      refine lv_icmp_ge (tgt := 102) hx hb dX4_advance_74 rfl (fun c18 => ?_) (fun c18 => ?_)
      · replace hf := ifp c18 hf
        exact hK2 _ _ _ _ (B102 y_this_tokenAt y_this_place hf) _ _ _ h (lv_sub hl [0, 1] rfl)
      · replace hf := ifn c18 hf
        refine lv_aload_n hx hb dX4_advance_77 rfl (lv_at hl 1 rfl) ?_
        refine lv_aload_n hx hb dX4_advance_78 rfl (lv_at hl 0 rfl) ?_
        refine r_get C h fk_X4_43 1 rfl rfl dX4_advance_79 ?_
        replace hf := chkI_inv hf
        obtain ⟨hi21, hf⟩ := hf
        refine r_iald C h 0 rfl hi21 dX4_advance_82 ?_
        replace hf := bd1_inv hf
        obtain ⟨r22, hc23, hf⟩ := hf
        refine r_ciS0 C h (c_X4_isLetter hc23) ms_X4_59 rfl [] rfl rfl hl.1 rfl (Nat.le_of_ble_eq_true rfl) (rok (by decide)) dX4_advance_83 (fun H locs h => ?_)
        refine lv_if_eq (tgt := 102) hx hb dX4_advance_86 rfl (fun c24 => ?_) (fun c24 => ?_)
        · replace hf := ifp c24 hf
          exact hK2 _ _ _ _ (B102 y_this_tokenAt y_this_place hf) _ _ _ h (lv_sub hl [0, 1] rfl)
        · replace hf := ifn c24 hf
          refine lv_aload_n hx hb dX4_advance_89 rfl (lv_at hl 0 rfl) ?_
          refine lv_dup hx hb dX4_advance_90 rfl ?_
          refine r_get C h fk_X4_43 1 rfl rfl dX4_advance_91 ?_
          refine lv_iconst (v := (1 : Int32)) hx hb dX4_advance_94 rfl ?_
          refine lv_iadd hx hb dX4_advance_95 ?_
          refine lv_topi (fun t25 et25 => ?_)
          replace hf := lt1_inv et25 hf
          refine r_put (ws' := [(h_a0, ia G n_a0 f_a0), (h_this, ob 4 [.ref h_this_waiting, .int x_this_waitingCount, .int x_this_open, .int x_this_expected, .int x_this_kind, .int x_this_left, .int x_this_sign, .int x_this_token, .int y_this_tokenAt, .int x_this_numeral, .int t25])]) C h fw_X4_43 1 rfl rfl rfl (Nat.le_of_ble_eq_true rfl) dX4_advance_96 rfl (fun H locs h => ?_)
          refine lv_goto (tgt := 69) hx hb dX4_advance_99 rfl ?_
          exact hK2 _ _ _ _ (ih y_this_tokenAt t25 hf) _ _ _ h (lv_sub hl [0, 1, 2] rfl)
  have B32 : ∀ (y_this_place : Int32), f_X4_advance_b32 p1 n_a0 f_a0 x_this_numeral y_this_place = some (m_this_token, m_this_tokenAt, m_this_numeral, m_this_place) → K 32 ([] : List Value) [(h_a0, ia G n_a0 f_a0), (h_this, ob 4 [.ref h_this_waiting, .int x_this_waitingCount, .int x_this_open, .int x_this_expected, .int x_this_kind, .int x_this_left, .int x_this_sign, .int x_this_token, .int x_this_tokenAt, .int x_this_numeral, .int y_this_place])] [(0, .ref h_this), (1, .ref h_a0), (2, .int p1)] := by
    intro y_this_place hf
    unfold f_X4_advance_b32 at hf
    refine hK1 _ _ _ _ (fun H locs ls h hl => ?_)
    refine lv_aload_n hx hb dX4_advance_32 rfl (lv_at hl 0 rfl) ?_
    refine lv_aload_n hx hb dX4_advance_33 rfl (lv_at hl 0 rfl) ?_
    refine r_get C h fk_X4_43 1 rfl rfl dX4_advance_34 ?_
    refine r_put (ws' := [(h_a0, ia G n_a0 f_a0), (h_this, ob 4 [.ref h_this_waiting, .int x_this_waitingCount, .int x_this_open, .int x_this_expected, .int x_this_kind, .int x_this_left, .int x_this_sign, .int x_this_token, .int y_this_place, .int x_this_numeral, .int y_this_place])]) C h fw_X4_37 1 rfl rfl rfl (Nat.le_of_ble_eq_true rfl) dX4_advance_37 rfl (fun H locs h => ?_)
    refine lv_aload_n hx hb dX4_advance_40 rfl (lv_at hl 0 rfl) ?_
    refine r_get C h fk_X4_43 1 rfl rfl dX4_advance_41 ?_
    refine lv_iload_n hx hb dX4_advance_44 rfl (lv_at hl 2 rfl) ?_
    refine lv_icmp_lt (tgt := 57) hx hb dX4_advance_45 rfl (fun c2 => ?_) (fun c2 => ?_)
    · replace hf := ifp c2 hf
      refine lv_aload_n hx hb dX4_advance_57 rfl (lv_at hl 1 rfl) ?_
      refine lv_aload_n hx hb dX4_advance_58 rfl (lv_at hl 0 rfl) ?_
      refine r_get C h fk_X4_43 1 rfl rfl dX4_advance_59 ?_
      replace hf := chkI_inv hf
      obtain ⟨hi3, hf⟩ := hf
      refine r_iald C h 0 rfl hi3 dX4_advance_62 ?_
      replace hf := bd1_inv hf
      obtain ⟨r4, hc5, hf⟩ := hf
      refine r_ciS0 C h (c_X4_isLetter hc5) ms_X4_59 rfl [] rfl rfl hl.1 rfl (Nat.le_of_ble_eq_true rfl) (rok (by decide)) dX4_advance_63 (fun H locs h => ?_)
      refine lv_if_eq (tgt := 126) hx hb dX4_advance_66 rfl (fun c6 => ?_) (fun c6 => ?_)
      · replace hf := ifp c6 hf
        refine lv_aload_n hx hb dX4_advance_126 rfl (lv_at hl 1 rfl) ?_
        refine lv_aload_n hx hb dX4_advance_127 rfl (lv_at hl 0 rfl) ?_
        refine r_get C h fk_X4_43 1 rfl rfl dX4_advance_128 ?_
        replace hf := chkI_inv hf
        obtain ⟨hi7, hf⟩ := hf
        refine r_iald C h 0 rfl hi7 dX4_advance_131 ?_
        replace hf := bd1_inv hf
        obtain ⟨r8, hc9, hf⟩ := hf
        refine r_ciS0 C h (c_X4_isDigit hc9) ms_X4_67 rfl [] rfl rfl hl.1 rfl (Nat.le_of_ble_eq_true rfl) (rok (by decide)) dX4_advance_132 (fun H locs h => ?_)
        refine lv_if_eq (tgt := 147) hx hb dX4_advance_135 rfl (fun c10 => ?_) (fun c10 => ?_)
        · replace hf := ifp c10 hf
          refine lv_aload_n hx hb dX4_advance_147 rfl (lv_at hl 0 rfl) ?_
          refine lv_sipush (v := (256 : Int32)) hx hb dX4_advance_148 rfl ?_
          refine lv_aload_n hx hb dX4_advance_151 rfl (lv_at hl 1 rfl) ?_
          refine lv_aload_n hx hb dX4_advance_152 rfl (lv_at hl 0 rfl) ?_
          refine r_get C h fk_X4_43 1 rfl rfl dX4_advance_153 ?_
          replace hf := chkI_inv hf
          obtain ⟨hi11, hf⟩ := hf
          refine r_iald C h 0 rfl hi11 dX4_advance_156 ?_
          refine lv_iadd hx hb dX4_advance_157 ?_
          refine lv_topi (fun t12 et12 => ?_)
          replace hf := lt1_inv et12 hf
          refine r_put (ws' := [(h_a0, ia G n_a0 f_a0), (h_this, ob 4 [.ref h_this_waiting, .int x_this_waitingCount, .int x_this_open, .int x_this_expected, .int x_this_kind, .int x_this_left, .int x_this_sign, .int t12, .int y_this_place, .int x_this_numeral, .int y_this_place])]) C h fw_X4_34 1 rfl rfl rfl (Nat.le_of_ble_eq_true rfl) dX4_advance_158 rfl (fun H locs h => ?_)
          refine lv_aload_n hx hb dX4_advance_161 rfl (lv_at hl 0 rfl) ?_
          refine lv_dup hx hb dX4_advance_162 rfl ?_
          refine r_get C h fk_X4_43 1 rfl rfl dX4_advance_163 ?_
          refine lv_iconst (v := (1 : Int32)) hx hb dX4_advance_166 rfl ?_
          refine lv_iadd hx hb dX4_advance_167 ?_
          refine lv_topi (fun t13 et13 => ?_)
          replace hf := lt1_inv et13 hf
          refine r_put (ws' := [(h_a0, ia G n_a0 f_a0), (h_this, ob 4 [.ref h_this_waiting, .int x_this_waitingCount, .int x_this_open, .int x_this_expected, .int x_this_kind, .int x_this_left, .int x_this_sign, .int t12, .int y_this_place, .int x_this_numeral, .int t13])]) C h fw_X4_43 1 rfl rfl rfl (Nat.le_of_ble_eq_true rfl) dX4_advance_168 rfl (fun H locs h => ?_)
          cases hf
          exact r_vret C h hr hlk dX4_advance_171
        · replace hf := ifn c10 hf
          refine lv_aload_n hx hb dX4_advance_138 rfl (lv_at hl 0 rfl) ?_
          refine lv_aload_n hx hb dX4_advance_139 rfl (lv_at hl 1 rfl) ?_
          refine lv_iload_n hx hb dX4_advance_140 rfl (lv_at hl 2 rfl) ?_
          replace hf := bd3_inv hf
          obtain ⟨y14, y15, y16, hc17, hf⟩ := hf
          refine r_cvV (ws' := [(h_a0, ia G n_a0 f_a0), (h_this, ob 4 [.ref h_this_waiting, .int x_this_waitingCount, .int x_this_open, .int x_this_expected, .int x_this_kind, .int x_this_left, .int x_this_sign, .int y14, .int y_this_place, .int y15, .int y16])]) C h (c_X4_advanceDigits hc17) mv_X4_70 rfl 1 rfl [0, 1] rfl rfl rfl rfl rfl hl.1 rfl (Nat.le_of_ble_eq_true rfl) (rok (by decide)) dX4_advance_141 (fun H locs h => ?_)
          refine lv_goto (tgt := 171) hx hb dX4_advance_144 rfl ?_
          cases hf
          exact r_vret C h hr hlk dX4_advance_171
      · replace hf := ifn c6 hf
        exact hK2 _ _ _ _ (L69 1000 y_this_place y_this_place hf) _ _ _ h (lv_sub hl [0, 1, 2] rfl)
    · replace hf := ifn c2 hf
      refine lv_aload_n hx hb dX4_advance_48 rfl (lv_at hl 0 rfl) ?_
      refine lv_bipush (v := (19 : Int32)) hx hb dX4_advance_49 rfl ?_
      refine r_put (ws' := [(h_a0, ia G n_a0 f_a0), (h_this, ob 4 [.ref h_this_waiting, .int x_this_waitingCount, .int x_this_open, .int x_this_expected, .int x_this_kind, .int x_this_left, .int x_this_sign, .int (19 : Int32), .int y_this_place, .int x_this_numeral, .int y_this_place])]) C h fw_X4_34 1 rfl rfl rfl (Nat.le_of_ble_eq_true rfl) dX4_advance_51 rfl (fun H locs h => ?_)
      refine lv_goto (tgt := 171) hx hb dX4_advance_54 rfl ?_
      cases hf
      exact r_vret C h hr hlk dX4_advance_171
  have L0 : ∀ (n : Nat) (y_this_place : Int32), f_X4_advance_L0 p1 n_a0 f_a0 x_this_numeral n y_this_place = some (m_this_token, m_this_tokenAt, m_this_numeral, m_this_place) → K 0 ([] : List Value) [(h_a0, ia G n_a0 f_a0), (h_this, ob 4 [.ref h_this_waiting, .int x_this_waitingCount, .int x_this_open, .int x_this_expected, .int x_this_kind, .int x_this_left, .int x_this_sign, .int x_this_token, .int x_this_tokenAt, .int x_this_numeral, .int y_this_place])] [(0, .ref h_this), (1, .ref h_a0), (2, .int p1)] := by
    intro n
    induction n with
    | zero =>
      intro y_this_place hf
      replace hf : (none : Option _) = some _ := hf
      cases hf
    | succ n ih =>
      intro y_this_place hf
      rw [f_X4_advance_L0] at hf
      refine hK1 _ _ _ _ (fun H locs ls h hl => ?_)
      refine lv_aload_n hx hb dX4_advance_0 rfl (lv_at hl 0 rfl) ?_
      refine r_get C h fk_X4_43 1 rfl rfl dX4_advance_1 ?_
      refine lv_iload_n hx hb dX4_advance_4 rfl (lv_at hl 2 rfl) ?_
      refine lv_icmp_ge (tgt := 32) hx hb dX4_advance_5 rfl (fun c1 => ?_) (fun c1 => ?_)
      · replace hf := ifp c1 hf
        exact hK2 _ _ _ _ (B32 y_this_place hf) _ _ _ h (lv_sub hl [0, 1, 2] rfl)
      · replace hf := ifn c1 hf
        refine lv_aload_n hx hb dX4_advance_8 rfl (lv_at hl 1 rfl) ?_
        refine lv_aload_n hx hb dX4_advance_9 rfl (lv_at hl 0 rfl) ?_
        refine r_get C h fk_X4_43 1 rfl rfl dX4_advance_10 ?_
        replace hf := chkI_inv hf
        obtain ⟨hi26, hf⟩ := hf
        refine r_iald C h 0 rfl hi26 dX4_advance_13 ?_
        refine lv_bipush (v := (32 : Int32)) hx hb dX4_advance_14 rfl ?_
        refine lv_icmp_ne (tgt := 32) hx hb dX4_advance_16 rfl (fun c27 => ?_) (fun c27 => ?_)
        · replace hf := ifn c27 hf
          exact hK2 _ _ _ _ (B32 y_this_place hf) _ _ _ h (lv_sub hl [0, 1, 2] rfl)
        · replace hf := ifp c27 hf
          refine lv_aload_n hx hb dX4_advance_19 rfl (lv_at hl 0 rfl) ?_
          refine lv_dup hx hb dX4_advance_20 rfl ?_
          refine r_get C h fk_X4_43 1 rfl rfl dX4_advance_21 ?_
          refine lv_iconst (v := (1 : Int32)) hx hb dX4_advance_24 rfl ?_
          refine lv_iadd hx hb dX4_advance_25 ?_
          refine lv_topi (fun t28 et28 => ?_)
          replace hf := lt1_inv et28 hf
          refine r_put (ws' := [(h_a0, ia G n_a0 f_a0), (h_this, ob 4 [.ref h_this_waiting, .int x_this_waitingCount, .int x_this_open, .int x_this_expected, .int x_this_kind, .int x_this_left, .int x_this_sign, .int x_this_token, .int x_this_tokenAt, .int x_this_numeral, .int t28])]) C h fw_X4_43 1 rfl rfl rfl (Nat.le_of_ble_eq_true rfl) dX4_advance_26 rfl (fun H locs h => ?_)
          refine lv_goto (tgt := 0) hx hb dX4_advance_29 rfl ?_
          exact hK2 _ _ _ _ (ih t28 hf) _ _ _ h (lv_sub hl [0, 1, 2] rfl)
  exact hK2 _ _ _ _ (L0 1000 x_this_place hf) _ _ _ h (lv_sub hl [0, 1, 2] rfl)
def f_X4_expect (p0 : Int32) : Option (Int32 × Int32) := some ((1 : Int32), p0)
set_option maxRecDepth 100000 in
set_option maxHeartbeats 4000000 in
theorem c_X4_expect {l : Launch} {G : Gt} {h_this h_this_waiting : Nat} {p0 : Int32} {x_this_waitingCount : Int32} {x_this_open : Int32} {x_this_expected : Int32} {x_this_kind : Int32} {x_this_left : Int32} {x_this_sign : Int32} {x_this_token : Int32} {x_this_tokenAt : Int32} {x_this_numeral : Int32} {x_this_place : Int32} {r : Int32} {m_this_expected : Int32} (hf : f_X4_expect p0 = some (r, m_this_expected)) : mFi l G yX4_expect cX4_expect 2 .boolean 0 [.ref h_this, .int p0] [(h_this, ob 4 [.ref h_this_waiting, .int x_this_waitingCount, .int x_this_open, .int x_this_expected, .int x_this_kind, .int x_this_left, .int x_this_sign, .int x_this_token, .int x_this_tokenAt, .int x_this_numeral, .int x_this_place])] r [(h_this, ob 4 [.ref h_this_waiting, .int x_this_waitingCount, .int x_this_open, .int m_this_expected, .int x_this_kind, .int x_this_left, .int x_this_sign, .int x_this_token, .int x_this_tokenAt, .int x_this_numeral, .int x_this_place])] := by
  refine mFi.of (by decide +kernel) (Nat.le_of_ble_eq_true rfl) ?_
  intro p e s m below meth c A C hr hlk h ls hl
  obtain ⟨hx, hb, hml, hown, hts⟩ := id C
  replace hl : lv_has ls 2 [(0, .ref h_this), (1, .int p0)] := hl
  unfold f_X4_expect at hf
  refine lv_aload_n hx hb dX4_expect_0 rfl (lv_at hl 0 rfl) ?_
  refine lv_iload_n hx hb dX4_expect_1 rfl (lv_at hl 1 rfl) ?_
  refine r_put (ws' := [(h_this, ob 4 [.ref h_this_waiting, .int x_this_waitingCount, .int x_this_open, .int p0, .int x_this_kind, .int x_this_left, .int x_this_sign, .int x_this_token, .int x_this_tokenAt, .int x_this_numeral, .int x_this_place])]) C h fw_X4_22 0 rfl rfl rfl (Nat.le_of_ble_eq_true rfl) dX4_expect_2 rfl (fun H locs h => ?_)
  refine lv_iconst (v := (1 : Int32)) hx hb dX4_expect_5 rfl ?_
  cases hf
  exact r_iret C h hr hlk rfl dX4_expect_6
def f_X4_acceptsKind (x_a0_count : Int32) (x_this_expected : Int32) (x_this_kind : Int32) (x_this_token : Int32) : Option (Int32 × Int32 × Int32) := (if (5 : Int32) < x_this_token then some ((0 : Int32), x_this_expected, x_this_kind) else (if x_a0_count < (8 : Int32) then bd2 (f_X4_expect (1 : Int32)) (fun r3 y4 => chkB r3 (some (r3, y4, x_this_token))) else some ((0 : Int32), x_this_expected, x_this_kind)))
set_option maxRecDepth 100000 in
set_option maxHeartbeats 4000000 in
theorem c_X4_acceptsKind {l : Launch} {G : Gt} {h_a0 h_a0_kinds h_a0_deeds h_a0_begins h_a0_steps h_a0_lefts h_a0_rights h_a0_facts h_this h_this_waiting : Nat} {x_a0_count : Int32} {x_a0_size : Int32} {x_this_waitingCount : Int32} {x_this_open : Int32} {x_this_expected : Int32} {x_this_kind : Int32} {x_this_left : Int32} {x_this_sign : Int32} {x_this_token : Int32} {x_this_tokenAt : Int32} {x_this_numeral : Int32} {x_this_place : Int32} {r : Int32} {m_this_expected : Int32} {m_this_kind : Int32} (hf : f_X4_acceptsKind x_a0_count x_this_expected x_this_kind x_this_token = some (r, m_this_expected, m_this_kind)) : mFi l G yX4_acceptsKind cX4_acceptsKind 2 .boolean 1 [.ref h_this, .ref h_a0] [(h_a0, ob 5 [.ref h_a0_kinds, .ref h_a0_deeds, .ref h_a0_begins, .ref h_a0_steps, .ref h_a0_lefts, .ref h_a0_rights, .ref h_a0_facts, .int x_a0_count, .int x_a0_size]), (h_this, ob 4 [.ref h_this_waiting, .int x_this_waitingCount, .int x_this_open, .int x_this_expected, .int x_this_kind, .int x_this_left, .int x_this_sign, .int x_this_token, .int x_this_tokenAt, .int x_this_numeral, .int x_this_place])] r [(h_a0, ob 5 [.ref h_a0_kinds, .ref h_a0_deeds, .ref h_a0_begins, .ref h_a0_steps, .ref h_a0_lefts, .ref h_a0_rights, .ref h_a0_facts, .int x_a0_count, .int x_a0_size]), (h_this, ob 4 [.ref h_this_waiting, .int x_this_waitingCount, .int x_this_open, .int m_this_expected, .int m_this_kind, .int x_this_left, .int x_this_sign, .int x_this_token, .int x_this_tokenAt, .int x_this_numeral, .int x_this_place])] := by
  refine mFi.of (by decide +kernel) (Nat.le_of_ble_eq_true rfl) ?_
  intro p e s m below meth c A C hr hlk h ls hl
  obtain ⟨hx, hb, hml, hown, hts⟩ := id C
  replace hl : lv_has ls 2 [(0, .ref h_this), (1, .ref h_a0)] := hl
  unfold f_X4_acceptsKind at hf
  refine lv_aload_n hx hb dX4_acceptsKind_0 rfl (lv_at hl 0 rfl) ?_
  refine r_get C h fk_X4_34 1 rfl rfl dX4_acceptsKind_1 ?_
  refine lv_iconst (v := (5 : Int32)) hx hb dX4_acceptsKind_4 rfl ?_
  refine lv_icmp_gt (tgt := 17) hx hb dX4_acceptsKind_5 rfl (fun c1 => ?_) (fun c1 => ?_)
  · replace hf := ifp c1 hf
    refine lv_iconst (v := (0 : Int32)) hx hb dX4_acceptsKind_17 rfl ?_
    cases hf
    exact r_iret C h hr hlk rfl dX4_acceptsKind_18
  · replace hf := ifn c1 hf
    refine lv_aload_n hx hb dX4_acceptsKind_8 rfl (lv_at hl 1 rfl) ?_
    refine r_get C h fk_X4_107 0 rfl rfl dX4_acceptsKind_9 ?_
    refine lv_bipush (v := (8 : Int32)) hx hb dX4_acceptsKind_12 rfl ?_
    refine lv_icmp_lt (tgt := 19) hx hb dX4_acceptsKind_14 rfl (fun c2 => ?_) (fun c2 => ?_)
    · replace hf := ifp c2 hf
      refine lv_aload_n hx hb dX4_acceptsKind_19 rfl (lv_at hl 0 rfl) ?_
      refine lv_aload_n hx hb dX4_acceptsKind_20 rfl (lv_at hl 0 rfl) ?_
      refine r_get C h fk_X4_34 1 rfl rfl dX4_acceptsKind_21 ?_
      refine r_put (ws' := [(h_a0, ob 5 [.ref h_a0_kinds, .ref h_a0_deeds, .ref h_a0_begins, .ref h_a0_steps, .ref h_a0_lefts, .ref h_a0_rights, .ref h_a0_facts, .int x_a0_count, .int x_a0_size]), (h_this, ob 4 [.ref h_this_waiting, .int x_this_waitingCount, .int x_this_open, .int x_this_expected, .int x_this_token, .int x_this_left, .int x_this_sign, .int x_this_token, .int x_this_tokenAt, .int x_this_numeral, .int x_this_place])]) C h fw_X4_25 1 rfl rfl rfl (Nat.le_of_ble_eq_true rfl) dX4_acceptsKind_24 rfl (fun H locs h => ?_)
      refine lv_aload_n hx hb dX4_acceptsKind_27 rfl (lv_at hl 0 rfl) ?_
      refine lv_iconst (v := (1 : Int32)) hx hb dX4_acceptsKind_28 rfl ?_
      replace hf := bd2_inv hf
      obtain ⟨r3, y4, hc5, hf⟩ := hf
      refine r_ciV (ws' := [(h_a0, ob 5 [.ref h_a0_kinds, .ref h_a0_deeds, .ref h_a0_begins, .ref h_a0_steps, .ref h_a0_lefts, .ref h_a0_rights, .ref h_a0_facts, .int x_a0_count, .int x_a0_size]), (h_this, ob 4 [.ref h_this_waiting, .int x_this_waitingCount, .int x_this_open, .int y4, .int x_this_token, .int x_this_left, .int x_this_sign, .int x_this_token, .int x_this_tokenAt, .int x_this_numeral, .int x_this_place])]) C h (c_X4_expect hc5) mv_X4_88 rfl 1 rfl [1] rfl rfl rfl rfl rfl hl.1 rfl (Nat.le_of_ble_eq_true rfl) (rok (by decide)) dX4_acceptsKind_29 (fun H locs h => ?_)
      replace hf := chkB_inv hf
      obtain ⟨hb6, hf⟩ := hf
      cases hf
      exact r_iret C h hr hlk hb6 dX4_acceptsKind_32
    · replace hf := ifn c2 hf
      refine lv_iconst (v := (0 : Int32)) hx hb dX4_acceptsKind_17 rfl ?_
      cases hf
      exact r_iret C h hr hlk rfl dX4_acceptsKind_18
def f_X5_addRule (p0 : Int32) (p1 : Int32) (x_this_count : Int32) (x_this_size : Int32) (f_this_begins : Nat → Int32) (f_this_deeds : Nat → Int32) (f_this_kinds : Nat → Int32) : Option (Int32 × (Nat → Int32) × (Nat → Int32) × (Nat → Int32)) := (if (8 : Int32) ≤ x_this_count then some (x_this_count, f_this_begins, f_this_deeds, f_this_kinds) else chkI x_this_count 8 (chkI x_this_count 8 (lt1 (x_this_count + (1 : Int32)) (fun (t4 : Int32) => chkI t4 9 (some (t4, upd f_this_begins t4.toNatClampNeg x_this_size, upd f_this_deeds x_this_count.toNatClampNeg p1, upd f_this_kinds x_this_count.toNatClampNeg p0))))))
set_option maxRecDepth 100000 in
set_option maxHeartbeats 4000000 in
theorem c_X5_addRule {l : Launch} {G : Gt} {h_this h_this_kinds h_this_deeds h_this_begins h_this_steps h_this_lefts h_this_rights h_this_facts : Nat} {p0 : Int32} {p1 : Int32} {x_this_count : Int32} {x_this_size : Int32} {f_this_begins : Nat → Int32} {f_this_deeds : Nat → Int32} {f_this_kinds : Nat → Int32} {m_this_count : Int32} {m_this_begins : Nat → Int32} {m_this_deeds : Nat → Int32} {m_this_kinds : Nat → Int32} (hf : f_X5_addRule p0 p1 x_this_count x_this_size f_this_begins f_this_deeds f_this_kinds = some (m_this_count, m_this_begins, m_this_deeds, m_this_kinds)) : mFv l G yX5_addRule cX5_addRule 3 0 [.ref h_this, .int p0, .int p1] [(h_this, ob 5 [.ref h_this_kinds, .ref h_this_deeds, .ref h_this_begins, .ref h_this_steps, .ref h_this_lefts, .ref h_this_rights, .ref h_this_facts, .int x_this_count, .int x_this_size]), (h_this_begins, ia G 9 f_this_begins), (h_this_deeds, ia G 8 f_this_deeds), (h_this_kinds, ia G 8 f_this_kinds)] [(h_this, ob 5 [.ref h_this_kinds, .ref h_this_deeds, .ref h_this_begins, .ref h_this_steps, .ref h_this_lefts, .ref h_this_rights, .ref h_this_facts, .int m_this_count, .int x_this_size]), (h_this_begins, ia G 9 m_this_begins), (h_this_deeds, ia G 8 m_this_deeds), (h_this_kinds, ia G 8 m_this_kinds)] := by
  refine mFv.of (by decide +kernel) (Nat.le_of_ble_eq_true rfl) ?_
  intro p e s m below meth c A C hr hlk h ls hl
  obtain ⟨hx, hb, hml, hown, hts⟩ := id C
  replace hl : lv_has ls 3 [(0, .ref h_this), (1, .int p0), (2, .int p1)] := hl
  unfold f_X5_addRule at hf
  refine lv_aload_n hx hb dX5_addRule_0 rfl (lv_at hl 0 rfl) ?_
  refine r_get C h fk_X5_33 0 rfl rfl dX5_addRule_1 ?_
  refine lv_bipush (v := (8 : Int32)) hx hb dX5_addRule_4 rfl ?_
  refine lv_icmp_ge (tgt := 52) hx hb dX5_addRule_6 rfl (fun c1 => ?_) (fun c1 => ?_)
  · replace hf := ifp c1 hf
    cases hf
    exact r_vret C h hr hlk dX5_addRule_52
  · replace hf := ifn c1 hf
    refine lv_aload_n hx hb dX5_addRule_9 rfl (lv_at hl 0 rfl) ?_
    refine r_get C h fk_X5_9 0 rfl rfl dX5_addRule_10 ?_
    refine lv_aload_n hx hb dX5_addRule_13 rfl (lv_at hl 0 rfl) ?_
    refine r_get C h fk_X5_33 0 rfl rfl dX5_addRule_14 ?_
    refine lv_iload_n hx hb dX5_addRule_17 rfl (lv_at hl 1 rfl) ?_
    replace hf := chkI_inv hf
    obtain ⟨hi2, hf⟩ := hf
    refine r_iast (ws' := [(h_this, ob 5 [.ref h_this_kinds, .ref h_this_deeds, .ref h_this_begins, .ref h_this_steps, .ref h_this_lefts, .ref h_this_rights, .ref h_this_facts, .int x_this_count, .int x_this_size]), (h_this_begins, ia G 9 f_this_begins), (h_this_deeds, ia G 8 f_this_deeds), (h_this_kinds, ia G 8 (upd f_this_kinds x_this_count.toNatClampNeg p0))]) C h 3 rfl hi2 dX5_addRule_18 rfl (fun H locs h => ?_)
    refine lv_aload_n hx hb dX5_addRule_19 rfl (lv_at hl 0 rfl) ?_
    refine r_get C h fk_X5_15 0 rfl rfl dX5_addRule_20 ?_
    refine lv_aload_n hx hb dX5_addRule_23 rfl (lv_at hl 0 rfl) ?_
    refine r_get C h fk_X5_33 0 rfl rfl dX5_addRule_24 ?_
    refine lv_iload_n hx hb dX5_addRule_27 rfl (lv_at hl 2 rfl) ?_
    replace hf := chkI_inv hf
    obtain ⟨hi3, hf⟩ := hf
    refine r_iast (ws' := [(h_this, ob 5 [.ref h_this_kinds, .ref h_this_deeds, .ref h_this_begins, .ref h_this_steps, .ref h_this_lefts, .ref h_this_rights, .ref h_this_facts, .int x_this_count, .int x_this_size]), (h_this_begins, ia G 9 f_this_begins), (h_this_deeds, ia G 8 (upd f_this_deeds x_this_count.toNatClampNeg p1)), (h_this_kinds, ia G 8 (upd f_this_kinds x_this_count.toNatClampNeg p0))]) C h 2 rfl hi3 dX5_addRule_28 rfl (fun H locs h => ?_)
    refine lv_aload_n hx hb dX5_addRule_29 rfl (lv_at hl 0 rfl) ?_
    refine lv_dup hx hb dX5_addRule_30 rfl ?_
    refine r_get C h fk_X5_33 0 rfl rfl dX5_addRule_31 ?_
    refine lv_iconst (v := (1 : Int32)) hx hb dX5_addRule_34 rfl ?_
    refine lv_iadd hx hb dX5_addRule_35 ?_
    refine lv_topi (fun t4 et4 => ?_)
    replace hf := lt1_inv et4 hf
    refine r_put (ws' := [(h_this, ob 5 [.ref h_this_kinds, .ref h_this_deeds, .ref h_this_begins, .ref h_this_steps, .ref h_this_lefts, .ref h_this_rights, .ref h_this_facts, .int t4, .int x_this_size]), (h_this_begins, ia G 9 f_this_begins), (h_this_deeds, ia G 8 (upd f_this_deeds x_this_count.toNatClampNeg p1)), (h_this_kinds, ia G 8 (upd f_this_kinds x_this_count.toNatClampNeg p0))]) C h fw_X5_33 0 rfl rfl rfl (Nat.le_of_ble_eq_true rfl) dX5_addRule_36 rfl (fun H locs h => ?_)
    refine lv_aload_n hx hb dX5_addRule_39 rfl (lv_at hl 0 rfl) ?_
    refine r_get C h fk_X5_18 0 rfl rfl dX5_addRule_40 ?_
    refine lv_aload_n hx hb dX5_addRule_43 rfl (lv_at hl 0 rfl) ?_
    refine r_get C h fk_X5_33 0 rfl rfl dX5_addRule_44 ?_
    refine lv_aload_n hx hb dX5_addRule_47 rfl (lv_at hl 0 rfl) ?_
    refine r_get C h fk_X5_37 0 rfl rfl dX5_addRule_48 ?_
    replace hf := chkI_inv hf
    obtain ⟨hi5, hf⟩ := hf
    refine r_iast (ws' := [(h_this, ob 5 [.ref h_this_kinds, .ref h_this_deeds, .ref h_this_begins, .ref h_this_steps, .ref h_this_lefts, .ref h_this_rights, .ref h_this_facts, .int t4, .int x_this_size]), (h_this_begins, ia G 9 (upd f_this_begins t4.toNatClampNeg x_this_size)), (h_this_deeds, ia G 8 (upd f_this_deeds x_this_count.toNatClampNeg p1)), (h_this_kinds, ia G 8 (upd f_this_kinds x_this_count.toNatClampNeg p0))]) C h 1 rfl hi5 dX5_addRule_51 rfl (fun H locs h => ?_)
    cases hf
    exact r_vret C h hr hlk dX5_addRule_52
def f_X4_acceptsDo (x_a0_count : Int32) (x_a0_size : Int32) (f_a0_begins : Nat → Int32) (f_a0_deeds : Nat → Int32) (f_a0_kinds : Nat → Int32) (x_this_expected : Int32) (x_this_kind : Int32) (x_this_token : Int32) : Option (Int32 × Int32 × (Nat → Int32) × (Nat → Int32) × (Nat → Int32) × Int32) := (if x_this_token < (6 : Int32) then some ((0 : Int32), x_a0_count, f_a0_begins, f_a0_deeds, f_a0_kinds, x_this_expected) else (if x_this_token ≤ (8 : Int32) then bd4 (f_X5_addRule x_this_kind (x_this_token - (6 : Int32)) x_a0_count x_a0_size f_a0_begins f_a0_deeds f_a0_kinds) (fun y3 g4 g5 g6 => bd2 (f_X4_expect (6 : Int32)) (fun r8 y9 => chkB r8 (some (r8, y3, g4, g5, g6, y9)))) else some ((0 : Int32), x_a0_count, f_a0_begins, f_a0_deeds, f_a0_kinds, x_this_expected)))
set_option maxRecDepth 100000 in
set_option maxHeartbeats 4000000 in
theorem c_X4_acceptsDo {l : Launch} {G : Gt} {h_a0 h_a0_kinds h_a0_deeds h_a0_begins h_a0_steps h_a0_lefts h_a0_rights h_a0_facts h_this h_this_waiting : Nat} {x_a0_count : Int32} {x_a0_size : Int32} {f_a0_begins : Nat → Int32} {f_a0_deeds : Nat → Int32} {f_a0_kinds : Nat → Int32} {x_this_waitingCount : Int32} {x_this_open : Int32} {x_this_expected : Int32} {x_this_kind : Int32} {x_this_left : Int32} {x_this_sign : Int32} {x_this_token : Int32} {x_this_tokenAt : Int32} {x_this_numeral : Int32} {x_this_place : Int32} {r : Int32} {m_a0_count : Int32} {m_a0_begins : Nat → Int32} {m_a0_deeds : Nat → Int32} {m_a0_kinds : Nat → Int32} {m_this_expected : Int32} (hf : f_X4_acceptsDo x_a0_count x_a0_size f_a0_begins f_a0_deeds f_a0_kinds x_this_expected x_this_kind x_this_token = some (r, m_a0_count, m_a0_begins, m_a0_deeds, m_a0_kinds, m_this_expected)) : mFi l G yX4_acceptsDo cX4_acceptsDo 2 .boolean 1 [.ref h_this, .ref h_a0] [(h_a0, ob 5 [.ref h_a0_kinds, .ref h_a0_deeds, .ref h_a0_begins, .ref h_a0_steps, .ref h_a0_lefts, .ref h_a0_rights, .ref h_a0_facts, .int x_a0_count, .int x_a0_size]), (h_a0_begins, ia G 9 f_a0_begins), (h_a0_deeds, ia G 8 f_a0_deeds), (h_a0_kinds, ia G 8 f_a0_kinds), (h_this, ob 4 [.ref h_this_waiting, .int x_this_waitingCount, .int x_this_open, .int x_this_expected, .int x_this_kind, .int x_this_left, .int x_this_sign, .int x_this_token, .int x_this_tokenAt, .int x_this_numeral, .int x_this_place])] r [(h_a0, ob 5 [.ref h_a0_kinds, .ref h_a0_deeds, .ref h_a0_begins, .ref h_a0_steps, .ref h_a0_lefts, .ref h_a0_rights, .ref h_a0_facts, .int m_a0_count, .int x_a0_size]), (h_a0_begins, ia G 9 m_a0_begins), (h_a0_deeds, ia G 8 m_a0_deeds), (h_a0_kinds, ia G 8 m_a0_kinds), (h_this, ob 4 [.ref h_this_waiting, .int x_this_waitingCount, .int x_this_open, .int m_this_expected, .int x_this_kind, .int x_this_left, .int x_this_sign, .int x_this_token, .int x_this_tokenAt, .int x_this_numeral, .int x_this_place])] := by
  refine mFi.of (by decide +kernel) (Nat.le_of_ble_eq_true rfl) ?_
  intro p e s m below meth c A C hr hlk h ls hl
  obtain ⟨hx, hb, hml, hown, hts⟩ := id C
  replace hl : lv_has ls 2 [(0, .ref h_this), (1, .ref h_a0)] := hl
  unfold f_X4_acceptsDo at hf
  refine lv_aload_n hx hb dX4_acceptsDo_0 rfl (lv_at hl 0 rfl) ?_
  refine r_get C h fk_X4_34 4 rfl rfl dX4_acceptsDo_1 ?_
  refine lv_bipush (v := (6 : Int32)) hx hb dX4_acceptsDo_4 rfl ?_
  refine lv_icmp_lt (tgt := 18) hx hb dX4_acceptsDo_6 rfl (fun c1 => ?_) (fun c1 => ?_)
  · replace hf := ifp c1 hf
    refine lv_iconst (v := (0 : Int32)) hx hb dX4_acceptsDo_18 rfl ?_
    cases hf
    exact r_iret C h hr hlk rfl dX4_acceptsDo_19
  · replace hf := ifn c1 hf
    refine lv_aload_n hx hb dX4_acceptsDo_9 rfl (lv_at hl 0 rfl) ?_
    refine r_get C h fk_X4_34 4 rfl rfl dX4_acceptsDo_10 ?_
    refine lv_bipush (v := (8 : Int32)) hx hb dX4_acceptsDo_13 rfl ?_
    refine lv_icmp_le (tgt := 20) hx hb dX4_acceptsDo_15 rfl (fun c2 => ?_) (fun c2 => ?_)
    · replace hf := ifp c2 hf
      refine lv_aload_n hx hb dX4_acceptsDo_20 rfl (lv_at hl 1 rfl) ?_
      refine lv_aload_n hx hb dX4_acceptsDo_21 rfl (lv_at hl 0 rfl) ?_
      refine r_get C h fk_X4_25 4 rfl rfl dX4_acceptsDo_22 ?_
      refine lv_aload_n hx hb dX4_acceptsDo_25 rfl (lv_at hl 0 rfl) ?_
      refine r_get C h fk_X4_34 4 rfl rfl dX4_acceptsDo_26 ?_
      refine lv_bipush (v := (6 : Int32)) hx hb dX4_acceptsDo_29 rfl ?_
      refine lv_isub hx hb dX4_acceptsDo_31 ?_
      replace hf := bd4_inv hf
      obtain ⟨y3, g4, g5, g6, hc7, hf⟩ := hf
      refine r_cvV (ws' := [(h_a0, ob 5 [.ref h_a0_kinds, .ref h_a0_deeds, .ref h_a0_begins, .ref h_a0_steps, .ref h_a0_lefts, .ref h_a0_rights, .ref h_a0_facts, .int y3, .int x_a0_size]), (h_a0_begins, ia G 9 g4), (h_a0_deeds, ia G 8 g5), (h_a0_kinds, ia G 8 g6), (h_this, ob 4 [.ref h_this_waiting, .int x_this_waitingCount, .int x_this_open, .int x_this_expected, .int x_this_kind, .int x_this_left, .int x_this_sign, .int x_this_token, .int x_this_tokenAt, .int x_this_numeral, .int x_this_place])]) C h (c_X5_addRule hc7) mv_X4_110 rfl 0 rfl [0, 1, 2, 3] rfl rfl rfl rfl rfl hl.1 rfl (Nat.le_of_ble_eq_true rfl) (rok (by decide)) dX4_acceptsDo_32 (fun H locs h => ?_)
      refine lv_aload_n hx hb dX4_acceptsDo_35 rfl (lv_at hl 0 rfl) ?_
      refine lv_bipush (v := (6 : Int32)) hx hb dX4_acceptsDo_36 rfl ?_
      replace hf := bd2_inv hf
      obtain ⟨r8, y9, hc10, hf⟩ := hf
      refine r_ciV (ws' := [(h_a0, ob 5 [.ref h_a0_kinds, .ref h_a0_deeds, .ref h_a0_begins, .ref h_a0_steps, .ref h_a0_lefts, .ref h_a0_rights, .ref h_a0_facts, .int y3, .int x_a0_size]), (h_a0_begins, ia G 9 g4), (h_a0_deeds, ia G 8 g5), (h_a0_kinds, ia G 8 g6), (h_this, ob 4 [.ref h_this_waiting, .int x_this_waitingCount, .int x_this_open, .int y9, .int x_this_kind, .int x_this_left, .int x_this_sign, .int x_this_token, .int x_this_tokenAt, .int x_this_numeral, .int x_this_place])]) C h (c_X4_expect hc10) mv_X4_88 rfl 4 rfl [4] rfl rfl rfl rfl rfl hl.1 rfl (Nat.le_of_ble_eq_true rfl) (rok (by decide)) dX4_acceptsDo_38 (fun H locs h => ?_)
      replace hf := chkB_inv hf
      obtain ⟨hb11, hf⟩ := hf
      cases hf
      exact r_iret C h hr hlk hb11 dX4_acceptsDo_41
    · replace hf := ifn c2 hf
      refine lv_iconst (v := (0 : Int32)) hx hb dX4_acceptsDo_18 rfl ?_
      cases hf
      exact r_iret C h hr hlk rfl dX4_acceptsDo_19
def f_X4_await (p0 : Int32) (x_this_waitingCount : Int32) (f_this_waiting : Nat → Int32) : Option (Int32 × (Nat → Int32)) := (if (200 : Int32) ≤ x_this_waitingCount then some (x_this_waitingCount, f_this_waiting) else chkI x_this_waitingCount 200 (lt1 (x_this_waitingCount + (1 : Int32)) (fun (t3 : Int32) => some (t3, upd f_this_waiting x_this_waitingCount.toNatClampNeg p0))))
set_option maxRecDepth 100000 in
set_option maxHeartbeats 4000000 in
theorem c_X4_await {l : Launch} {G : Gt} {h_this h_this_waiting : Nat} {p0 : Int32} {x_this_waitingCount : Int32} {x_this_open : Int32} {x_this_expected : Int32} {x_this_kind : Int32} {x_this_left : Int32} {x_this_sign : Int32} {x_this_token : Int32} {x_this_tokenAt : Int32} {x_this_numeral : Int32} {x_this_place : Int32} {f_this_waiting : Nat → Int32} {m_this_waitingCount : Int32} {m_this_waiting : Nat → Int32} (hf : f_X4_await p0 x_this_waitingCount f_this_waiting = some (m_this_waitingCount, m_this_waiting)) : mFv l G yX4_await cX4_await 2 0 [.ref h_this, .int p0] [(h_this, ob 4 [.ref h_this_waiting, .int x_this_waitingCount, .int x_this_open, .int x_this_expected, .int x_this_kind, .int x_this_left, .int x_this_sign, .int x_this_token, .int x_this_tokenAt, .int x_this_numeral, .int x_this_place]), (h_this_waiting, ia G 200 f_this_waiting)] [(h_this, ob 4 [.ref h_this_waiting, .int m_this_waitingCount, .int x_this_open, .int x_this_expected, .int x_this_kind, .int x_this_left, .int x_this_sign, .int x_this_token, .int x_this_tokenAt, .int x_this_numeral, .int x_this_place]), (h_this_waiting, ia G 200 m_this_waiting)] := by
  refine mFv.of (by decide +kernel) (Nat.le_of_ble_eq_true rfl) ?_
  intro p e s m below meth c A C hr hlk h ls hl
  obtain ⟨hx, hb, hml, hown, hts⟩ := id C
  replace hl : lv_has ls 2 [(0, .ref h_this), (1, .int p0)] := hl
  unfold f_X4_await at hf
  refine lv_aload_n hx hb dX4_await_0 rfl (lv_at hl 0 rfl) ?_
  refine r_get C h fk_X4_15 0 rfl rfl dX4_await_1 ?_
  refine lv_sipush (v := (200 : Int32)) hx hb dX4_await_4 rfl ?_
  refine lv_icmp_ge (tgt := 30) hx hb dX4_await_7 rfl (fun c1 => ?_) (fun c1 => ?_)
  · replace hf := ifp c1 hf
    cases hf
    exact r_vret C h hr hlk dX4_await_30
  · replace hf := ifn c1 hf
    refine lv_aload_n hx hb dX4_await_10 rfl (lv_at hl 0 rfl) ?_
    refine r_get C h fk_X4_9 0 rfl rfl dX4_await_11 ?_
    refine lv_aload_n hx hb dX4_await_14 rfl (lv_at hl 0 rfl) ?_
    refine r_get C h fk_X4_15 0 rfl rfl dX4_await_15 ?_
    refine lv_iload_n hx hb dX4_await_18 rfl (lv_at hl 1 rfl) ?_
    replace hf := chkI_inv hf
    obtain ⟨hi2, hf⟩ := hf
    refine r_iast (ws' := [(h_this, ob 4 [.ref h_this_waiting, .int x_this_waitingCount, .int x_this_open, .int x_this_expected, .int x_this_kind, .int x_this_left, .int x_this_sign, .int x_this_token, .int x_this_tokenAt, .int x_this_numeral, .int x_this_place]), (h_this_waiting, ia G 200 (upd f_this_waiting x_this_waitingCount.toNatClampNeg p0))]) C h 1 rfl hi2 dX4_await_19 rfl (fun H locs h => ?_)
    refine lv_aload_n hx hb dX4_await_20 rfl (lv_at hl 0 rfl) ?_
    refine lv_dup hx hb dX4_await_21 rfl ?_
    refine r_get C h fk_X4_15 0 rfl rfl dX4_await_22 ?_
    refine lv_iconst (v := (1 : Int32)) hx hb dX4_await_25 rfl ?_
    refine lv_iadd hx hb dX4_await_26 ?_
    refine lv_topi (fun t3 et3 => ?_)
    replace hf := lt1_inv et3 hf
    refine r_put (ws' := [(h_this, ob 4 [.ref h_this_waiting, .int t3, .int x_this_open, .int x_this_expected, .int x_this_kind, .int x_this_left, .int x_this_sign, .int x_this_token, .int x_this_tokenAt, .int x_this_numeral, .int x_this_place]), (h_this_waiting, ia G 200 (upd f_this_waiting x_this_waitingCount.toNatClampNeg p0))]) C h fw_X4_15 0 rfl rfl rfl (Nat.le_of_ble_eq_true rfl) dX4_await_27 rfl (fun H locs h => ?_)
    cases hf
    exact r_vret C h hr hlk dX4_await_30
def f_X4_valueOfToken (x_this_token : Int32) (x_this_numeral : Int32) : Option (Int32) := (if x_this_token = (18 : Int32) then some x_this_numeral else (if x_this_token < (13 : Int32) then some (-3 : Int32) else (if (17 : Int32) < x_this_token then some (-3 : Int32) else some (((10000 : Int32) + x_this_token) - (13 : Int32)))))
set_option maxRecDepth 100000 in
set_option maxHeartbeats 4000000 in
theorem c_X4_valueOfToken {l : Launch} {G : Gt} {h_this h_this_waiting : Nat} {x_this_waitingCount : Int32} {x_this_open : Int32} {x_this_expected : Int32} {x_this_kind : Int32} {x_this_left : Int32} {x_this_sign : Int32} {x_this_token : Int32} {x_this_tokenAt : Int32} {x_this_numeral : Int32} {x_this_place : Int32} {r : Int32} (hf : f_X4_valueOfToken x_this_token x_this_numeral = some r) : mFi l G yX4_valueOfToken cX4_valueOfToken 1 .int 0 [.ref h_this] [(h_this, ob 4 [.ref h_this_waiting, .int x_this_waitingCount, .int x_this_open, .int x_this_expected, .int x_this_kind, .int x_this_left, .int x_this_sign, .int x_this_token, .int x_this_tokenAt, .int x_this_numeral, .int x_this_place])] r [(h_this, ob 4 [.ref h_this_waiting, .int x_this_waitingCount, .int x_this_open, .int x_this_expected, .int x_this_kind, .int x_this_left, .int x_this_sign, .int x_this_token, .int x_this_tokenAt, .int x_this_numeral, .int x_this_place])] := by
  refine mFi.of (by decide +kernel) (Nat.le_of_ble_eq_true rfl) ?_
  intro p e s m below meth c A C hr hlk h ls hl
  obtain ⟨hx, hb, hml, hown, hts⟩ := id C
  replace hl : lv_has ls 1 [(0, .ref h_this)] := hl
  unfold f_X4_valueOfToken at hf
  refine lv_aload_n hx hb dX4_valueOfToken_0 rfl (lv_at hl 0 rfl) ?_
  refine r_get C h fk_X4_34 0 rfl rfl dX4_valueOfToken_1 ?_
  refine lv_bipush (v := (18 : Int32)) hx hb dX4_valueOfToken_4 rfl ?_
  refine lv_icmp_ne (tgt := 14) hx hb dX4_valueOfToken_6 rfl (fun c1 => ?_) (fun c1 => ?_)
  · replace hf := ifn c1 hf
    refine lv_aload_n hx hb dX4_valueOfToken_14 rfl (lv_at hl 0 rfl) ?_
    refine r_get C h fk_X4_34 0 rfl rfl dX4_valueOfToken_15 ?_
    refine lv_bipush (v := (13 : Int32)) hx hb dX4_valueOfToken_18 rfl ?_
    refine lv_icmp_lt (tgt := 46) hx hb dX4_valueOfToken_20 rfl (fun c2 => ?_) (fun c2 => ?_)
    · replace hf := ifp c2 hf
      refine lv_bipush (v := (-3 : Int32)) hx hb dX4_valueOfToken_46 rfl ?_
      cases hf
      exact r_iret C h hr hlk rfl dX4_valueOfToken_48
    · replace hf := ifn c2 hf
      refine lv_aload_n hx hb dX4_valueOfToken_23 rfl (lv_at hl 0 rfl) ?_
      refine r_get C h fk_X4_34 0 rfl rfl dX4_valueOfToken_24 ?_
      refine lv_bipush (v := (17 : Int32)) hx hb dX4_valueOfToken_27 rfl ?_
      refine lv_icmp_gt (tgt := 46) hx hb dX4_valueOfToken_29 rfl (fun c3 => ?_) (fun c3 => ?_)
      · replace hf := ifp c3 hf
        refine lv_bipush (v := (-3 : Int32)) hx hb dX4_valueOfToken_46 rfl ?_
        cases hf
        exact r_iret C h hr hlk rfl dX4_valueOfToken_48
      · replace hf := ifn c3 hf
        refine lv_sipush (v := (10000 : Int32)) hx hb dX4_valueOfToken_32 rfl ?_
        refine lv_aload_n hx hb dX4_valueOfToken_35 rfl (lv_at hl 0 rfl) ?_
        refine r_get C h fk_X4_34 0 rfl rfl dX4_valueOfToken_36 ?_
        refine lv_iadd hx hb dX4_valueOfToken_39 ?_
        refine lv_bipush (v := (13 : Int32)) hx hb dX4_valueOfToken_40 rfl ?_
        refine lv_isub hx hb dX4_valueOfToken_42 ?_
        refine lv_goto (tgt := 48) hx hb dX4_valueOfToken_43 rfl ?_
        cases hf
        exact r_iret C h hr hlk rfl dX4_valueOfToken_48
  · replace hf := ifp c1 hf
    refine lv_aload_n hx hb dX4_valueOfToken_9 rfl (lv_at hl 0 rfl) ?_
    refine r_get C h fk_X4_40 0 rfl rfl dX4_valueOfToken_10 ?_
    cases hf
    exact r_iret C h hr hlk rfl dX4_valueOfToken_13
def f_X4_acceptsOne (x_this_waitingCount : Int32) (x_this_open : Int32) (x_this_expected : Int32) (x_this_left : Int32) (x_this_token : Int32) (x_this_numeral : Int32) (f_this_waiting : Nat → Int32) : Option (Int32 × Int32 × Int32 × Int32 × Int32 × (Nat → Int32)) := (if x_this_token = (12 : Int32) then bd2 (f_X4_await (3 : Int32) x_this_waitingCount f_this_waiting) (fun y15 g16 => some ((1 : Int32), y15, x_this_open, x_this_expected, x_this_left, g16)) else (if x_this_token = (296 : Int32) then (if x_this_open < (3 : Int32) then lt1 (x_this_open + (1 : Int32)) (fun (t11 : Int32) => bd2 (f_X4_await (0 : Int32) x_this_waitingCount f_this_waiting) (fun y12 g13 => some ((1 : Int32), y12, t11, x_this_expected, x_this_left, g13))) else some ((0 : Int32), x_this_waitingCount, x_this_open, x_this_expected, x_this_left, f_this_waiting)) else bd1 (f_X4_valueOfToken x_this_token x_this_numeral) (fun r3 => (if r3 = (-3 : Int32) then some ((0 : Int32), x_this_waitingCount, x_this_open, x_this_expected, r3, f_this_waiting) else bd2 (f_X4_expect (3 : Int32)) (fun r6 y7 => (if r6 = 0 then some ((0 : Int32), x_this_waitingCount, x_this_open, y7, r3, f_this_waiting) else some ((1 : Int32), x_this_waitingCount, x_this_open, y7, r3, f_this_waiting)))))))
set_option maxRecDepth 100000 in
set_option maxHeartbeats 4000000 in
theorem c_X4_acceptsOne {l : Launch} {G : Gt} {h_this h_this_waiting : Nat} {x_this_waitingCount : Int32} {x_this_open : Int32} {x_this_expected : Int32} {x_this_kind : Int32} {x_this_left : Int32} {x_this_sign : Int32} {x_this_token : Int32} {x_this_tokenAt : Int32} {x_this_numeral : Int32} {x_this_place : Int32} {f_this_waiting : Nat → Int32} {r : Int32} {m_this_waitingCount : Int32} {m_this_open : Int32} {m_this_expected : Int32} {m_this_left : Int32} {m_this_waiting : Nat → Int32} (hf : f_X4_acceptsOne x_this_waitingCount x_this_open x_this_expected x_this_left x_this_token x_this_numeral f_this_waiting = some (r, m_this_waitingCount, m_this_open, m_this_expected, m_this_left, m_this_waiting)) : mFi l G yX4_acceptsOne cX4_acceptsOne 1 .boolean 1 [.ref h_this] [(h_this, ob 4 [.ref h_this_waiting, .int x_this_waitingCount, .int x_this_open, .int x_this_expected, .int x_this_kind, .int x_this_left, .int x_this_sign, .int x_this_token, .int x_this_tokenAt, .int x_this_numeral, .int x_this_place]), (h_this_waiting, ia G 200 f_this_waiting)] r [(h_this, ob 4 [.ref h_this_waiting, .int m_this_waitingCount, .int m_this_open, .int m_this_expected, .int x_this_kind, .int m_this_left, .int x_this_sign, .int x_this_token, .int x_this_tokenAt, .int x_this_numeral, .int x_this_place]), (h_this_waiting, ia G 200 m_this_waiting)] := by
  refine mFi.of (by decide +kernel) (Nat.le_of_ble_eq_true rfl) ?_
  intro p e s m below meth c A C hr hlk h ls hl
  obtain ⟨hx, hb, hml, hown, hts⟩ := id C
  replace hl : lv_has ls 1 [(0, .ref h_this)] := hl
  unfold f_X4_acceptsOne at hf
  refine lv_aload_n hx hb dX4_acceptsOne_0 rfl (lv_at hl 0 rfl) ?_
  refine r_get C h fk_X4_34 0 rfl rfl dX4_acceptsOne_1 ?_
  refine lv_bipush (v := (12 : Int32)) hx hb dX4_acceptsOne_4 rfl ?_
  refine lv_icmp_ne (tgt := 16) hx hb dX4_acceptsOne_6 rfl (fun c1 => ?_) (fun c1 => ?_)
  · replace hf := ifn c1 hf
    refine lv_aload_n hx hb dX4_acceptsOne_16 rfl (lv_at hl 0 rfl) ?_
    refine r_get C h fk_X4_34 0 rfl rfl dX4_acceptsOne_17 ?_
    refine lv_sipush (v := (296 : Int32)) hx hb dX4_acceptsOne_20 rfl ?_
    refine lv_icmp_ne (tgt := 53) hx hb dX4_acceptsOne_23 rfl (fun c2 => ?_) (fun c2 => ?_)
    · replace hf := ifn c2 hf
      refine lv_aload_n hx hb dX4_acceptsOne_53 rfl (lv_at hl 0 rfl) ?_
      refine lv_aload_n hx hb dX4_acceptsOne_54 rfl (lv_at hl 0 rfl) ?_
      replace hf := bd1_inv hf
      obtain ⟨r3, hc4, hf⟩ := hf
      refine r_ciV0 C h (c_X4_valueOfToken hc4) mv_X4_118 rfl 0 rfl [0] rfl rfl hl.1 rfl (Nat.le_of_ble_eq_true rfl) (rok (by decide)) dX4_acceptsOne_55 (fun H locs h => ?_)
      refine r_put (ws' := [(h_this, ob 4 [.ref h_this_waiting, .int x_this_waitingCount, .int x_this_open, .int x_this_expected, .int x_this_kind, .int r3, .int x_this_sign, .int x_this_token, .int x_this_tokenAt, .int x_this_numeral, .int x_this_place]), (h_this_waiting, ia G 200 f_this_waiting)]) C h fw_X4_28 0 rfl rfl rfl (Nat.le_of_ble_eq_true rfl) dX4_acceptsOne_58 rfl (fun H locs h => ?_)
      refine lv_aload_n hx hb dX4_acceptsOne_61 rfl (lv_at hl 0 rfl) ?_
      refine r_get C h fk_X4_28 0 rfl rfl dX4_acceptsOne_62 ?_
      refine lv_bipush (v := (-3 : Int32)) hx hb dX4_acceptsOne_65 rfl ?_
      refine lv_icmp_eq (tgt := 82) hx hb dX4_acceptsOne_67 rfl (fun c5 => ?_) (fun c5 => ?_)
      · replace hf := ifp c5 hf
        refine lv_iconst (v := (0 : Int32)) hx hb dX4_acceptsOne_82 rfl ?_
        cases hf
        exact r_iret C h hr hlk rfl dX4_acceptsOne_83
      · replace hf := ifn c5 hf
        refine lv_aload_n hx hb dX4_acceptsOne_70 rfl (lv_at hl 0 rfl) ?_
        refine lv_iconst (v := (3 : Int32)) hx hb dX4_acceptsOne_71 rfl ?_
        replace hf := bd2_inv hf
        obtain ⟨r6, y7, hc8, hf⟩ := hf
        refine r_ciV (ws' := [(h_this, ob 4 [.ref h_this_waiting, .int x_this_waitingCount, .int x_this_open, .int y7, .int x_this_kind, .int r3, .int x_this_sign, .int x_this_token, .int x_this_tokenAt, .int x_this_numeral, .int x_this_place]), (h_this_waiting, ia G 200 f_this_waiting)]) C h (c_X4_expect hc8) mv_X4_88 rfl 0 rfl [0] rfl rfl rfl rfl rfl hl.1 rfl (Nat.le_of_ble_eq_true rfl) (rok (by decide)) dX4_acceptsOne_72 (fun H locs h => ?_)
        refine lv_if_eq (tgt := 82) hx hb dX4_acceptsOne_75 rfl (fun c9 => ?_) (fun c9 => ?_)
        · replace hf := ifp c9 hf
          refine lv_iconst (v := (0 : Int32)) hx hb dX4_acceptsOne_82 rfl ?_
          cases hf
          exact r_iret C h hr hlk rfl dX4_acceptsOne_83
        · replace hf := ifn c9 hf
          refine lv_iconst (v := (1 : Int32)) hx hb dX4_acceptsOne_78 rfl ?_
          refine lv_goto (tgt := 83) hx hb dX4_acceptsOne_79 rfl ?_
          cases hf
          exact r_iret C h hr hlk rfl dX4_acceptsOne_83
    · replace hf := ifp c2 hf
      refine lv_aload_n hx hb dX4_acceptsOne_26 rfl (lv_at hl 0 rfl) ?_
      refine r_get C h fk_X4_19 0 rfl rfl dX4_acceptsOne_27 ?_
      refine lv_iconst (v := (3 : Int32)) hx hb dX4_acceptsOne_30 rfl ?_
      refine lv_icmp_lt (tgt := 36) hx hb dX4_acceptsOne_31 rfl (fun c10 => ?_) (fun c10 => ?_)
      · replace hf := ifp c10 hf
        refine lv_aload_n hx hb dX4_acceptsOne_36 rfl (lv_at hl 0 rfl) ?_
        refine lv_dup hx hb dX4_acceptsOne_37 rfl ?_
        refine r_get C h fk_X4_19 0 rfl rfl dX4_acceptsOne_38 ?_
        refine lv_iconst (v := (1 : Int32)) hx hb dX4_acceptsOne_41 rfl ?_
        refine lv_iadd hx hb dX4_acceptsOne_42 ?_
        refine lv_topi (fun t11 et11 => ?_)
        replace hf := lt1_inv et11 hf
        refine r_put (ws' := [(h_this, ob 4 [.ref h_this_waiting, .int x_this_waitingCount, .int t11, .int x_this_expected, .int x_this_kind, .int x_this_left, .int x_this_sign, .int x_this_token, .int x_this_tokenAt, .int x_this_numeral, .int x_this_place]), (h_this_waiting, ia G 200 f_this_waiting)]) C h fw_X4_19 0 rfl rfl rfl (Nat.le_of_ble_eq_true rfl) dX4_acceptsOne_43 rfl (fun H locs h => ?_)
        refine lv_aload_n hx hb dX4_acceptsOne_46 rfl (lv_at hl 0 rfl) ?_
        refine lv_iconst (v := (0 : Int32)) hx hb dX4_acceptsOne_47 rfl ?_
        replace hf := bd2_inv hf
        obtain ⟨y12, g13, hc14, hf⟩ := hf
        refine r_cvV (ws' := [(h_this, ob 4 [.ref h_this_waiting, .int y12, .int t11, .int x_this_expected, .int x_this_kind, .int x_this_left, .int x_this_sign, .int x_this_token, .int x_this_tokenAt, .int x_this_numeral, .int x_this_place]), (h_this_waiting, ia G 200 g13)]) C h (c_X4_await hc14) mv_X4_114 rfl 0 rfl [0, 1] rfl rfl rfl rfl rfl hl.1 rfl (Nat.le_of_ble_eq_true rfl) (rok (by decide)) dX4_acceptsOne_48 (fun H locs h => ?_)
        refine lv_iconst (v := (1 : Int32)) hx hb dX4_acceptsOne_51 rfl ?_
        cases hf
        exact r_iret C h hr hlk rfl dX4_acceptsOne_52
      · replace hf := ifn c10 hf
        refine lv_iconst (v := (0 : Int32)) hx hb dX4_acceptsOne_34 rfl ?_
        cases hf
        exact r_iret C h hr hlk rfl dX4_acceptsOne_35
  · replace hf := ifp c1 hf
    refine lv_aload_n hx hb dX4_acceptsOne_9 rfl (lv_at hl 0 rfl) ?_
    refine lv_iconst (v := (3 : Int32)) hx hb dX4_acceptsOne_10 rfl ?_
    replace hf := bd2_inv hf
    obtain ⟨y15, g16, hc17, hf⟩ := hf
    refine r_cvV (ws' := [(h_this, ob 4 [.ref h_this_waiting, .int y15, .int x_this_open, .int x_this_expected, .int x_this_kind, .int x_this_left, .int x_this_sign, .int x_this_token, .int x_this_tokenAt, .int x_this_numeral, .int x_this_place]), (h_this_waiting, ia G 200 g16)]) C h (c_X4_await hc17) mv_X4_114 rfl 0 rfl [0, 1] rfl rfl rfl rfl rfl hl.1 rfl (Nat.le_of_ble_eq_true rfl) (rok (by decide)) dX4_acceptsOne_11 (fun H locs h => ?_)
    refine lv_iconst (v := (1 : Int32)) hx hb dX4_acceptsOne_14 rfl ?_
    cases hf
    exact r_iret C h hr hlk rfl dX4_acceptsOne_15
def f_X4_acceptsSign (x_this_expected : Int32) (x_this_sign : Int32) (x_this_token : Int32) : Option (Int32 × Int32 × Int32) := (if x_this_token = (316 : Int32) then bd2 (f_X4_expect (4 : Int32)) (fun r4 y5 => chkB r4 (some (r4, y5, (4 : Int32)))) else (if x_this_token = (317 : Int32) then bd2 (f_X4_expect (4 : Int32)) (fun r8 y9 => chkB r8 (some (r8, y9, (5 : Int32)))) else (if x_this_token = (318 : Int32) then bd2 (f_X4_expect (4 : Int32)) (fun r12 y13 => chkB r12 (some (r12, y13, (6 : Int32)))) else some ((0 : Int32), x_this_expected, x_this_sign))))
set_option maxRecDepth 100000 in
set_option maxHeartbeats 4000000 in
theorem c_X4_acceptsSign {l : Launch} {G : Gt} {h_this h_this_waiting : Nat} {x_this_waitingCount : Int32} {x_this_open : Int32} {x_this_expected : Int32} {x_this_kind : Int32} {x_this_left : Int32} {x_this_sign : Int32} {x_this_token : Int32} {x_this_tokenAt : Int32} {x_this_numeral : Int32} {x_this_place : Int32} {r : Int32} {m_this_expected : Int32} {m_this_sign : Int32} (hf : f_X4_acceptsSign x_this_expected x_this_sign x_this_token = some (r, m_this_expected, m_this_sign)) : mFi l G yX4_acceptsSign cX4_acceptsSign 1 .boolean 1 [.ref h_this] [(h_this, ob 4 [.ref h_this_waiting, .int x_this_waitingCount, .int x_this_open, .int x_this_expected, .int x_this_kind, .int x_this_left, .int x_this_sign, .int x_this_token, .int x_this_tokenAt, .int x_this_numeral, .int x_this_place])] r [(h_this, ob 4 [.ref h_this_waiting, .int x_this_waitingCount, .int x_this_open, .int m_this_expected, .int x_this_kind, .int x_this_left, .int m_this_sign, .int x_this_token, .int x_this_tokenAt, .int x_this_numeral, .int x_this_place])] := by
  refine mFi.of (by decide +kernel) (Nat.le_of_ble_eq_true rfl) ?_
  intro p e s m below meth c A C hr hlk h ls hl
  obtain ⟨hx, hb, hml, hown, hts⟩ := id C
  replace hl : lv_has ls 1 [(0, .ref h_this)] := hl
  unfold f_X4_acceptsSign at hf
  refine lv_aload_n hx hb dX4_acceptsSign_0 rfl (lv_at hl 0 rfl) ?_
  refine r_get C h fk_X4_34 0 rfl rfl dX4_acceptsSign_1 ?_
  by_cases c1 : x_this_token = (316 : Int32)
  · replace hf := ifp c1 hf
    refine r_tab (tgt := 32) C dX4_acceptsSign_4 (316 : Int32) c1 (by decide) rfl rfl ?_
    refine lv_aload_n hx hb dX4_acceptsSign_32 rfl (lv_at hl 0 rfl) ?_
    refine lv_iconst (v := (4 : Int32)) hx hb dX4_acceptsSign_33 rfl ?_
    refine r_put (ws' := [(h_this, ob 4 [.ref h_this_waiting, .int x_this_waitingCount, .int x_this_open, .int x_this_expected, .int x_this_kind, .int x_this_left, .int (4 : Int32), .int x_this_token, .int x_this_tokenAt, .int x_this_numeral, .int x_this_place])]) C h fw_X4_31 0 rfl rfl rfl (Nat.le_of_ble_eq_true rfl) dX4_acceptsSign_34 rfl (fun H locs h => ?_)
    refine lv_goto (tgt := 59) hx hb dX4_acceptsSign_37 rfl ?_
    refine lv_aload_n hx hb dX4_acceptsSign_59 rfl (lv_at hl 0 rfl) ?_
    refine lv_iconst (v := (4 : Int32)) hx hb dX4_acceptsSign_60 rfl ?_
    replace hf := bd2_inv hf
    obtain ⟨r4, y5, hc6, hf⟩ := hf
    refine r_ciV (ws' := [(h_this, ob 4 [.ref h_this_waiting, .int x_this_waitingCount, .int x_this_open, .int y5, .int x_this_kind, .int x_this_left, .int (4 : Int32), .int x_this_token, .int x_this_tokenAt, .int x_this_numeral, .int x_this_place])]) C h (c_X4_expect hc6) mv_X4_88 rfl 0 rfl [0] rfl rfl rfl rfl rfl hl.1 rfl (Nat.le_of_ble_eq_true rfl) (rok (by decide)) dX4_acceptsSign_61 (fun H locs h => ?_)
    replace hf := chkB_inv hf
    obtain ⟨hb7, hf⟩ := hf
    cases hf
    exact r_iret C h hr hlk hb7 dX4_acceptsSign_64
  · replace hf := ifn c1 hf
    by_cases c2 : x_this_token = (317 : Int32)
    · replace hf := ifp c2 hf
      refine r_tab (tgt := 40) C dX4_acceptsSign_4 (317 : Int32) c2 (by decide) rfl rfl ?_
      refine lv_aload_n hx hb dX4_acceptsSign_40 rfl (lv_at hl 0 rfl) ?_
      refine lv_iconst (v := (5 : Int32)) hx hb dX4_acceptsSign_41 rfl ?_
      refine r_put (ws' := [(h_this, ob 4 [.ref h_this_waiting, .int x_this_waitingCount, .int x_this_open, .int x_this_expected, .int x_this_kind, .int x_this_left, .int (5 : Int32), .int x_this_token, .int x_this_tokenAt, .int x_this_numeral, .int x_this_place])]) C h fw_X4_31 0 rfl rfl rfl (Nat.le_of_ble_eq_true rfl) dX4_acceptsSign_42 rfl (fun H locs h => ?_)
      refine lv_goto (tgt := 59) hx hb dX4_acceptsSign_45 rfl ?_
      refine lv_aload_n hx hb dX4_acceptsSign_59 rfl (lv_at hl 0 rfl) ?_
      refine lv_iconst (v := (4 : Int32)) hx hb dX4_acceptsSign_60 rfl ?_
      replace hf := bd2_inv hf
      obtain ⟨r8, y9, hc10, hf⟩ := hf
      refine r_ciV (ws' := [(h_this, ob 4 [.ref h_this_waiting, .int x_this_waitingCount, .int x_this_open, .int y9, .int x_this_kind, .int x_this_left, .int (5 : Int32), .int x_this_token, .int x_this_tokenAt, .int x_this_numeral, .int x_this_place])]) C h (c_X4_expect hc10) mv_X4_88 rfl 0 rfl [0] rfl rfl rfl rfl rfl hl.1 rfl (Nat.le_of_ble_eq_true rfl) (rok (by decide)) dX4_acceptsSign_61 (fun H locs h => ?_)
      replace hf := chkB_inv hf
      obtain ⟨hb11, hf⟩ := hf
      cases hf
      exact r_iret C h hr hlk hb11 dX4_acceptsSign_64
    · replace hf := ifn c2 hf
      by_cases c3 : x_this_token = (318 : Int32)
      · replace hf := ifp c3 hf
        refine r_tab (tgt := 48) C dX4_acceptsSign_4 (318 : Int32) c3 (by decide) rfl rfl ?_
        refine lv_aload_n hx hb dX4_acceptsSign_48 rfl (lv_at hl 0 rfl) ?_
        refine lv_bipush (v := (6 : Int32)) hx hb dX4_acceptsSign_49 rfl ?_
        refine r_put (ws' := [(h_this, ob 4 [.ref h_this_waiting, .int x_this_waitingCount, .int x_this_open, .int x_this_expected, .int x_this_kind, .int x_this_left, .int (6 : Int32), .int x_this_token, .int x_this_tokenAt, .int x_this_numeral, .int x_this_place])]) C h fw_X4_31 0 rfl rfl rfl (Nat.le_of_ble_eq_true rfl) dX4_acceptsSign_51 rfl (fun H locs h => ?_)
        refine lv_goto (tgt := 59) hx hb dX4_acceptsSign_54 rfl ?_
        refine lv_aload_n hx hb dX4_acceptsSign_59 rfl (lv_at hl 0 rfl) ?_
        refine lv_iconst (v := (4 : Int32)) hx hb dX4_acceptsSign_60 rfl ?_
        replace hf := bd2_inv hf
        obtain ⟨r12, y13, hc14, hf⟩ := hf
        refine r_ciV (ws' := [(h_this, ob 4 [.ref h_this_waiting, .int x_this_waitingCount, .int x_this_open, .int y13, .int x_this_kind, .int x_this_left, .int (6 : Int32), .int x_this_token, .int x_this_tokenAt, .int x_this_numeral, .int x_this_place])]) C h (c_X4_expect hc14) mv_X4_88 rfl 0 rfl [0] rfl rfl rfl rfl rfl hl.1 rfl (Nat.le_of_ble_eq_true rfl) (rok (by decide)) dX4_acceptsSign_61 (fun H locs h => ?_)
        replace hf := chkB_inv hf
        obtain ⟨hb15, hf⟩ := hf
        cases hf
        exact r_iret C h hr hlk hb15 dX4_acceptsSign_64
      · replace hf := ifn c3 hf
        refine r_tabD (tgt := 57) C dX4_acceptsSign_4 [(316 : Int32), (317 : Int32), (318 : Int32)] (by decide) (nel_c c1 (nel_c c2 (nel_c c3 nel_0))) rfl ?_
        refine lv_iconst (v := (0 : Int32)) hx hb dX4_acceptsSign_57 rfl ?_
        cases hf
        exact r_iret C h hr hlk rfl dX4_acceptsSign_58
def f_X5_addStep (p0 : Int32) (p1 : Int32) (p2 : Int32) (x_this_size : Int32) (f_this_lefts : Nat → Int32) (f_this_rights : Nat → Int32) (f_this_steps : Nat → Int32) : Option (Int32 × (Nat → Int32) × (Nat → Int32) × (Nat → Int32)) := (if (200 : Int32) ≤ x_this_size then some (x_this_size, f_this_lefts, f_this_rights, f_this_steps) else chkI x_this_size 200 (chkI x_this_size 200 (chkI x_this_size 200 (lt1 (x_this_size + (1 : Int32)) (fun (t5 : Int32) => some (t5, upd f_this_lefts x_this_size.toNatClampNeg p1, upd f_this_rights x_this_size.toNatClampNeg p2, upd f_this_steps x_this_size.toNatClampNeg p0))))))
set_option maxRecDepth 100000 in
set_option maxHeartbeats 4000000 in
theorem c_X5_addStep {l : Launch} {G : Gt} {h_this h_this_kinds h_this_deeds h_this_begins h_this_steps h_this_lefts h_this_rights h_this_facts : Nat} {p0 : Int32} {p1 : Int32} {p2 : Int32} {x_this_count : Int32} {x_this_size : Int32} {f_this_lefts : Nat → Int32} {f_this_rights : Nat → Int32} {f_this_steps : Nat → Int32} {m_this_size : Int32} {m_this_lefts : Nat → Int32} {m_this_rights : Nat → Int32} {m_this_steps : Nat → Int32} (hf : f_X5_addStep p0 p1 p2 x_this_size f_this_lefts f_this_rights f_this_steps = some (m_this_size, m_this_lefts, m_this_rights, m_this_steps)) : mFv l G yX5_addStep cX5_addStep 4 0 [.ref h_this, .int p0, .int p1, .int p2] [(h_this, ob 5 [.ref h_this_kinds, .ref h_this_deeds, .ref h_this_begins, .ref h_this_steps, .ref h_this_lefts, .ref h_this_rights, .ref h_this_facts, .int x_this_count, .int x_this_size]), (h_this_lefts, ia G 200 f_this_lefts), (h_this_rights, ia G 200 f_this_rights), (h_this_steps, ia G 200 f_this_steps)] [(h_this, ob 5 [.ref h_this_kinds, .ref h_this_deeds, .ref h_this_begins, .ref h_this_steps, .ref h_this_lefts, .ref h_this_rights, .ref h_this_facts, .int x_this_count, .int m_this_size]), (h_this_lefts, ia G 200 m_this_lefts), (h_this_rights, ia G 200 m_this_rights), (h_this_steps, ia G 200 m_this_steps)] := by
  refine mFv.of (by decide +kernel) (Nat.le_of_ble_eq_true rfl) ?_
  intro p e s m below meth c A C hr hlk h ls hl
  obtain ⟨hx, hb, hml, hown, hts⟩ := id C
  replace hl : lv_has ls 4 [(0, .ref h_this), (1, .int p0), (2, .int p1), (3, .int p2)] := hl
  unfold f_X5_addStep at hf
  refine lv_aload_n hx hb dX5_addStep_0 rfl (lv_at hl 0 rfl) ?_
  refine r_get C h fk_X5_37 0 rfl rfl dX5_addStep_1 ?_
  refine lv_sipush (v := (200 : Int32)) hx hb dX5_addStep_4 rfl ?_
  refine lv_icmp_ge (tgt := 50) hx hb dX5_addStep_7 rfl (fun c1 => ?_) (fun c1 => ?_)
  · replace hf := ifp c1 hf
    cases hf
    exact r_vret C h hr hlk dX5_addStep_50
  · replace hf := ifn c1 hf
    refine lv_aload_n hx hb dX5_addStep_10 rfl (lv_at hl 0 rfl) ?_
    refine r_get C h fk_X5_21 0 rfl rfl dX5_addStep_11 ?_
    refine lv_aload_n hx hb dX5_addStep_14 rfl (lv_at hl 0 rfl) ?_
    refine r_get C h fk_X5_37 0 rfl rfl dX5_addStep_15 ?_
    refine lv_iload_n hx hb dX5_addStep_18 rfl (lv_at hl 1 rfl) ?_
    replace hf := chkI_inv hf
    obtain ⟨hi2, hf⟩ := hf
    refine r_iast (ws' := [(h_this, ob 5 [.ref h_this_kinds, .ref h_this_deeds, .ref h_this_begins, .ref h_this_steps, .ref h_this_lefts, .ref h_this_rights, .ref h_this_facts, .int x_this_count, .int x_this_size]), (h_this_lefts, ia G 200 f_this_lefts), (h_this_rights, ia G 200 f_this_rights), (h_this_steps, ia G 200 (upd f_this_steps x_this_size.toNatClampNeg p0))]) C h 3 rfl hi2 dX5_addStep_19 rfl (fun H locs h => ?_)
    refine lv_aload_n hx hb dX5_addStep_20 rfl (lv_at hl 0 rfl) ?_
    refine r_get C h fk_X5_24 0 rfl rfl dX5_addStep_21 ?_
    refine lv_aload_n hx hb dX5_addStep_24 rfl (lv_at hl 0 rfl) ?_
    refine r_get C h fk_X5_37 0 rfl rfl dX5_addStep_25 ?_
    refine lv_iload_n hx hb dX5_addStep_28 rfl (lv_at hl 2 rfl) ?_
    replace hf := chkI_inv hf
    obtain ⟨hi3, hf⟩ := hf
    refine r_iast (ws' := [(h_this, ob 5 [.ref h_this_kinds, .ref h_this_deeds, .ref h_this_begins, .ref h_this_steps, .ref h_this_lefts, .ref h_this_rights, .ref h_this_facts, .int x_this_count, .int x_this_size]), (h_this_lefts, ia G 200 (upd f_this_lefts x_this_size.toNatClampNeg p1)), (h_this_rights, ia G 200 f_this_rights), (h_this_steps, ia G 200 (upd f_this_steps x_this_size.toNatClampNeg p0))]) C h 1 rfl hi3 dX5_addStep_29 rfl (fun H locs h => ?_)
    refine lv_aload_n hx hb dX5_addStep_30 rfl (lv_at hl 0 rfl) ?_
    refine r_get C h fk_X5_27 0 rfl rfl dX5_addStep_31 ?_
    refine lv_aload_n hx hb dX5_addStep_34 rfl (lv_at hl 0 rfl) ?_
    refine r_get C h fk_X5_37 0 rfl rfl dX5_addStep_35 ?_
    refine lv_iload_n hx hb dX5_addStep_38 rfl (lv_at hl 3 rfl) ?_
    replace hf := chkI_inv hf
    obtain ⟨hi4, hf⟩ := hf
    refine r_iast (ws' := [(h_this, ob 5 [.ref h_this_kinds, .ref h_this_deeds, .ref h_this_begins, .ref h_this_steps, .ref h_this_lefts, .ref h_this_rights, .ref h_this_facts, .int x_this_count, .int x_this_size]), (h_this_lefts, ia G 200 (upd f_this_lefts x_this_size.toNatClampNeg p1)), (h_this_rights, ia G 200 (upd f_this_rights x_this_size.toNatClampNeg p2)), (h_this_steps, ia G 200 (upd f_this_steps x_this_size.toNatClampNeg p0))]) C h 2 rfl hi4 dX5_addStep_39 rfl (fun H locs h => ?_)
    refine lv_aload_n hx hb dX5_addStep_40 rfl (lv_at hl 0 rfl) ?_
    refine lv_dup hx hb dX5_addStep_41 rfl ?_
    refine r_get C h fk_X5_37 0 rfl rfl dX5_addStep_42 ?_
    refine lv_iconst (v := (1 : Int32)) hx hb dX5_addStep_45 rfl ?_
    refine lv_iadd hx hb dX5_addStep_46 ?_
    refine lv_topi (fun t5 et5 => ?_)
    replace hf := lt1_inv et5 hf
    refine r_put (ws' := [(h_this, ob 5 [.ref h_this_kinds, .ref h_this_deeds, .ref h_this_begins, .ref h_this_steps, .ref h_this_lefts, .ref h_this_rights, .ref h_this_facts, .int x_this_count, .int t5]), (h_this_lefts, ia G 200 (upd f_this_lefts x_this_size.toNatClampNeg p1)), (h_this_rights, ia G 200 (upd f_this_rights x_this_size.toNatClampNeg p2)), (h_this_steps, ia G 200 (upd f_this_steps x_this_size.toNatClampNeg p0))]) C h fw_X5_37 0 rfl rfl rfl (Nat.le_of_ble_eq_true rfl) dX5_addStep_47 rfl (fun H locs h => ?_)
    cases hf
    exact r_vret C h hr hlk dX5_addStep_50
def f_X4_acceptsRight (x_a0_size : Int32) (f_a0_lefts : Nat → Int32) (f_a0_rights : Nat → Int32) (f_a0_steps : Nat → Int32) (x_this_expected : Int32) (x_this_left : Int32) (x_this_sign : Int32) (x_this_token : Int32) (x_this_numeral : Int32) : Option (Int32 × Int32 × (Nat → Int32) × (Nat → Int32) × (Nat → Int32) × Int32) := bd1 (f_X4_valueOfToken x_this_token x_this_numeral) (fun r1 => (if r1 = (-3 : Int32) then some ((0 : Int32), x_a0_size, f_a0_lefts, f_a0_rights, f_a0_steps, x_this_expected) else bd4 (f_X5_addStep x_this_sign x_this_left r1 x_a0_size f_a0_lefts f_a0_rights f_a0_steps) (fun y4 g5 g6 g7 => bd2 (f_X4_expect (5 : Int32)) (fun r9 y10 => chkB r9 (some (r9, y4, g5, g6, g7, y10))))))
set_option maxRecDepth 100000 in
set_option maxHeartbeats 4000000 in
theorem c_X4_acceptsRight {l : Launch} {G : Gt} {h_a0 h_a0_kinds h_a0_deeds h_a0_begins h_a0_steps h_a0_lefts h_a0_rights h_a0_facts h_this h_this_waiting : Nat} {x_a0_count : Int32} {x_a0_size : Int32} {f_a0_lefts : Nat → Int32} {f_a0_rights : Nat → Int32} {f_a0_steps : Nat → Int32} {x_this_waitingCount : Int32} {x_this_open : Int32} {x_this_expected : Int32} {x_this_kind : Int32} {x_this_left : Int32} {x_this_sign : Int32} {x_this_token : Int32} {x_this_tokenAt : Int32} {x_this_numeral : Int32} {x_this_place : Int32} {r : Int32} {m_a0_size : Int32} {m_a0_lefts : Nat → Int32} {m_a0_rights : Nat → Int32} {m_a0_steps : Nat → Int32} {m_this_expected : Int32} (hf : f_X4_acceptsRight x_a0_size f_a0_lefts f_a0_rights f_a0_steps x_this_expected x_this_left x_this_sign x_this_token x_this_numeral = some (r, m_a0_size, m_a0_lefts, m_a0_rights, m_a0_steps, m_this_expected)) : mFi l G yX4_acceptsRight cX4_acceptsRight 3 .boolean 1 [.ref h_this, .ref h_a0] [(h_a0, ob 5 [.ref h_a0_kinds, .ref h_a0_deeds, .ref h_a0_begins, .ref h_a0_steps, .ref h_a0_lefts, .ref h_a0_rights, .ref h_a0_facts, .int x_a0_count, .int x_a0_size]), (h_a0_lefts, ia G 200 f_a0_lefts), (h_a0_rights, ia G 200 f_a0_rights), (h_a0_steps, ia G 200 f_a0_steps), (h_this, ob 4 [.ref h_this_waiting, .int x_this_waitingCount, .int x_this_open, .int x_this_expected, .int x_this_kind, .int x_this_left, .int x_this_sign, .int x_this_token, .int x_this_tokenAt, .int x_this_numeral, .int x_this_place])] r [(h_a0, ob 5 [.ref h_a0_kinds, .ref h_a0_deeds, .ref h_a0_begins, .ref h_a0_steps, .ref h_a0_lefts, .ref h_a0_rights, .ref h_a0_facts, .int x_a0_count, .int m_a0_size]), (h_a0_lefts, ia G 200 m_a0_lefts), (h_a0_rights, ia G 200 m_a0_rights), (h_a0_steps, ia G 200 m_a0_steps), (h_this, ob 4 [.ref h_this_waiting, .int x_this_waitingCount, .int x_this_open, .int m_this_expected, .int x_this_kind, .int x_this_left, .int x_this_sign, .int x_this_token, .int x_this_tokenAt, .int x_this_numeral, .int x_this_place])] := by
  refine mFi.of (by decide +kernel) (Nat.le_of_ble_eq_true rfl) ?_
  intro p e s m below meth c A C hr hlk h ls hl
  obtain ⟨hx, hb, hml, hown, hts⟩ := id C
  replace hl : lv_has ls 3 [(0, .ref h_this), (1, .ref h_a0)] := hl
  unfold f_X4_acceptsRight at hf
  refine lv_aload_n hx hb dX4_acceptsRight_0 rfl (lv_at hl 0 rfl) ?_
  replace hf := bd1_inv hf
  obtain ⟨r1, hc2, hf⟩ := hf
  refine r_ciV0 C h (c_X4_valueOfToken hc2) mv_X4_118 rfl 4 rfl [4] rfl rfl hl.1 rfl (Nat.le_of_ble_eq_true rfl) (rok (by decide)) dX4_acceptsRight_1 (fun H locs h => ?_)
  refine lv_istore_n (lv' := [(2, .int r1), (0, .ref h_this), (1, .ref h_a0)]) hx hb dX4_acceptsRight_4 rfl hl (by decide) rfl (fun ls hl => ?_)
  refine lv_iload_n hx hb dX4_acceptsRight_5 rfl (lv_at hl 0 rfl) ?_
  refine lv_bipush (v := (-3 : Int32)) hx hb dX4_acceptsRight_6 rfl ?_
  refine lv_icmp_ne (tgt := 13) hx hb dX4_acceptsRight_8 rfl (fun c3 => ?_) (fun c3 => ?_)
  · replace hf := ifn c3 hf
    refine lv_aload_n hx hb dX4_acceptsRight_13 rfl (lv_at hl 2 rfl) ?_
    refine lv_aload_n hx hb dX4_acceptsRight_14 rfl (lv_at hl 1 rfl) ?_
    refine r_get C h fk_X4_31 4 rfl rfl dX4_acceptsRight_15 ?_
    refine lv_aload_n hx hb dX4_acceptsRight_18 rfl (lv_at hl 1 rfl) ?_
    refine r_get C h fk_X4_28 4 rfl rfl dX4_acceptsRight_19 ?_
    refine lv_iload_n hx hb dX4_acceptsRight_22 rfl (lv_at hl 0 rfl) ?_
    replace hf := bd4_inv hf
    obtain ⟨y4, g5, g6, g7, hc8, hf⟩ := hf
    refine r_cvV (ws' := [(h_a0, ob 5 [.ref h_a0_kinds, .ref h_a0_deeds, .ref h_a0_begins, .ref h_a0_steps, .ref h_a0_lefts, .ref h_a0_rights, .ref h_a0_facts, .int x_a0_count, .int y4]), (h_a0_lefts, ia G 200 g5), (h_a0_rights, ia G 200 g6), (h_a0_steps, ia G 200 g7), (h_this, ob 4 [.ref h_this_waiting, .int x_this_waitingCount, .int x_this_open, .int x_this_expected, .int x_this_kind, .int x_this_left, .int x_this_sign, .int x_this_token, .int x_this_tokenAt, .int x_this_numeral, .int x_this_place])]) C h (c_X5_addStep hc8) mv_X4_121 rfl 0 rfl [0, 1, 2, 3] rfl rfl rfl rfl rfl hl.1 rfl (Nat.le_of_ble_eq_true rfl) (rok (by decide)) dX4_acceptsRight_23 (fun H locs h => ?_)
    refine lv_aload_n hx hb dX4_acceptsRight_26 rfl (lv_at hl 1 rfl) ?_
    refine lv_iconst (v := (5 : Int32)) hx hb dX4_acceptsRight_27 rfl ?_
    replace hf := bd2_inv hf
    obtain ⟨r9, y10, hc11, hf⟩ := hf
    refine r_ciV (ws' := [(h_a0, ob 5 [.ref h_a0_kinds, .ref h_a0_deeds, .ref h_a0_begins, .ref h_a0_steps, .ref h_a0_lefts, .ref h_a0_rights, .ref h_a0_facts, .int x_a0_count, .int y4]), (h_a0_lefts, ia G 200 g5), (h_a0_rights, ia G 200 g6), (h_a0_steps, ia G 200 g7), (h_this, ob 4 [.ref h_this_waiting, .int x_this_waitingCount, .int x_this_open, .int y10, .int x_this_kind, .int x_this_left, .int x_this_sign, .int x_this_token, .int x_this_tokenAt, .int x_this_numeral, .int x_this_place])]) C h (c_X4_expect hc11) mv_X4_88 rfl 4 rfl [4] rfl rfl rfl rfl rfl hl.1 rfl (Nat.le_of_ble_eq_true rfl) (rok (by decide)) dX4_acceptsRight_28 (fun H locs h => ?_)
    replace hf := chkB_inv hf
    obtain ⟨hb12, hf⟩ := hf
    cases hf
    exact r_iret C h hr hlk hb12 dX4_acceptsRight_31
  · replace hf := ifp c3 hf
    refine lv_iconst (v := (0 : Int32)) hx hb dX4_acceptsRight_11 rfl ?_
    cases hf
    exact r_iret C h hr hlk rfl dX4_acceptsRight_12
def f_X4_join_L0 (p1 : Int32) (f_this_waiting : Nat → Int32) : Nat → Int32 → (Nat → Int32) → (Nat → Int32) → (Nat → Int32) → Int32 → Option (Int32 × (Nat → Int32) × (Nat → Int32) × (Nat → Int32) × Int32)
  | 0, _, _, _, _, _ => none
  | n + 1, y_a0_size, g_a0_lefts, g_a0_rights, g_a0_steps, y_this_waitingCount => (if y_this_waitingCount ≤ 0 then some (y_a0_size, g_a0_lefts, g_a0_rights, g_a0_steps, y_this_waitingCount) else chkI (y_this_waitingCount - (1 : Int32)) 200 ((if (f_this_waiting (y_this_waitingCount - (1 : Int32)).toNatClampNeg) < p1 then some (y_a0_size, g_a0_lefts, g_a0_rights, g_a0_steps, y_this_waitingCount) else lt1 (y_this_waitingCount - (1 : Int32)) (fun (t4 : Int32) => chkI t4 200 (bd4 (f_X5_addStep (f_this_waiting t4.toNatClampNeg) (0 : Int32) (0 : Int32) y_a0_size g_a0_lefts g_a0_rights g_a0_steps) (fun y6 g7 g8 g9 => (f_X4_join_L0 p1 f_this_waiting n) y6 g7 g8 g9 t4))))))
def f_X4_join (p1 : Int32) (x_a0_size : Int32) (f_a0_lefts : Nat → Int32) (f_a0_rights : Nat → Int32) (f_a0_steps : Nat → Int32) (x_this_waitingCount : Int32) (f_this_waiting : Nat → Int32) : Option (Int32 × (Nat → Int32) × (Nat → Int32) × (Nat → Int32) × Int32) := f_X4_join_L0 p1 f_this_waiting 1000 x_a0_size f_a0_lefts f_a0_rights f_a0_steps x_this_waitingCount
set_option maxRecDepth 100000 in
set_option maxHeartbeats 4000000 in
theorem c_X4_join {l : Launch} {G : Gt} {h_a0 h_a0_kinds h_a0_deeds h_a0_begins h_a0_steps h_a0_lefts h_a0_rights h_a0_facts h_this h_this_waiting : Nat} {p1 : Int32} {x_a0_count : Int32} {x_a0_size : Int32} {f_a0_lefts : Nat → Int32} {f_a0_rights : Nat → Int32} {f_a0_steps : Nat → Int32} {x_this_waitingCount : Int32} {x_this_open : Int32} {x_this_expected : Int32} {x_this_kind : Int32} {x_this_left : Int32} {x_this_sign : Int32} {x_this_token : Int32} {x_this_tokenAt : Int32} {x_this_numeral : Int32} {x_this_place : Int32} {f_this_waiting : Nat → Int32} {m_a0_size : Int32} {m_a0_lefts : Nat → Int32} {m_a0_rights : Nat → Int32} {m_a0_steps : Nat → Int32} {m_this_waitingCount : Int32} (hf : f_X4_join p1 x_a0_size f_a0_lefts f_a0_rights f_a0_steps x_this_waitingCount f_this_waiting = some (m_a0_size, m_a0_lefts, m_a0_rights, m_a0_steps, m_this_waitingCount)) : mFv l G yX4_join cX4_join 3 1 [.ref h_this, .ref h_a0, .int p1] [(h_a0, ob 5 [.ref h_a0_kinds, .ref h_a0_deeds, .ref h_a0_begins, .ref h_a0_steps, .ref h_a0_lefts, .ref h_a0_rights, .ref h_a0_facts, .int x_a0_count, .int x_a0_size]), (h_a0_lefts, ia G 200 f_a0_lefts), (h_a0_rights, ia G 200 f_a0_rights), (h_a0_steps, ia G 200 f_a0_steps), (h_this, ob 4 [.ref h_this_waiting, .int x_this_waitingCount, .int x_this_open, .int x_this_expected, .int x_this_kind, .int x_this_left, .int x_this_sign, .int x_this_token, .int x_this_tokenAt, .int x_this_numeral, .int x_this_place]), (h_this_waiting, ia G 200 f_this_waiting)] [(h_a0, ob 5 [.ref h_a0_kinds, .ref h_a0_deeds, .ref h_a0_begins, .ref h_a0_steps, .ref h_a0_lefts, .ref h_a0_rights, .ref h_a0_facts, .int x_a0_count, .int m_a0_size]), (h_a0_lefts, ia G 200 m_a0_lefts), (h_a0_rights, ia G 200 m_a0_rights), (h_a0_steps, ia G 200 m_a0_steps), (h_this, ob 4 [.ref h_this_waiting, .int m_this_waitingCount, .int x_this_open, .int x_this_expected, .int x_this_kind, .int x_this_left, .int x_this_sign, .int x_this_token, .int x_this_tokenAt, .int x_this_numeral, .int x_this_place]), (h_this_waiting, ia G 200 f_this_waiting)] := by
  refine mFv.of (by decide +kernel) (Nat.le_of_ble_eq_true rfl) ?_
  intro p e s m below meth c A C hr hlk h ls hl
  obtain ⟨hx, hb, hml, hown, hts⟩ := id C
  replace hl : lv_has ls 3 [(0, .ref h_this), (1, .ref h_a0), (2, .int p1)] := hl
  unfold f_X4_join at hf
  refine with_K G A 3 (fun K hK1 hK2 => ?_)
  have L0 : ∀ (n : Nat) (y_a0_size : Int32) (g_a0_lefts : Nat → Int32) (g_a0_rights : Nat → Int32) (g_a0_steps : Nat → Int32) (y_this_waitingCount : Int32), f_X4_join_L0 p1 f_this_waiting n y_a0_size g_a0_lefts g_a0_rights g_a0_steps y_this_waitingCount = some (m_a0_size, m_a0_lefts, m_a0_rights, m_a0_steps, m_this_waitingCount) → K 0 ([] : List Value) [(h_a0, ob 5 [.ref h_a0_kinds, .ref h_a0_deeds, .ref h_a0_begins, .ref h_a0_steps, .ref h_a0_lefts, .ref h_a0_rights, .ref h_a0_facts, .int x_a0_count, .int y_a0_size]), (h_a0_lefts, ia G 200 g_a0_lefts), (h_a0_rights, ia G 200 g_a0_rights), (h_a0_steps, ia G 200 g_a0_steps), (h_this, ob 4 [.ref h_this_waiting, .int y_this_waitingCount, .int x_this_open, .int x_this_expected, .int x_this_kind, .int x_this_left, .int x_this_sign, .int x_this_token, .int x_this_tokenAt, .int x_this_numeral, .int x_this_place]), (h_this_waiting, ia G 200 f_this_waiting)] [(0, .ref h_this), (1, .ref h_a0), (2, .int p1)] := by
    intro n
    induction n with
    | zero =>
      intro y_a0_size g_a0_lefts g_a0_rights g_a0_steps y_this_waitingCount hf
      replace hf : (none : Option _) = some _ := hf
      cases hf
    | succ n ih =>
      intro y_a0_size g_a0_lefts g_a0_rights g_a0_steps y_this_waitingCount hf
      rw [f_X4_join_L0] at hf
      refine hK1 _ _ _ _ (fun H locs ls h hl => ?_)
      refine lv_aload_n hx hb dX4_join_0 rfl (lv_at hl 0 rfl) ?_
      refine r_get C h fk_X4_15 4 rfl rfl dX4_join_1 ?_
      refine lv_if_le (tgt := 50) hx hb dX4_join_4 rfl (fun c1 => ?_) (fun c1 => ?_)
      · replace hf := ifp c1 hf
        cases hf
        exact r_vret C h hr hlk dX4_join_50
      · replace hf := ifn c1 hf
        refine lv_aload_n hx hb dX4_join_7 rfl (lv_at hl 0 rfl) ?_
        refine r_get C h fk_X4_9 4 rfl rfl dX4_join_8 ?_
        refine lv_aload_n hx hb dX4_join_11 rfl (lv_at hl 0 rfl) ?_
        refine r_get C h fk_X4_15 4 rfl rfl dX4_join_12 ?_
        refine lv_iconst (v := (1 : Int32)) hx hb dX4_join_15 rfl ?_
        refine lv_isub hx hb dX4_join_16 ?_
        replace hf := chkI_inv hf
        obtain ⟨hi2, hf⟩ := hf
        refine r_iald C h 5 rfl hi2 dX4_join_17 ?_
        refine lv_iload_n hx hb dX4_join_18 rfl (lv_at hl 2 rfl) ?_
        refine lv_icmp_lt (tgt := 50) hx hb dX4_join_19 rfl (fun c3 => ?_) (fun c3 => ?_)
        · replace hf := ifp c3 hf
          cases hf
          exact r_vret C h hr hlk dX4_join_50
        · replace hf := ifn c3 hf
          refine lv_aload_n hx hb dX4_join_22 rfl (lv_at hl 0 rfl) ?_
          refine lv_dup hx hb dX4_join_23 rfl ?_
          refine r_get C h fk_X4_15 4 rfl rfl dX4_join_24 ?_
          refine lv_iconst (v := (1 : Int32)) hx hb dX4_join_27 rfl ?_
          refine lv_isub hx hb dX4_join_28 ?_
          refine lv_topi (fun t4 et4 => ?_)
          replace hf := lt1_inv et4 hf
          refine r_put (ws' := [(h_a0, ob 5 [.ref h_a0_kinds, .ref h_a0_deeds, .ref h_a0_begins, .ref h_a0_steps, .ref h_a0_lefts, .ref h_a0_rights, .ref h_a0_facts, .int x_a0_count, .int y_a0_size]), (h_a0_lefts, ia G 200 g_a0_lefts), (h_a0_rights, ia G 200 g_a0_rights), (h_a0_steps, ia G 200 g_a0_steps), (h_this, ob 4 [.ref h_this_waiting, .int t4, .int x_this_open, .int x_this_expected, .int x_this_kind, .int x_this_left, .int x_this_sign, .int x_this_token, .int x_this_tokenAt, .int x_this_numeral, .int x_this_place]), (h_this_waiting, ia G 200 f_this_waiting)]) C h fw_X4_15 4 rfl rfl rfl (Nat.le_of_ble_eq_true rfl) dX4_join_29 rfl (fun H locs h => ?_)
          refine lv_aload_n hx hb dX4_join_32 rfl (lv_at hl 1 rfl) ?_
          refine lv_aload_n hx hb dX4_join_33 rfl (lv_at hl 0 rfl) ?_
          refine r_get C h fk_X4_9 4 rfl rfl dX4_join_34 ?_
          refine lv_aload_n hx hb dX4_join_37 rfl (lv_at hl 0 rfl) ?_
          refine r_get C h fk_X4_15 4 rfl rfl dX4_join_38 ?_
          replace hf := chkI_inv hf
          obtain ⟨hi5, hf⟩ := hf
          refine r_iald C h 5 rfl hi5 dX4_join_41 ?_
          refine lv_iconst (v := (0 : Int32)) hx hb dX4_join_42 rfl ?_
          refine lv_iconst (v := (0 : Int32)) hx hb dX4_join_43 rfl ?_
          replace hf := bd4_inv hf
          obtain ⟨y6, g7, g8, g9, hc10, hf⟩ := hf
          refine r_cvV (ws' := [(h_a0, ob 5 [.ref h_a0_kinds, .ref h_a0_deeds, .ref h_a0_begins, .ref h_a0_steps, .ref h_a0_lefts, .ref h_a0_rights, .ref h_a0_facts, .int x_a0_count, .int y6]), (h_a0_lefts, ia G 200 g7), (h_a0_rights, ia G 200 g8), (h_a0_steps, ia G 200 g9), (h_this, ob 4 [.ref h_this_waiting, .int t4, .int x_this_open, .int x_this_expected, .int x_this_kind, .int x_this_left, .int x_this_sign, .int x_this_token, .int x_this_tokenAt, .int x_this_numeral, .int x_this_place]), (h_this_waiting, ia G 200 f_this_waiting)]) C h (c_X5_addStep hc10) mv_X4_121 rfl 0 rfl [0, 1, 2, 3] rfl rfl rfl rfl rfl hl.1 rfl (Nat.le_of_ble_eq_true rfl) (rok (by decide)) dX4_join_44 (fun H locs h => ?_)
          refine lv_goto (tgt := 0) hx hb dX4_join_47 rfl ?_
          exact hK2 _ _ _ _ (ih y6 g7 g8 g9 t4 hf) _ _ _ h (lv_sub hl [0, 1, 2] rfl)
  exact hK2 _ _ _ _ (L0 1000 x_a0_size f_a0_lefts f_a0_rights f_a0_steps x_this_waitingCount hf) _ _ _ h (lv_sub hl [0, 1, 2] rfl)
def f_X4_closes (x_a0_size : Int32) (f_a0_lefts : Nat → Int32) (f_a0_rights : Nat → Int32) (f_a0_steps : Nat → Int32) (x_this_waitingCount : Int32) (x_this_open : Int32) (f_this_waiting : Nat → Int32) : Option (Int32 × Int32 × (Nat → Int32) × (Nat → Int32) × (Nat → Int32) × Int32 × Int32) := bd5 (f_X4_join (1 : Int32) x_a0_size f_a0_lefts f_a0_rights f_a0_steps x_this_waitingCount f_this_waiting) (fun y1 g2 g3 g4 y5 => lt1 (x_this_open - (1 : Int32)) (fun (t7 : Int32) => (if y5 ≤ 0 then some ((1 : Int32), y1, g2, g3, g4, y5, t7) else lt1 (y5 - (1 : Int32)) (fun (t9 : Int32) => some ((1 : Int32), y1, g2, g3, g4, t9, t7)))))
set_option maxRecDepth 100000 in
set_option maxHeartbeats 4000000 in
theorem c_X4_closes {l : Launch} {G : Gt} {h_a0 h_a0_kinds h_a0_deeds h_a0_begins h_a0_steps h_a0_lefts h_a0_rights h_a0_facts h_this h_this_waiting : Nat} {x_a0_count : Int32} {x_a0_size : Int32} {f_a0_lefts : Nat → Int32} {f_a0_rights : Nat → Int32} {f_a0_steps : Nat → Int32} {x_this_waitingCount : Int32} {x_this_open : Int32} {x_this_expected : Int32} {x_this_kind : Int32} {x_this_left : Int32} {x_this_sign : Int32} {x_this_token : Int32} {x_this_tokenAt : Int32} {x_this_numeral : Int32} {x_this_place : Int32} {f_this_waiting : Nat → Int32} {r : Int32} {m_a0_size : Int32} {m_a0_lefts : Nat → Int32} {m_a0_rights : Nat → Int32} {m_a0_steps : Nat → Int32} {m_this_waitingCount : Int32} {m_this_open : Int32} (hf : f_X4_closes x_a0_size f_a0_lefts f_a0_rights f_a0_steps x_this_waitingCount x_this_open f_this_waiting = some (r, m_a0_size, m_a0_lefts, m_a0_rights, m_a0_steps, m_this_waitingCount, m_this_open)) : mFi l G yX4_closes cX4_closes 2 .boolean 2 [.ref h_this, .ref h_a0] [(h_a0, ob 5 [.ref h_a0_kinds, .ref h_a0_deeds, .ref h_a0_begins, .ref h_a0_steps, .ref h_a0_lefts, .ref h_a0_rights, .ref h_a0_facts, .int x_a0_count, .int x_a0_size]), (h_a0_lefts, ia G 200 f_a0_lefts), (h_a0_rights, ia G 200 f_a0_rights), (h_a0_steps, ia G 200 f_a0_steps), (h_this, ob 4 [.ref h_this_waiting, .int x_this_waitingCount, .int x_this_open, .int x_this_expected, .int x_this_kind, .int x_this_left, .int x_this_sign, .int x_this_token, .int x_this_tokenAt, .int x_this_numeral, .int x_this_place]), (h_this_waiting, ia G 200 f_this_waiting)] r [(h_a0, ob 5 [.ref h_a0_kinds, .ref h_a0_deeds, .ref h_a0_begins, .ref h_a0_steps, .ref h_a0_lefts, .ref h_a0_rights, .ref h_a0_facts, .int x_a0_count, .int m_a0_size]), (h_a0_lefts, ia G 200 m_a0_lefts), (h_a0_rights, ia G 200 m_a0_rights), (h_a0_steps, ia G 200 m_a0_steps), (h_this, ob 4 [.ref h_this_waiting, .int m_this_waitingCount, .int m_this_open, .int x_this_expected, .int x_this_kind, .int x_this_left, .int x_this_sign, .int x_this_token, .int x_this_tokenAt, .int x_this_numeral, .int x_this_place]), (h_this_waiting, ia G 200 f_this_waiting)] := by
  refine mFi.of (by decide +kernel) (Nat.le_of_ble_eq_true rfl) ?_
  intro p e s m below meth c A C hr hlk h ls hl
  obtain ⟨hx, hb, hml, hown, hts⟩ := id C
  replace hl : lv_has ls 2 [(0, .ref h_this), (1, .ref h_a0)] := hl
  unfold f_X4_closes at hf
  refine lv_aload_n hx hb dX4_closes_0 rfl (lv_at hl 0 rfl) ?_
  refine lv_aload_n hx hb dX4_closes_1 rfl (lv_at hl 1 rfl) ?_
  refine lv_iconst (v := (1 : Int32)) hx hb dX4_closes_2 rfl ?_
  replace hf := bd5_inv hf
  obtain ⟨y1, g2, g3, g4, y5, hc6, hf⟩ := hf
  refine r_cvV (ws' := [(h_a0, ob 5 [.ref h_a0_kinds, .ref h_a0_deeds, .ref h_a0_begins, .ref h_a0_steps, .ref h_a0_lefts, .ref h_a0_rights, .ref h_a0_facts, .int x_a0_count, .int y1]), (h_a0_lefts, ia G 200 g2), (h_a0_rights, ia G 200 g3), (h_a0_steps, ia G 200 g4), (h_this, ob 4 [.ref h_this_waiting, .int y5, .int x_this_open, .int x_this_expected, .int x_this_kind, .int x_this_left, .int x_this_sign, .int x_this_token, .int x_this_tokenAt, .int x_this_numeral, .int x_this_place]), (h_this_waiting, ia G 200 f_this_waiting)]) C h (c_X4_join hc6) mv_X4_125 rfl 4 rfl [0, 1, 2, 3, 4, 5] rfl rfl rfl rfl rfl hl.1 rfl (Nat.le_of_ble_eq_true rfl) (rok (by decide)) dX4_closes_3 (fun H locs h => ?_)
  refine lv_aload_n hx hb dX4_closes_6 rfl (lv_at hl 0 rfl) ?_
  refine lv_dup hx hb dX4_closes_7 rfl ?_
  refine r_get C h fk_X4_19 4 rfl rfl dX4_closes_8 ?_
  refine lv_iconst (v := (1 : Int32)) hx hb dX4_closes_11 rfl ?_
  refine lv_isub hx hb dX4_closes_12 ?_
  refine lv_topi (fun t7 et7 => ?_)
  replace hf := lt1_inv et7 hf
  refine r_put (ws' := [(h_a0, ob 5 [.ref h_a0_kinds, .ref h_a0_deeds, .ref h_a0_begins, .ref h_a0_steps, .ref h_a0_lefts, .ref h_a0_rights, .ref h_a0_facts, .int x_a0_count, .int y1]), (h_a0_lefts, ia G 200 g2), (h_a0_rights, ia G 200 g3), (h_a0_steps, ia G 200 g4), (h_this, ob 4 [.ref h_this_waiting, .int y5, .int t7, .int x_this_expected, .int x_this_kind, .int x_this_left, .int x_this_sign, .int x_this_token, .int x_this_tokenAt, .int x_this_numeral, .int x_this_place]), (h_this_waiting, ia G 200 f_this_waiting)]) C h fw_X4_19 4 rfl rfl rfl (Nat.le_of_ble_eq_true rfl) dX4_closes_13 rfl (fun H locs h => ?_)
  refine lv_aload_n hx hb dX4_closes_16 rfl (lv_at hl 0 rfl) ?_
  refine r_get C h fk_X4_15 4 rfl rfl dX4_closes_17 ?_
  refine lv_if_le (tgt := 33) hx hb dX4_closes_20 rfl (fun c8 => ?_) (fun c8 => ?_)
  · replace hf := ifp c8 hf
    refine lv_iconst (v := (1 : Int32)) hx hb dX4_closes_33 rfl ?_
    cases hf
    exact r_iret C h hr hlk rfl dX4_closes_34
  · replace hf := ifn c8 hf
    refine lv_aload_n hx hb dX4_closes_23 rfl (lv_at hl 0 rfl) ?_
    refine lv_dup hx hb dX4_closes_24 rfl ?_
    refine r_get C h fk_X4_15 4 rfl rfl dX4_closes_25 ?_
    refine lv_iconst (v := (1 : Int32)) hx hb dX4_closes_28 rfl ?_
    refine lv_isub hx hb dX4_closes_29 ?_
    refine lv_topi (fun t9 et9 => ?_)
    replace hf := lt1_inv et9 hf
    refine r_put (ws' := [(h_a0, ob 5 [.ref h_a0_kinds, .ref h_a0_deeds, .ref h_a0_begins, .ref h_a0_steps, .ref h_a0_lefts, .ref h_a0_rights, .ref h_a0_facts, .int x_a0_count, .int y1]), (h_a0_lefts, ia G 200 g2), (h_a0_rights, ia G 200 g3), (h_a0_steps, ia G 200 g4), (h_this, ob 4 [.ref h_this_waiting, .int t9, .int t7, .int x_this_expected, .int x_this_kind, .int x_this_left, .int x_this_sign, .int x_this_token, .int x_this_tokenAt, .int x_this_numeral, .int x_this_place]), (h_this_waiting, ia G 200 f_this_waiting)]) C h fw_X4_15 4 rfl rfl rfl (Nat.le_of_ble_eq_true rfl) dX4_closes_30 rfl (fun H locs h => ?_)
    refine lv_iconst (v := (1 : Int32)) hx hb dX4_closes_33 rfl ?_
    cases hf
    exact r_iret C h hr hlk rfl dX4_closes_34
def f_X4_acceptsBehindOne_b32 (x_a0_count : Int32) (x_a0_size : Int32) (f_a0_begins : Nat → Int32) (f_a0_deeds : Nat → Int32) (f_a0_kinds : Nat → Int32) (f_a0_lefts : Nat → Int32) (f_a0_rights : Nat → Int32) (f_a0_steps : Nat → Int32) (x_this_waitingCount : Int32) (x_this_open : Int32) (f_this_waiting : Nat → Int32) (s0 : Int32) : Option (Int32 × Int32 × Int32 × (Nat → Int32) × (Nat → Int32) × (Nat → Int32) × (Nat → Int32) × (Nat → Int32) × (Nat → Int32) × Int32 × Int32 × Int32 × (Nat → Int32)) := bd5 (f_X4_join s0 x_a0_size f_a0_lefts f_a0_rights f_a0_steps x_this_waitingCount f_this_waiting) (fun y3 g4 g5 g6 y7 => bd2 (f_X4_await s0 y7 f_this_waiting) (fun y9 g10 => bd2 (f_X4_expect (2 : Int32)) (fun r12 y13 => chkB r12 (some (r12, x_a0_count, y3, f_a0_begins, f_a0_deeds, f_a0_kinds, g4, g5, g6, y9, x_this_open, y13, g10)))))
def f_X4_acceptsBehindOne_b18 (x_a0_count : Int32) (x_a0_size : Int32) (f_a0_begins : Nat → Int32) (f_a0_deeds : Nat → Int32) (f_a0_kinds : Nat → Int32) (f_a0_lefts : Nat → Int32) (f_a0_rights : Nat → Int32) (f_a0_steps : Nat → Int32) (x_this_waitingCount : Int32) (x_this_open : Int32) (x_this_token : Int32) (f_this_waiting : Nat → Int32) : Option (Int32 × Int32 × Int32 × (Nat → Int32) × (Nat → Int32) × (Nat → Int32) × (Nat → Int32) × (Nat → Int32) × (Nat → Int32) × Int32 × Int32 × Int32 × (Nat → Int32)) := (if x_this_token = (10 : Int32) then f_X4_acceptsBehindOne_b32 x_a0_count x_a0_size f_a0_begins f_a0_deeds f_a0_kinds f_a0_lefts f_a0_rights f_a0_steps x_this_waitingCount x_this_open f_this_waiting (2 : Int32) else f_X4_acceptsBehindOne_b32 x_a0_count x_a0_size f_a0_begins f_a0_deeds f_a0_kinds f_a0_lefts f_a0_rights f_a0_steps x_this_waitingCount x_this_open f_this_waiting (1 : Int32))
def f_X4_acceptsBehindOne (x_a0_count : Int32) (x_a0_size : Int32) (f_a0_begins : Nat → Int32) (f_a0_deeds : Nat → Int32) (f_a0_kinds : Nat → Int32) (f_a0_lefts : Nat → Int32) (f_a0_rights : Nat → Int32) (f_a0_steps : Nat → Int32) (x_this_waitingCount : Int32) (x_this_open : Int32) (x_this_expected : Int32) (x_this_kind : Int32) (x_this_token : Int32) (f_this_waiting : Nat → Int32) : Option (Int32 × Int32 × Int32 × (Nat → Int32) × (Nat → Int32) × (Nat → Int32) × (Nat → Int32) × (Nat → Int32) × (Nat → Int32) × Int32 × Int32 × Int32 × (Nat → Int32)) := (if x_this_token = (10 : Int32) then f_X4_acceptsBehindOne_b18 x_a0_count x_a0_size f_a0_begins f_a0_deeds f_a0_kinds f_a0_lefts f_a0_rights f_a0_steps x_this_waitingCount x_this_open x_this_token f_this_waiting else (if x_this_token = (11 : Int32) then f_X4_acceptsBehindOne_b18 x_a0_count x_a0_size f_a0_begins f_a0_deeds f_a0_kinds f_a0_lefts f_a0_rights f_a0_steps x_this_waitingCount x_this_open x_this_token f_this_waiting else (if x_this_open = 0 then bd5 (f_X4_join (1 : Int32) x_a0_size f_a0_lefts f_a0_rights f_a0_steps x_this_waitingCount f_this_waiting) (fun y28 g29 g30 g31 y32 => bd6 (f_X4_acceptsDo x_a0_count y28 f_a0_begins f_a0_deeds f_a0_kinds x_this_expected x_this_kind x_this_token) (fun r34 y35 g36 g37 g38 y39 => chkB r34 (some (r34, y35, y28, g36, g37, g38, g29, g30, g31, y32, x_this_open, y39, f_this_waiting)))) else (if x_this_token = (297 : Int32) then bd7 (f_X4_closes x_a0_size f_a0_lefts f_a0_rights f_a0_steps x_this_waitingCount x_this_open f_this_waiting) (fun r19 y20 g21 g22 g23 y24 y25 => (if r19 = 0 then some ((0 : Int32), x_a0_count, y20, f_a0_begins, f_a0_deeds, f_a0_kinds, g21, g22, g23, y24, y25, x_this_expected, f_this_waiting) else some ((1 : Int32), x_a0_count, y20, f_a0_begins, f_a0_deeds, f_a0_kinds, g21, g22, g23, y24, y25, x_this_expected, f_this_waiting))) else some ((0 : Int32), x_a0_count, x_a0_size, f_a0_begins, f_a0_deeds, f_a0_kinds, f_a0_lefts, f_a0_rights, f_a0_steps, x_this_waitingCount, x_this_open, x_this_expected, f_this_waiting)))))
set_option maxRecDepth 100000 in
set_option maxHeartbeats 4000000 in
theorem c_X4_acceptsBehindOne {l : Launch} {G : Gt} {h_a0 h_a0_kinds h_a0_deeds h_a0_begins h_a0_steps h_a0_lefts h_a0_rights h_a0_facts h_this h_this_waiting : Nat} {x_a0_count : Int32} {x_a0_size : Int32} {f_a0_begins : Nat → Int32} {f_a0_deeds : Nat → Int32} {f_a0_kinds : Nat → Int32} {f_a0_lefts : Nat → Int32} {f_a0_rights : Nat → Int32} {f_a0_steps : Nat → Int32} {x_this_waitingCount : Int32} {x_this_open : Int32} {x_this_expected : Int32} {x_this_kind : Int32} {x_this_left : Int32} {x_this_sign : Int32} {x_this_token : Int32} {x_this_tokenAt : Int32} {x_this_numeral : Int32} {x_this_place : Int32} {f_this_waiting : Nat → Int32} {r : Int32} {m_a0_count : Int32} {m_a0_size : Int32} {m_a0_begins : Nat → Int32} {m_a0_deeds : Nat → Int32} {m_a0_kinds : Nat → Int32} {m_a0_lefts : Nat → Int32} {m_a0_rights : Nat → Int32} {m_a0_steps : Nat → Int32} {m_this_waitingCount : Int32} {m_this_open : Int32} {m_this_expected : Int32} {m_this_waiting : Nat → Int32} (hf : f_X4_acceptsBehindOne x_a0_count x_a0_size f_a0_begins f_a0_deeds f_a0_kinds f_a0_lefts f_a0_rights f_a0_steps x_this_waitingCount x_this_open x_this_expected x_this_kind x_this_token f_this_waiting = some (r, m_a0_count, m_a0_size, m_a0_begins, m_a0_deeds, m_a0_kinds, m_a0_lefts, m_a0_rights, m_a0_steps, m_this_waitingCount, m_this_open, m_this_expected, m_this_waiting)) : mFi l G yX4_acceptsBehindOne cX4_acceptsBehindOne 3 .boolean 3 [.ref h_this, .ref h_a0] [(h_a0, ob 5 [.ref h_a0_kinds, .ref h_a0_deeds, .ref h_a0_begins, .ref h_a0_steps, .ref h_a0_lefts, .ref h_a0_rights, .ref h_a0_facts, .int x_a0_count, .int x_a0_size]), (h_a0_begins, ia G 9 f_a0_begins), (h_a0_deeds, ia G 8 f_a0_deeds), (h_a0_kinds, ia G 8 f_a0_kinds), (h_a0_lefts, ia G 200 f_a0_lefts), (h_a0_rights, ia G 200 f_a0_rights), (h_a0_steps, ia G 200 f_a0_steps), (h_this, ob 4 [.ref h_this_waiting, .int x_this_waitingCount, .int x_this_open, .int x_this_expected, .int x_this_kind, .int x_this_left, .int x_this_sign, .int x_this_token, .int x_this_tokenAt, .int x_this_numeral, .int x_this_place]), (h_this_waiting, ia G 200 f_this_waiting)] r [(h_a0, ob 5 [.ref h_a0_kinds, .ref h_a0_deeds, .ref h_a0_begins, .ref h_a0_steps, .ref h_a0_lefts, .ref h_a0_rights, .ref h_a0_facts, .int m_a0_count, .int m_a0_size]), (h_a0_begins, ia G 9 m_a0_begins), (h_a0_deeds, ia G 8 m_a0_deeds), (h_a0_kinds, ia G 8 m_a0_kinds), (h_a0_lefts, ia G 200 m_a0_lefts), (h_a0_rights, ia G 200 m_a0_rights), (h_a0_steps, ia G 200 m_a0_steps), (h_this, ob 4 [.ref h_this_waiting, .int m_this_waitingCount, .int m_this_open, .int m_this_expected, .int x_this_kind, .int x_this_left, .int x_this_sign, .int x_this_token, .int x_this_tokenAt, .int x_this_numeral, .int x_this_place]), (h_this_waiting, ia G 200 m_this_waiting)] := by
  refine mFi.of (by decide +kernel) (Nat.le_of_ble_eq_true rfl) ?_
  intro p e s m below meth c A C hr hlk h ls hl
  obtain ⟨hx, hb, hml, hown, hts⟩ := id C
  replace hl : lv_has ls 3 [(0, .ref h_this), (1, .ref h_a0)] := hl
  unfold f_X4_acceptsBehindOne at hf
  refine with_K G A 3 (fun K hK1 hK2 => ?_)
  have B32 : ∀ (s0 : Int32), f_X4_acceptsBehindOne_b32 x_a0_count x_a0_size f_a0_begins f_a0_deeds f_a0_kinds f_a0_lefts f_a0_rights f_a0_steps x_this_waitingCount x_this_open f_this_waiting s0 = some (r, m_a0_count, m_a0_size, m_a0_begins, m_a0_deeds, m_a0_kinds, m_a0_lefts, m_a0_rights, m_a0_steps, m_this_waitingCount, m_this_open, m_this_expected, m_this_waiting) → K 32 [.int s0] [(h_a0, ob 5 [.ref h_a0_kinds, .ref h_a0_deeds, .ref h_a0_begins, .ref h_a0_steps, .ref h_a0_lefts, .ref h_a0_rights, .ref h_a0_facts, .int x_a0_count, .int x_a0_size]), (h_a0_begins, ia G 9 f_a0_begins), (h_a0_deeds, ia G 8 f_a0_deeds), (h_a0_kinds, ia G 8 f_a0_kinds), (h_a0_lefts, ia G 200 f_a0_lefts), (h_a0_rights, ia G 200 f_a0_rights), (h_a0_steps, ia G 200 f_a0_steps), (h_this, ob 4 [.ref h_this_waiting, .int x_this_waitingCount, .int x_this_open, .int x_this_expected, .int x_this_kind, .int x_this_left, .int x_this_sign, .int x_this_token, .int x_this_tokenAt, .int x_this_numeral, .int x_this_place]), (h_this_waiting, ia G 200 f_this_waiting)] [(0, .ref h_this), (1, .ref h_a0)] := by
    intro s0 hf
    unfold f_X4_acceptsBehindOne_b32 at hf
    refine hK1 _ _ _ _ (fun H locs ls h hl => ?_)
    refine lv_istore_n (lv' := [(2, .int s0), (0, .ref h_this), (1, .ref h_a0)]) hx hb dX4_acceptsBehindOne_32 rfl hl (by decide) rfl (fun ls hl => ?_)
    refine lv_aload_n hx hb dX4_acceptsBehindOne_33 rfl (lv_at hl 1 rfl) ?_
    refine lv_aload_n hx hb dX4_acceptsBehindOne_34 rfl (lv_at hl 2 rfl) ?_
    refine lv_iload_n hx hb dX4_acceptsBehindOne_35 rfl (lv_at hl 0 rfl) ?_
    replace hf := bd5_inv hf
    obtain ⟨y3, g4, g5, g6, y7, hc8, hf⟩ := hf
    refine r_cvV (ws' := [(h_a0, ob 5 [.ref h_a0_kinds, .ref h_a0_deeds, .ref h_a0_begins, .ref h_a0_steps, .ref h_a0_lefts, .ref h_a0_rights, .ref h_a0_facts, .int x_a0_count, .int y3]), (h_a0_begins, ia G 9 f_a0_begins), (h_a0_deeds, ia G 8 f_a0_deeds), (h_a0_kinds, ia G 8 f_a0_kinds), (h_a0_lefts, ia G 200 g4), (h_a0_rights, ia G 200 g5), (h_a0_steps, ia G 200 g6), (h_this, ob 4 [.ref h_this_waiting, .int y7, .int x_this_open, .int x_this_expected, .int x_this_kind, .int x_this_left, .int x_this_sign, .int x_this_token, .int x_this_tokenAt, .int x_this_numeral, .int x_this_place]), (h_this_waiting, ia G 200 f_this_waiting)]) C h (c_X4_join hc8) mv_X4_125 rfl 7 rfl [0, 4, 5, 6, 7, 8] rfl rfl rfl rfl rfl hl.1 rfl (Nat.le_of_ble_eq_true rfl) (rok (by decide)) dX4_acceptsBehindOne_36 (fun H locs h => ?_)
    refine lv_aload_n hx hb dX4_acceptsBehindOne_39 rfl (lv_at hl 1 rfl) ?_
    refine lv_iload_n hx hb dX4_acceptsBehindOne_40 rfl (lv_at hl 0 rfl) ?_
    replace hf := bd2_inv hf
    obtain ⟨y9, g10, hc11, hf⟩ := hf
    refine r_cvV (ws' := [(h_a0, ob 5 [.ref h_a0_kinds, .ref h_a0_deeds, .ref h_a0_begins, .ref h_a0_steps, .ref h_a0_lefts, .ref h_a0_rights, .ref h_a0_facts, .int x_a0_count, .int y3]), (h_a0_begins, ia G 9 f_a0_begins), (h_a0_deeds, ia G 8 f_a0_deeds), (h_a0_kinds, ia G 8 f_a0_kinds), (h_a0_lefts, ia G 200 g4), (h_a0_rights, ia G 200 g5), (h_a0_steps, ia G 200 g6), (h_this, ob 4 [.ref h_this_waiting, .int y9, .int x_this_open, .int x_this_expected, .int x_this_kind, .int x_this_left, .int x_this_sign, .int x_this_token, .int x_this_tokenAt, .int x_this_numeral, .int x_this_place]), (h_this_waiting, ia G 200 g10)]) C h (c_X4_await hc11) mv_X4_114 rfl 7 rfl [7, 8] rfl rfl rfl rfl rfl hl.1 rfl (Nat.le_of_ble_eq_true rfl) (rok (by decide)) dX4_acceptsBehindOne_41 (fun H locs h => ?_)
    refine lv_aload_n hx hb dX4_acceptsBehindOne_44 rfl (lv_at hl 1 rfl) ?_
    refine lv_iconst (v := (2 : Int32)) hx hb dX4_acceptsBehindOne_45 rfl ?_
    replace hf := bd2_inv hf
    obtain ⟨r12, y13, hc14, hf⟩ := hf
    refine r_ciV (ws' := [(h_a0, ob 5 [.ref h_a0_kinds, .ref h_a0_deeds, .ref h_a0_begins, .ref h_a0_steps, .ref h_a0_lefts, .ref h_a0_rights, .ref h_a0_facts, .int x_a0_count, .int y3]), (h_a0_begins, ia G 9 f_a0_begins), (h_a0_deeds, ia G 8 f_a0_deeds), (h_a0_kinds, ia G 8 f_a0_kinds), (h_a0_lefts, ia G 200 g4), (h_a0_rights, ia G 200 g5), (h_a0_steps, ia G 200 g6), (h_this, ob 4 [.ref h_this_waiting, .int y9, .int x_this_open, .int y13, .int x_this_kind, .int x_this_left, .int x_this_sign, .int x_this_token, .int x_this_tokenAt, .int x_this_numeral, .int x_this_place]), (h_this_waiting, ia G 200 g10)]) C h (c_X4_expect hc14) mv_X4_88 rfl 7 rfl [7] rfl rfl rfl rfl rfl hl.1 rfl (Nat.le_of_ble_eq_true rfl) (rok (by decide)) dX4_acceptsBehindOne_46 (fun H locs h => ?_)
    replace hf := chkB_inv hf
    obtain ⟨hb15, hf⟩ := hf
    cases hf
    exact r_iret C h hr hlk hb15 dX4_acceptsBehindOne_49
  have B18 : f_X4_acceptsBehindOne_b18 x_a0_count x_a0_size f_a0_begins f_a0_deeds f_a0_kinds f_a0_lefts f_a0_rights f_a0_steps x_this_waitingCount x_this_open x_this_token f_this_waiting = some (r, m_a0_count, m_a0_size, m_a0_begins, m_a0_deeds, m_a0_kinds, m_a0_lefts, m_a0_rights, m_a0_steps, m_this_waitingCount, m_this_open, m_this_expected, m_this_waiting) → K 18 ([] : List Value) [(h_a0, ob 5 [.ref h_a0_kinds, .ref h_a0_deeds, .ref h_a0_begins, .ref h_a0_steps, .ref h_a0_lefts, .ref h_a0_rights, .ref h_a0_facts, .int x_a0_count, .int x_a0_size]), (h_a0_begins, ia G 9 f_a0_begins), (h_a0_deeds, ia G 8 f_a0_deeds), (h_a0_kinds, ia G 8 f_a0_kinds), (h_a0_lefts, ia G 200 f_a0_lefts), (h_a0_rights, ia G 200 f_a0_rights), (h_a0_steps, ia G 200 f_a0_steps), (h_this, ob 4 [.ref h_this_waiting, .int x_this_waitingCount, .int x_this_open, .int x_this_expected, .int x_this_kind, .int x_this_left, .int x_this_sign, .int x_this_token, .int x_this_tokenAt, .int x_this_numeral, .int x_this_place]), (h_this_waiting, ia G 200 f_this_waiting)] [(0, .ref h_this), (1, .ref h_a0)] := by
    intro hf
    unfold f_X4_acceptsBehindOne_b18 at hf
    refine hK1 _ _ _ _ (fun H locs ls h hl => ?_)
    refine lv_aload_n hx hb dX4_acceptsBehindOne_18 rfl (lv_at hl 0 rfl) ?_
    refine r_get C h fk_X4_34 7 rfl rfl dX4_acceptsBehindOne_19 ?_
    refine lv_bipush (v := (10 : Int32)) hx hb dX4_acceptsBehindOne_22 rfl ?_
    refine lv_icmp_ne (tgt := 31) hx hb dX4_acceptsBehindOne_24 rfl (fun c2 => ?_) (fun c2 => ?_)
    · replace hf := ifn c2 hf
      refine lv_iconst (v := (1 : Int32)) hx hb dX4_acceptsBehindOne_31 rfl ?_
      exact hK2 _ _ _ _ (B32 (1 : Int32) hf) _ _ _ h (lv_sub hl [0, 1] rfl)
    · replace hf := ifp c2 hf
      refine lv_iconst (v := (2 : Int32)) hx hb dX4_acceptsBehindOne_27 rfl ?_
      refine lv_goto (tgt := 32) hx hb dX4_acceptsBehindOne_28 rfl ?_
      exact hK2 _ _ _ _ (B32 (2 : Int32) hf) _ _ _ h (lv_sub hl [0, 1] rfl)
  refine lv_aload_n hx hb dX4_acceptsBehindOne_0 rfl (lv_at hl 0 rfl) ?_
  refine r_get C h fk_X4_34 7 rfl rfl dX4_acceptsBehindOne_1 ?_
  refine lv_bipush (v := (10 : Int32)) hx hb dX4_acceptsBehindOne_4 rfl ?_
  refine lv_icmp_eq (tgt := 18) hx hb dX4_acceptsBehindOne_6 rfl (fun c1 => ?_) (fun c1 => ?_)
  · replace hf := ifp c1 hf
    exact hK2 _ _ _ _ (B18 hf) _ _ _ h (lv_sub hl [0, 1] rfl)
  · replace hf := ifn c1 hf
    refine lv_aload_n hx hb dX4_acceptsBehindOne_9 rfl (lv_at hl 0 rfl) ?_
    refine r_get C h fk_X4_34 7 rfl rfl dX4_acceptsBehindOne_10 ?_
    refine lv_bipush (v := (11 : Int32)) hx hb dX4_acceptsBehindOne_13 rfl ?_
    refine lv_icmp_ne (tgt := 50) hx hb dX4_acceptsBehindOne_15 rfl (fun c16 => ?_) (fun c16 => ?_)
    · replace hf := ifn c16 hf
      refine lv_aload_n hx hb dX4_acceptsBehindOne_50 rfl (lv_at hl 0 rfl) ?_
      refine r_get C h fk_X4_19 7 rfl rfl dX4_acceptsBehindOne_51 ?_
      refine lv_if_ne (tgt := 69) hx hb dX4_acceptsBehindOne_54 rfl (fun c17 => ?_) (fun c17 => ?_)
      · replace hf := ifn c17 hf
        refine lv_aload_n hx hb dX4_acceptsBehindOne_69 rfl (lv_at hl 0 rfl) ?_
        refine r_get C h fk_X4_34 7 rfl rfl dX4_acceptsBehindOne_70 ?_
        refine lv_sipush (v := (297 : Int32)) hx hb dX4_acceptsBehindOne_73 rfl ?_
        refine lv_icmp_ne (tgt := 91) hx hb dX4_acceptsBehindOne_76 rfl (fun c18 => ?_) (fun c18 => ?_)
        · replace hf := ifn c18 hf
          refine lv_iconst (v := (0 : Int32)) hx hb dX4_acceptsBehindOne_91 rfl ?_
          cases hf
          exact r_iret C h hr hlk rfl dX4_acceptsBehindOne_92
        · replace hf := ifp c18 hf
          refine lv_aload_n hx hb dX4_acceptsBehindOne_79 rfl (lv_at hl 0 rfl) ?_
          refine lv_aload_n hx hb dX4_acceptsBehindOne_80 rfl (lv_at hl 1 rfl) ?_
          replace hf := bd7_inv hf
          obtain ⟨r19, y20, g21, g22, g23, y24, y25, hc26, hf⟩ := hf
          refine r_ciV (ws' := [(h_a0, ob 5 [.ref h_a0_kinds, .ref h_a0_deeds, .ref h_a0_begins, .ref h_a0_steps, .ref h_a0_lefts, .ref h_a0_rights, .ref h_a0_facts, .int x_a0_count, .int y20]), (h_a0_begins, ia G 9 f_a0_begins), (h_a0_deeds, ia G 8 f_a0_deeds), (h_a0_kinds, ia G 8 f_a0_kinds), (h_a0_lefts, ia G 200 g21), (h_a0_rights, ia G 200 g22), (h_a0_steps, ia G 200 g23), (h_this, ob 4 [.ref h_this_waiting, .int y24, .int y25, .int x_this_expected, .int x_this_kind, .int x_this_left, .int x_this_sign, .int x_this_token, .int x_this_tokenAt, .int x_this_numeral, .int x_this_place]), (h_this_waiting, ia G 200 f_this_waiting)]) C h (c_X4_closes hc26) mv_X4_129 rfl 7 rfl [0, 4, 5, 6, 7, 8] rfl rfl rfl rfl rfl hl.1 rfl (Nat.le_of_ble_eq_true rfl) (rok (by decide)) dX4_acceptsBehindOne_81 (fun H locs h => ?_)
          refine lv_if_eq (tgt := 91) hx hb dX4_acceptsBehindOne_84 rfl (fun c27 => ?_) (fun c27 => ?_)
          · replace hf := ifp c27 hf
            refine lv_iconst (v := (0 : Int32)) hx hb dX4_acceptsBehindOne_91 rfl ?_
            cases hf
            exact r_iret C h hr hlk rfl dX4_acceptsBehindOne_92
          · replace hf := ifn c27 hf
            refine lv_iconst (v := (1 : Int32)) hx hb dX4_acceptsBehindOne_87 rfl ?_
            refine lv_goto (tgt := 92) hx hb dX4_acceptsBehindOne_88 rfl ?_
            cases hf
            exact r_iret C h hr hlk rfl dX4_acceptsBehindOne_92
      · replace hf := ifp c17 hf
        refine lv_aload_n hx hb dX4_acceptsBehindOne_57 rfl (lv_at hl 0 rfl) ?_
        refine lv_aload_n hx hb dX4_acceptsBehindOne_58 rfl (lv_at hl 1 rfl) ?_
        refine lv_iconst (v := (1 : Int32)) hx hb dX4_acceptsBehindOne_59 rfl ?_
        replace hf := bd5_inv hf
        obtain ⟨y28, g29, g30, g31, y32, hc33, hf⟩ := hf
        refine r_cvV (ws' := [(h_a0, ob 5 [.ref h_a0_kinds, .ref h_a0_deeds, .ref h_a0_begins, .ref h_a0_steps, .ref h_a0_lefts, .ref h_a0_rights, .ref h_a0_facts, .int x_a0_count, .int y28]), (h_a0_begins, ia G 9 f_a0_begins), (h_a0_deeds, ia G 8 f_a0_deeds), (h_a0_kinds, ia G 8 f_a0_kinds), (h_a0_lefts, ia G 200 g29), (h_a0_rights, ia G 200 g30), (h_a0_steps, ia G 200 g31), (h_this, ob 4 [.ref h_this_waiting, .int y32, .int x_this_open, .int x_this_expected, .int x_this_kind, .int x_this_left, .int x_this_sign, .int x_this_token, .int x_this_tokenAt, .int x_this_numeral, .int x_this_place]), (h_this_waiting, ia G 200 f_this_waiting)]) C h (c_X4_join hc33) mv_X4_125 rfl 7 rfl [0, 4, 5, 6, 7, 8] rfl rfl rfl rfl rfl hl.1 rfl (Nat.le_of_ble_eq_true rfl) (rok (by decide)) dX4_acceptsBehindOne_60 (fun H locs h => ?_)
        refine lv_aload_n hx hb dX4_acceptsBehindOne_63 rfl (lv_at hl 0 rfl) ?_
        refine lv_aload_n hx hb dX4_acceptsBehindOne_64 rfl (lv_at hl 1 rfl) ?_
        replace hf := bd6_inv hf
        obtain ⟨r34, y35, g36, g37, g38, y39, hc40, hf⟩ := hf
        refine r_ciV (ws' := [(h_a0, ob 5 [.ref h_a0_kinds, .ref h_a0_deeds, .ref h_a0_begins, .ref h_a0_steps, .ref h_a0_lefts, .ref h_a0_rights, .ref h_a0_facts, .int y35, .int y28]), (h_a0_begins, ia G 9 g36), (h_a0_deeds, ia G 8 g37), (h_a0_kinds, ia G 8 g38), (h_a0_lefts, ia G 200 g29), (h_a0_rights, ia G 200 g30), (h_a0_steps, ia G 200 g31), (h_this, ob 4 [.ref h_this_waiting, .int y32, .int x_this_open, .int y39, .int x_this_kind, .int x_this_left, .int x_this_sign, .int x_this_token, .int x_this_tokenAt, .int x_this_numeral, .int x_this_place]), (h_this_waiting, ia G 200 f_this_waiting)]) C h (c_X4_acceptsDo hc40) mv_X4_91 rfl 7 rfl [0, 1, 2, 3, 7] rfl rfl rfl rfl rfl hl.1 rfl (Nat.le_of_ble_eq_true rfl) (rok (by decide)) dX4_acceptsBehindOne_65 (fun H locs h => ?_)
        replace hf := chkB_inv hf
        obtain ⟨hb41, hf⟩ := hf
        cases hf
        exact r_iret C h hr hlk hb41 dX4_acceptsBehindOne_68
    · replace hf := ifp c16 hf
      exact hK2 _ _ _ _ (B18 hf) _ _ _ h (lv_sub hl [0, 1] rfl)
def f_X4_accepts (x_a0_count : Int32) (x_a0_size : Int32) (f_a0_begins : Nat → Int32) (f_a0_deeds : Nat → Int32) (f_a0_kinds : Nat → Int32) (f_a0_lefts : Nat → Int32) (f_a0_rights : Nat → Int32) (f_a0_steps : Nat → Int32) (x_this_waitingCount : Int32) (x_this_open : Int32) (x_this_expected : Int32) (x_this_kind : Int32) (x_this_left : Int32) (x_this_sign : Int32) (x_this_token : Int32) (x_this_numeral : Int32) (f_this_waiting : Nat → Int32) : Option (Int32 × Int32 × Int32 × (Nat → Int32) × (Nat → Int32) × (Nat → Int32) × (Nat → Int32) × (Nat → Int32) × (Nat → Int32) × Int32 × Int32 × Int32 × Int32 × Int32 × Int32 × (Nat → Int32)) := (if x_this_expected = (0 : Int32) then bd3 (f_X4_acceptsKind x_a0_count x_this_expected x_this_kind x_this_token) (fun r7 y8 y9 => chkB r7 (some (r7, x_a0_count, x_a0_size, f_a0_begins, f_a0_deeds, f_a0_kinds, f_a0_lefts, f_a0_rights, f_a0_steps, x_this_waitingCount, x_this_open, y8, y9, x_this_left, x_this_sign, f_this_waiting))) else (if x_this_expected = (1 : Int32) then (if x_this_token = (9 : Int32) then bd2 (f_X4_expect (2 : Int32)) (fun r21 y22 => chkB r21 (some (r21, x_a0_count, x_a0_size, f_a0_begins, f_a0_deeds, f_a0_kinds, f_a0_lefts, f_a0_rights, f_a0_steps, x_this_waitingCount, x_this_open, y22, x_this_kind, x_this_left, x_this_sign, f_this_waiting))) else bd6 (f_X4_acceptsDo x_a0_count x_a0_size f_a0_begins f_a0_deeds f_a0_kinds x_this_expected x_this_kind x_this_token) (fun r13 y14 g15 g16 g17 y18 => chkB r13 (some (r13, y14, x_a0_size, g15, g16, g17, f_a0_lefts, f_a0_rights, f_a0_steps, x_this_waitingCount, x_this_open, y18, x_this_kind, x_this_left, x_this_sign, f_this_waiting)))) else (if x_this_expected = (2 : Int32) then bd6 (f_X4_acceptsOne x_this_waitingCount x_this_open x_this_expected x_this_left x_this_token x_this_numeral f_this_waiting) (fun r25 y26 y27 y28 y29 g30 => chkB r25 (some (r25, x_a0_count, x_a0_size, f_a0_begins, f_a0_deeds, f_a0_kinds, f_a0_lefts, f_a0_rights, f_a0_steps, y26, y27, y28, x_this_kind, y29, x_this_sign, g30))) else (if x_this_expected = (3 : Int32) then bd3 (f_X4_acceptsSign x_this_expected x_this_sign x_this_token) (fun r33 y34 y35 => chkB r33 (some (r33, x_a0_count, x_a0_size, f_a0_begins, f_a0_deeds, f_a0_kinds, f_a0_lefts, f_a0_rights, f_a0_steps, x_this_waitingCount, x_this_open, y34, x_this_kind, x_this_left, y35, f_this_waiting))) else (if x_this_expected = (4 : Int32) then bd6 (f_X4_acceptsRight x_a0_size f_a0_lefts f_a0_rights f_a0_steps x_this_expected x_this_left x_this_sign x_this_token x_this_numeral) (fun r38 y39 g40 g41 g42 y43 => chkB r38 (some (r38, x_a0_count, y39, f_a0_begins, f_a0_deeds, f_a0_kinds, g40, g41, g42, x_this_waitingCount, x_this_open, y43, x_this_kind, x_this_left, x_this_sign, f_this_waiting))) else (if x_this_expected = (5 : Int32) then bd13 (f_X4_acceptsBehindOne x_a0_count x_a0_size f_a0_begins f_a0_deeds f_a0_kinds f_a0_lefts f_a0_rights f_a0_steps x_this_waitingCount x_this_open x_this_expected x_this_kind x_this_token f_this_waiting) (fun r46 y47 y48 g49 g50 g51 g52 g53 g54 y55 y56 y57 g58 => chkB r46 (some (r46, y47, y48, g49, g50, g51, g52, g53, g54, y55, y56, y57, x_this_kind, x_this_left, x_this_sign, g58))) else (if x_this_token = (315 : Int32) then bd2 (f_X4_expect (0 : Int32)) (fun r62 y63 => (if r62 = 0 then some ((0 : Int32), x_a0_count, x_a0_size, f_a0_begins, f_a0_deeds, f_a0_kinds, f_a0_lefts, f_a0_rights, f_a0_steps, x_this_waitingCount, x_this_open, y63, x_this_kind, x_this_left, x_this_sign, f_this_waiting) else some ((1 : Int32), x_a0_count, x_a0_size, f_a0_begins, f_a0_deeds, f_a0_kinds, f_a0_lefts, f_a0_rights, f_a0_steps, x_this_waitingCount, x_this_open, y63, x_this_kind, x_this_left, x_this_sign, f_this_waiting))) else some ((0 : Int32), x_a0_count, x_a0_size, f_a0_begins, f_a0_deeds, f_a0_kinds, f_a0_lefts, f_a0_rights, f_a0_steps, x_this_waitingCount, x_this_open, x_this_expected, x_this_kind, x_this_left, x_this_sign, f_this_waiting))))))))
set_option maxRecDepth 100000 in
set_option maxHeartbeats 4000000 in
theorem c_X4_accepts {l : Launch} {G : Gt} {h_a0 h_a0_kinds h_a0_deeds h_a0_begins h_a0_steps h_a0_lefts h_a0_rights h_a0_facts h_this h_this_waiting : Nat} {x_a0_count : Int32} {x_a0_size : Int32} {f_a0_begins : Nat → Int32} {f_a0_deeds : Nat → Int32} {f_a0_kinds : Nat → Int32} {f_a0_lefts : Nat → Int32} {f_a0_rights : Nat → Int32} {f_a0_steps : Nat → Int32} {x_this_waitingCount : Int32} {x_this_open : Int32} {x_this_expected : Int32} {x_this_kind : Int32} {x_this_left : Int32} {x_this_sign : Int32} {x_this_token : Int32} {x_this_tokenAt : Int32} {x_this_numeral : Int32} {x_this_place : Int32} {f_this_waiting : Nat → Int32} {r : Int32} {m_a0_count : Int32} {m_a0_size : Int32} {m_a0_begins : Nat → Int32} {m_a0_deeds : Nat → Int32} {m_a0_kinds : Nat → Int32} {m_a0_lefts : Nat → Int32} {m_a0_rights : Nat → Int32} {m_a0_steps : Nat → Int32} {m_this_waitingCount : Int32} {m_this_open : Int32} {m_this_expected : Int32} {m_this_kind : Int32} {m_this_left : Int32} {m_this_sign : Int32} {m_this_waiting : Nat → Int32} (hf : f_X4_accepts x_a0_count x_a0_size f_a0_begins f_a0_deeds f_a0_kinds f_a0_lefts f_a0_rights f_a0_steps x_this_waitingCount x_this_open x_this_expected x_this_kind x_this_left x_this_sign x_this_token x_this_numeral f_this_waiting = some (r, m_a0_count, m_a0_size, m_a0_begins, m_a0_deeds, m_a0_kinds, m_a0_lefts, m_a0_rights, m_a0_steps, m_this_waitingCount, m_this_open, m_this_expected, m_this_kind, m_this_left, m_this_sign, m_this_waiting)) : mFi l G yX4_accepts cX4_accepts 2 .boolean 4 [.ref h_this, .ref h_a0] [(h_a0, ob 5 [.ref h_a0_kinds, .ref h_a0_deeds, .ref h_a0_begins, .ref h_a0_steps, .ref h_a0_lefts, .ref h_a0_rights, .ref h_a0_facts, .int x_a0_count, .int x_a0_size]), (h_a0_begins, ia G 9 f_a0_begins), (h_a0_deeds, ia G 8 f_a0_deeds), (h_a0_kinds, ia G 8 f_a0_kinds), (h_a0_lefts, ia G 200 f_a0_lefts), (h_a0_rights, ia G 200 f_a0_rights), (h_a0_steps, ia G 200 f_a0_steps), (h_this, ob 4 [.ref h_this_waiting, .int x_this_waitingCount, .int x_this_open, .int x_this_expected, .int x_this_kind, .int x_this_left, .int x_this_sign, .int x_this_token, .int x_this_tokenAt, .int x_this_numeral, .int x_this_place]), (h_this_waiting, ia G 200 f_this_waiting)] r [(h_a0, ob 5 [.ref h_a0_kinds, .ref h_a0_deeds, .ref h_a0_begins, .ref h_a0_steps, .ref h_a0_lefts, .ref h_a0_rights, .ref h_a0_facts, .int m_a0_count, .int m_a0_size]), (h_a0_begins, ia G 9 m_a0_begins), (h_a0_deeds, ia G 8 m_a0_deeds), (h_a0_kinds, ia G 8 m_a0_kinds), (h_a0_lefts, ia G 200 m_a0_lefts), (h_a0_rights, ia G 200 m_a0_rights), (h_a0_steps, ia G 200 m_a0_steps), (h_this, ob 4 [.ref h_this_waiting, .int m_this_waitingCount, .int m_this_open, .int m_this_expected, .int m_this_kind, .int m_this_left, .int m_this_sign, .int x_this_token, .int x_this_tokenAt, .int x_this_numeral, .int x_this_place]), (h_this_waiting, ia G 200 m_this_waiting)] := by
  refine mFi.of (by decide +kernel) (Nat.le_of_ble_eq_true rfl) ?_
  intro p e s m below meth c A C hr hlk h ls hl
  obtain ⟨hx, hb, hml, hown, hts⟩ := id C
  replace hl : lv_has ls 2 [(0, .ref h_this), (1, .ref h_a0)] := hl
  unfold f_X4_accepts at hf
  refine lv_aload_n hx hb dX4_accepts_0 rfl (lv_at hl 0 rfl) ?_
  refine r_get C h fk_X4_22 7 rfl rfl dX4_accepts_1 ?_
  by_cases c1 : x_this_expected = (0 : Int32)
  · replace hf := ifp c1 hf
    refine r_tab (tgt := 44) C dX4_accepts_4 (0 : Int32) c1 (by decide) rfl rfl ?_
    refine lv_aload_n hx hb dX4_accepts_44 rfl (lv_at hl 0 rfl) ?_
    refine lv_aload_n hx hb dX4_accepts_45 rfl (lv_at hl 1 rfl) ?_
    replace hf := bd3_inv hf
    obtain ⟨r7, y8, y9, hc10, hf⟩ := hf
    refine r_ciV (ws' := [(h_a0, ob 5 [.ref h_a0_kinds, .ref h_a0_deeds, .ref h_a0_begins, .ref h_a0_steps, .ref h_a0_lefts, .ref h_a0_rights, .ref h_a0_facts, .int x_a0_count, .int x_a0_size]), (h_a0_begins, ia G 9 f_a0_begins), (h_a0_deeds, ia G 8 f_a0_deeds), (h_a0_kinds, ia G 8 f_a0_kinds), (h_a0_lefts, ia G 200 f_a0_lefts), (h_a0_rights, ia G 200 f_a0_rights), (h_a0_steps, ia G 200 f_a0_steps), (h_this, ob 4 [.ref h_this_waiting, .int x_this_waitingCount, .int x_this_open, .int y8, .int y9, .int x_this_left, .int x_this_sign, .int x_this_token, .int x_this_tokenAt, .int x_this_numeral, .int x_this_place]), (h_this_waiting, ia G 200 f_this_waiting)]) C h (c_X4_acceptsKind hc10) mv_X4_85 rfl 7 rfl [0, 7] rfl rfl rfl rfl rfl hl.1 rfl (Nat.le_of_ble_eq_true rfl) (rok (by decide)) dX4_accepts_46 (fun H locs h => ?_)
    replace hf := chkB_inv hf
    obtain ⟨hb11, hf⟩ := hf
    cases hf
    exact r_iret C h hr hlk hb11 dX4_accepts_49
  · replace hf := ifn c1 hf
    by_cases c2 : x_this_expected = (1 : Int32)
    · replace hf := ifp c2 hf
      refine r_tab (tgt := 50) C dX4_accepts_4 (1 : Int32) c2 (by decide) rfl rfl ?_
      refine lv_aload_n hx hb dX4_accepts_50 rfl (lv_at hl 0 rfl) ?_
      refine r_get C h fk_X4_34 7 rfl rfl dX4_accepts_51 ?_
      refine lv_bipush (v := (9 : Int32)) hx hb dX4_accepts_54 rfl ?_
      refine lv_icmp_ne (tgt := 67) hx hb dX4_accepts_56 rfl (fun c12 => ?_) (fun c12 => ?_)
      · replace hf := ifn c12 hf
        refine lv_aload_n hx hb dX4_accepts_67 rfl (lv_at hl 0 rfl) ?_
        refine lv_aload_n hx hb dX4_accepts_68 rfl (lv_at hl 1 rfl) ?_
        replace hf := bd6_inv hf
        obtain ⟨r13, y14, g15, g16, g17, y18, hc19, hf⟩ := hf
        refine r_ciV (ws' := [(h_a0, ob 5 [.ref h_a0_kinds, .ref h_a0_deeds, .ref h_a0_begins, .ref h_a0_steps, .ref h_a0_lefts, .ref h_a0_rights, .ref h_a0_facts, .int y14, .int x_a0_size]), (h_a0_begins, ia G 9 g15), (h_a0_deeds, ia G 8 g16), (h_a0_kinds, ia G 8 g17), (h_a0_lefts, ia G 200 f_a0_lefts), (h_a0_rights, ia G 200 f_a0_rights), (h_a0_steps, ia G 200 f_a0_steps), (h_this, ob 4 [.ref h_this_waiting, .int x_this_waitingCount, .int x_this_open, .int y18, .int x_this_kind, .int x_this_left, .int x_this_sign, .int x_this_token, .int x_this_tokenAt, .int x_this_numeral, .int x_this_place]), (h_this_waiting, ia G 200 f_this_waiting)]) C h (c_X4_acceptsDo hc19) mv_X4_91 rfl 7 rfl [0, 1, 2, 3, 7] rfl rfl rfl rfl rfl hl.1 rfl (Nat.le_of_ble_eq_true rfl) (rok (by decide)) dX4_accepts_69 (fun H locs h => ?_)
        replace hf := chkB_inv hf
        obtain ⟨hb20, hf⟩ := hf
        cases hf
        exact r_iret C h hr hlk hb20 dX4_accepts_72
      · replace hf := ifp c12 hf
        refine lv_aload_n hx hb dX4_accepts_59 rfl (lv_at hl 0 rfl) ?_
        refine lv_iconst (v := (2 : Int32)) hx hb dX4_accepts_60 rfl ?_
        replace hf := bd2_inv hf
        obtain ⟨r21, y22, hc23, hf⟩ := hf
        refine r_ciV (ws' := [(h_a0, ob 5 [.ref h_a0_kinds, .ref h_a0_deeds, .ref h_a0_begins, .ref h_a0_steps, .ref h_a0_lefts, .ref h_a0_rights, .ref h_a0_facts, .int x_a0_count, .int x_a0_size]), (h_a0_begins, ia G 9 f_a0_begins), (h_a0_deeds, ia G 8 f_a0_deeds), (h_a0_kinds, ia G 8 f_a0_kinds), (h_a0_lefts, ia G 200 f_a0_lefts), (h_a0_rights, ia G 200 f_a0_rights), (h_a0_steps, ia G 200 f_a0_steps), (h_this, ob 4 [.ref h_this_waiting, .int x_this_waitingCount, .int x_this_open, .int y22, .int x_this_kind, .int x_this_left, .int x_this_sign, .int x_this_token, .int x_this_tokenAt, .int x_this_numeral, .int x_this_place]), (h_this_waiting, ia G 200 f_this_waiting)]) C h (c_X4_expect hc23) mv_X4_88 rfl 7 rfl [7] rfl rfl rfl rfl rfl hl.1 rfl (Nat.le_of_ble_eq_true rfl) (rok (by decide)) dX4_accepts_61 (fun H locs h => ?_)
        refine lv_goto (tgt := 72) hx hb dX4_accepts_64 rfl ?_
        replace hf := chkB_inv hf
        obtain ⟨hb24, hf⟩ := hf
        cases hf
        exact r_iret C h hr hlk hb24 dX4_accepts_72
    · replace hf := ifn c2 hf
      by_cases c3 : x_this_expected = (2 : Int32)
      · replace hf := ifp c3 hf
        refine r_tab (tgt := 73) C dX4_accepts_4 (2 : Int32) c3 (by decide) rfl rfl ?_
        refine lv_aload_n hx hb dX4_accepts_73 rfl (lv_at hl 0 rfl) ?_
        replace hf := bd6_inv hf
        obtain ⟨r25, y26, y27, y28, y29, g30, hc31, hf⟩ := hf
        refine r_ciV (ws' := [(h_a0, ob 5 [.ref h_a0_kinds, .ref h_a0_deeds, .ref h_a0_begins, .ref h_a0_steps, .ref h_a0_lefts, .ref h_a0_rights, .ref h_a0_facts, .int x_a0_count, .int x_a0_size]), (h_a0_begins, ia G 9 f_a0_begins), (h_a0_deeds, ia G 8 f_a0_deeds), (h_a0_kinds, ia G 8 f_a0_kinds), (h_a0_lefts, ia G 200 f_a0_lefts), (h_a0_rights, ia G 200 f_a0_rights), (h_a0_steps, ia G 200 f_a0_steps), (h_this, ob 4 [.ref h_this_waiting, .int y26, .int y27, .int y28, .int x_this_kind, .int y29, .int x_this_sign, .int x_this_token, .int x_this_tokenAt, .int x_this_numeral, .int x_this_place]), (h_this_waiting, ia G 200 g30)]) C h (c_X4_acceptsOne hc31) mv_X4_94 rfl 7 rfl [7, 8] rfl rfl rfl rfl rfl hl.1 rfl (Nat.le_of_ble_eq_true rfl) (rok (by decide)) dX4_accepts_74 (fun H locs h => ?_)
        replace hf := chkB_inv hf
        obtain ⟨hb32, hf⟩ := hf
        cases hf
        exact r_iret C h hr hlk hb32 dX4_accepts_77
      · replace hf := ifn c3 hf
        by_cases c4 : x_this_expected = (3 : Int32)
        · replace hf := ifp c4 hf
          refine r_tab (tgt := 78) C dX4_accepts_4 (3 : Int32) c4 (by decide) rfl rfl ?_
          refine lv_aload_n hx hb dX4_accepts_78 rfl (lv_at hl 0 rfl) ?_
          replace hf := bd3_inv hf
          obtain ⟨r33, y34, y35, hc36, hf⟩ := hf
          refine r_ciV (ws' := [(h_a0, ob 5 [.ref h_a0_kinds, .ref h_a0_deeds, .ref h_a0_begins, .ref h_a0_steps, .ref h_a0_lefts, .ref h_a0_rights, .ref h_a0_facts, .int x_a0_count, .int x_a0_size]), (h_a0_begins, ia G 9 f_a0_begins), (h_a0_deeds, ia G 8 f_a0_deeds), (h_a0_kinds, ia G 8 f_a0_kinds), (h_a0_lefts, ia G 200 f_a0_lefts), (h_a0_rights, ia G 200 f_a0_rights), (h_a0_steps, ia G 200 f_a0_steps), (h_this, ob 4 [.ref h_this_waiting, .int x_this_waitingCount, .int x_this_open, .int y34, .int x_this_kind, .int x_this_left, .int y35, .int x_this_token, .int x_this_tokenAt, .int x_this_numeral, .int x_this_place]), (h_this_waiting, ia G 200 f_this_waiting)]) C h (c_X4_acceptsSign hc36) mv_X4_98 rfl 7 rfl [7] rfl rfl rfl rfl rfl hl.1 rfl (Nat.le_of_ble_eq_true rfl) (rok (by decide)) dX4_accepts_79 (fun H locs h => ?_)
          replace hf := chkB_inv hf
          obtain ⟨hb37, hf⟩ := hf
          cases hf
          exact r_iret C h hr hlk hb37 dX4_accepts_82
        · replace hf := ifn c4 hf
          by_cases c5 : x_this_expected = (4 : Int32)
          · replace hf := ifp c5 hf
            refine r_tab (tgt := 83) C dX4_accepts_4 (4 : Int32) c5 (by decide) rfl rfl ?_
            refine lv_aload_n hx hb dX4_accepts_83 rfl (lv_at hl 0 rfl) ?_
            refine lv_aload_n hx hb dX4_accepts_84 rfl (lv_at hl 1 rfl) ?_
            replace hf := bd6_inv hf
            obtain ⟨r38, y39, g40, g41, g42, y43, hc44, hf⟩ := hf
            refine r_ciV (ws' := [(h_a0, ob 5 [.ref h_a0_kinds, .ref h_a0_deeds, .ref h_a0_begins, .ref h_a0_steps, .ref h_a0_lefts, .ref h_a0_rights, .ref h_a0_facts, .int x_a0_count, .int y39]), (h_a0_begins, ia G 9 f_a0_begins), (h_a0_deeds, ia G 8 f_a0_deeds), (h_a0_kinds, ia G 8 f_a0_kinds), (h_a0_lefts, ia G 200 g40), (h_a0_rights, ia G 200 g41), (h_a0_steps, ia G 200 g42), (h_this, ob 4 [.ref h_this_waiting, .int x_this_waitingCount, .int x_this_open, .int y43, .int x_this_kind, .int x_this_left, .int x_this_sign, .int x_this_token, .int x_this_tokenAt, .int x_this_numeral, .int x_this_place]), (h_this_waiting, ia G 200 f_this_waiting)]) C h (c_X4_acceptsRight hc44) mv_X4_101 rfl 7 rfl [0, 4, 5, 6, 7] rfl rfl rfl rfl rfl hl.1 rfl (Nat.le_of_ble_eq_true rfl) (rok (by decide)) dX4_accepts_85 (fun H locs h => ?_)
            replace hf := chkB_inv hf
            obtain ⟨hb45, hf⟩ := hf
            cases hf
            exact r_iret C h hr hlk hb45 dX4_accepts_88
          · replace hf := ifn c5 hf
            by_cases c6 : x_this_expected = (5 : Int32)
            · replace hf := ifp c6 hf
              refine r_tab (tgt := 89) C dX4_accepts_4 (5 : Int32) c6 (by decide) rfl rfl ?_
              refine lv_aload_n hx hb dX4_accepts_89 rfl (lv_at hl 0 rfl) ?_
              refine lv_aload_n hx hb dX4_accepts_90 rfl (lv_at hl 1 rfl) ?_
              replace hf := bd13_inv hf
              obtain ⟨r46, y47, y48, g49, g50, g51, g52, g53, g54, y55, y56, y57, g58, hc59, hf⟩ := hf
              refine r_ciV (ws' := [(h_a0, ob 5 [.ref h_a0_kinds, .ref h_a0_deeds, .ref h_a0_begins, .ref h_a0_steps, .ref h_a0_lefts, .ref h_a0_rights, .ref h_a0_facts, .int y47, .int y48]), (h_a0_begins, ia G 9 g49), (h_a0_deeds, ia G 8 g50), (h_a0_kinds, ia G 8 g51), (h_a0_lefts, ia G 200 g52), (h_a0_rights, ia G 200 g53), (h_a0_steps, ia G 200 g54), (h_this, ob 4 [.ref h_this_waiting, .int y55, .int y56, .int y57, .int x_this_kind, .int x_this_left, .int x_this_sign, .int x_this_token, .int x_this_tokenAt, .int x_this_numeral, .int x_this_place]), (h_this_waiting, ia G 200 g58)]) C h (c_X4_acceptsBehindOne hc59) mv_X4_104 rfl 7 rfl [0, 1, 2, 3, 4, 5, 6, 7, 8] rfl rfl rfl rfl rfl hl.1 rfl (Nat.le_of_ble_eq_true rfl) (rok (by decide)) dX4_accepts_91 (fun H locs h => ?_)
              replace hf := chkB_inv hf
              obtain ⟨hb60, hf⟩ := hf
              cases hf
              exact r_iret C h hr hlk hb60 dX4_accepts_94
            · replace hf := ifn c6 hf
              refine r_tabD (tgt := 95) C dX4_accepts_4 [(0 : Int32), (1 : Int32), (2 : Int32), (3 : Int32), (4 : Int32), (5 : Int32)] (by decide) (nel_c c1 (nel_c c2 (nel_c c3 (nel_c c4 (nel_c c5 (nel_c c6 nel_0)))))) rfl ?_
              refine lv_aload_n hx hb dX4_accepts_95 rfl (lv_at hl 0 rfl) ?_
              refine r_get C h fk_X4_34 7 rfl rfl dX4_accepts_96 ?_
              refine lv_sipush (v := (315 : Int32)) hx hb dX4_accepts_99 rfl ?_
              refine lv_icmp_ne (tgt := 117) hx hb dX4_accepts_102 rfl (fun c61 => ?_) (fun c61 => ?_)
              · replace hf := ifn c61 hf
                refine lv_iconst (v := (0 : Int32)) hx hb dX4_accepts_117 rfl ?_
                cases hf
                exact r_iret C h hr hlk rfl dX4_accepts_118
              · replace hf := ifp c61 hf
                refine lv_aload_n hx hb dX4_accepts_105 rfl (lv_at hl 0 rfl) ?_
                refine lv_iconst (v := (0 : Int32)) hx hb dX4_accepts_106 rfl ?_
                replace hf := bd2_inv hf
                obtain ⟨r62, y63, hc64, hf⟩ := hf
                refine r_ciV (ws' := [(h_a0, ob 5 [.ref h_a0_kinds, .ref h_a0_deeds, .ref h_a0_begins, .ref h_a0_steps, .ref h_a0_lefts, .ref h_a0_rights, .ref h_a0_facts, .int x_a0_count, .int x_a0_size]), (h_a0_begins, ia G 9 f_a0_begins), (h_a0_deeds, ia G 8 f_a0_deeds), (h_a0_kinds, ia G 8 f_a0_kinds), (h_a0_lefts, ia G 200 f_a0_lefts), (h_a0_rights, ia G 200 f_a0_rights), (h_a0_steps, ia G 200 f_a0_steps), (h_this, ob 4 [.ref h_this_waiting, .int x_this_waitingCount, .int x_this_open, .int y63, .int x_this_kind, .int x_this_left, .int x_this_sign, .int x_this_token, .int x_this_tokenAt, .int x_this_numeral, .int x_this_place]), (h_this_waiting, ia G 200 f_this_waiting)]) C h (c_X4_expect hc64) mv_X4_88 rfl 7 rfl [7] rfl rfl rfl rfl rfl hl.1 rfl (Nat.le_of_ble_eq_true rfl) (rok (by decide)) dX4_accepts_107 (fun H locs h => ?_)
                refine lv_if_eq (tgt := 117) hx hb dX4_accepts_110 rfl (fun c65 => ?_) (fun c65 => ?_)
                · replace hf := ifp c65 hf
                  refine lv_iconst (v := (0 : Int32)) hx hb dX4_accepts_117 rfl ?_
                  cases hf
                  exact r_iret C h hr hlk rfl dX4_accepts_118
                · replace hf := ifn c65 hf
                  refine lv_iconst (v := (1 : Int32)) hx hb dX4_accepts_113 rfl ?_
                  refine lv_goto (tgt := 118) hx hb dX4_accepts_114 rfl ?_
                  cases hf
                  exact r_iret C h hr hlk rfl dX4_accepts_118
def f_X4_read_L27 (p1 : Int32) (n_a0 : Nat) (f_a0 : Nat → Int32) : Nat → Int32 → Int32 → Int32 → (Nat → Int32) → (Nat → Int32) → (Nat → Int32) → (Nat → Int32) → (Nat → Int32) → (Nat → Int32) → Int32 → Int32 → Int32 → Int32 → Int32 → Int32 → Int32 → Int32 → Int32 → Int32 → (Nat → Int32) → Option (Int32 × Int32 × Int32 × (Nat → Int32) × (Nat → Int32) × (Nat → Int32) × (Nat → Int32) × (Nat → Int32) × (Nat → Int32) × Int32 × Int32 × Int32 × Int32 × Int32 × Int32 × Int32 × Int32 × Int32 × Int32 × (Nat → Int32))
  | 0, _, _, _, _, _, _, _, _, _, _, _, _, _, _, _, _, _, _, _, _ => none
  | n + 1, v4, y_a2_count, y_a2_size, g_a2_begins, g_a2_deeds, g_a2_kinds, g_a2_lefts, g_a2_rights, g_a2_steps, y_this_waitingCount, y_this_open, y_this_expected, y_this_kind, y_this_left, y_this_sign, y_this_token, y_this_tokenAt, y_this_numeral, y_this_place, g_this_waiting => (if p1 < v4 then some ((-1 : Int32), y_a2_count, y_a2_size, g_a2_begins, g_a2_deeds, g_a2_kinds, g_a2_lefts, g_a2_rights, g_a2_steps, y_this_waitingCount, y_this_open, y_this_expected, y_this_kind, y_this_left, y_this_sign, y_this_token, y_this_tokenAt, y_this_numeral, y_this_place, g_this_waiting) else bd4 (f_X4_advance p1 n_a0 f_a0 y_this_numeral y_this_place) (fun y5 y6 y7 y8 => (if y5 = (19 : Int32) then (if y_this_expected = 0 then some ((-1 : Int32), y_a2_count, y_a2_size, g_a2_begins, g_a2_deeds, g_a2_kinds, g_a2_lefts, g_a2_rights, g_a2_steps, y_this_waitingCount, y_this_open, y_this_expected, y_this_kind, y_this_left, y_this_sign, y5, y6, y7, y8, g_this_waiting) else some (p1, y_a2_count, y_a2_size, g_a2_begins, g_a2_deeds, g_a2_kinds, g_a2_lefts, g_a2_rights, g_a2_steps, y_this_waitingCount, y_this_open, y_this_expected, y_this_kind, y_this_left, y_this_sign, y5, y6, y7, y8, g_this_waiting)) else bd16 (f_X4_accepts y_a2_count y_a2_size g_a2_begins g_a2_deeds g_a2_kinds g_a2_lefts g_a2_rights g_a2_steps y_this_waitingCount y_this_open y_this_expected y_this_kind y_this_left y_this_sign y5 y7 g_this_waiting) (fun r11 y12 y13 g14 g15 g16 g17 g18 g19 y20 y21 y22 y23 y24 y25 g26 => (if r11 = 0 then some (y6, y12, y13, g14, g15, g16, g17, g18, g19, y20, y21, y22, y23, y24, y25, y5, y6, y7, y8, g26) else lt1 (v4 + (1 : Int32)) (fun (t29 : Int32) => (f_X4_read_L27 p1 n_a0 f_a0 n) t29 y12 y13 g14 g15 g16 g17 g18 g19 y20 y21 y22 y23 y24 y25 y5 y6 y7 y8 g26))))))
def f_X4_read (p1 : Int32) (n_a0 : Nat) (f_a0 : Nat → Int32) (f_a2_begins : Nat → Int32) (f_a2_deeds : Nat → Int32) (f_a2_kinds : Nat → Int32) (f_a2_lefts : Nat → Int32) (f_a2_rights : Nat → Int32) (f_a2_steps : Nat → Int32) (x_this_kind : Int32) (x_this_left : Int32) (x_this_sign : Int32) (x_this_token : Int32) (x_this_tokenAt : Int32) (x_this_numeral : Int32) (f_this_waiting : Nat → Int32) : Option (Int32 × Int32 × Int32 × (Nat → Int32) × (Nat → Int32) × (Nat → Int32) × (Nat → Int32) × (Nat → Int32) × (Nat → Int32) × Int32 × Int32 × Int32 × Int32 × Int32 × Int32 × Int32 × Int32 × Int32 × Int32 × (Nat → Int32)) := bd2 (f_X5_clear) (fun y1 y2 => f_X4_read_L27 p1 n_a0 f_a0 1000 (0 : Int32) y1 y2 f_a2_begins f_a2_deeds f_a2_kinds f_a2_lefts f_a2_rights f_a2_steps (0 : Int32) (0 : Int32) (0 : Int32) x_this_kind x_this_left x_this_sign x_this_token x_this_tokenAt x_this_numeral (0 : Int32) f_this_waiting)
set_option maxRecDepth 100000 in
set_option maxHeartbeats 4000000 in
theorem c_X4_read {l : Launch} {G : Gt} {h_a0 h_a2 h_a2_kinds h_a2_deeds h_a2_begins h_a2_steps h_a2_lefts h_a2_rights h_a2_facts h_this h_this_waiting : Nat} {p1 : Int32} {n_a0 : Nat} {f_a0 : Nat → Int32} {x_a2_count : Int32} {x_a2_size : Int32} {f_a2_begins : Nat → Int32} {f_a2_deeds : Nat → Int32} {f_a2_kinds : Nat → Int32} {f_a2_lefts : Nat → Int32} {f_a2_rights : Nat → Int32} {f_a2_steps : Nat → Int32} {x_this_waitingCount : Int32} {x_this_open : Int32} {x_this_expected : Int32} {x_this_kind : Int32} {x_this_left : Int32} {x_this_sign : Int32} {x_this_token : Int32} {x_this_tokenAt : Int32} {x_this_numeral : Int32} {x_this_place : Int32} {f_this_waiting : Nat → Int32} {r : Int32} {m_a2_count : Int32} {m_a2_size : Int32} {m_a2_begins : Nat → Int32} {m_a2_deeds : Nat → Int32} {m_a2_kinds : Nat → Int32} {m_a2_lefts : Nat → Int32} {m_a2_rights : Nat → Int32} {m_a2_steps : Nat → Int32} {m_this_waitingCount : Int32} {m_this_open : Int32} {m_this_expected : Int32} {m_this_kind : Int32} {m_this_left : Int32} {m_this_sign : Int32} {m_this_token : Int32} {m_this_tokenAt : Int32} {m_this_numeral : Int32} {m_this_place : Int32} {m_this_waiting : Nat → Int32} (hf : f_X4_read p1 n_a0 f_a0 f_a2_begins f_a2_deeds f_a2_kinds f_a2_lefts f_a2_rights f_a2_steps x_this_kind x_this_left x_this_sign x_this_token x_this_tokenAt x_this_numeral f_this_waiting = some (r, m_a2_count, m_a2_size, m_a2_begins, m_a2_deeds, m_a2_kinds, m_a2_lefts, m_a2_rights, m_a2_steps, m_this_waitingCount, m_this_open, m_this_expected, m_this_kind, m_this_left, m_this_sign, m_this_token, m_this_tokenAt, m_this_numeral, m_this_place, m_this_waiting)) : mFi l G yX4_read cX4_read 5 .int 11 [.ref h_this, .ref h_a0, .int p1, .ref h_a2] [(h_a0, ia G n_a0 f_a0), (h_a2, ob 5 [.ref h_a2_kinds, .ref h_a2_deeds, .ref h_a2_begins, .ref h_a2_steps, .ref h_a2_lefts, .ref h_a2_rights, .ref h_a2_facts, .int x_a2_count, .int x_a2_size]), (h_a2_begins, ia G 9 f_a2_begins), (h_a2_deeds, ia G 8 f_a2_deeds), (h_a2_kinds, ia G 8 f_a2_kinds), (h_a2_lefts, ia G 200 f_a2_lefts), (h_a2_rights, ia G 200 f_a2_rights), (h_a2_steps, ia G 200 f_a2_steps), (h_this, ob 4 [.ref h_this_waiting, .int x_this_waitingCount, .int x_this_open, .int x_this_expected, .int x_this_kind, .int x_this_left, .int x_this_sign, .int x_this_token, .int x_this_tokenAt, .int x_this_numeral, .int x_this_place]), (h_this_waiting, ia G 200 f_this_waiting)] r [(h_a0, ia G n_a0 f_a0), (h_a2, ob 5 [.ref h_a2_kinds, .ref h_a2_deeds, .ref h_a2_begins, .ref h_a2_steps, .ref h_a2_lefts, .ref h_a2_rights, .ref h_a2_facts, .int m_a2_count, .int m_a2_size]), (h_a2_begins, ia G 9 m_a2_begins), (h_a2_deeds, ia G 8 m_a2_deeds), (h_a2_kinds, ia G 8 m_a2_kinds), (h_a2_lefts, ia G 200 m_a2_lefts), (h_a2_rights, ia G 200 m_a2_rights), (h_a2_steps, ia G 200 m_a2_steps), (h_this, ob 4 [.ref h_this_waiting, .int m_this_waitingCount, .int m_this_open, .int m_this_expected, .int m_this_kind, .int m_this_left, .int m_this_sign, .int m_this_token, .int m_this_tokenAt, .int m_this_numeral, .int m_this_place]), (h_this_waiting, ia G 200 m_this_waiting)] := by
  refine mFi.of (by decide +kernel) (Nat.le_of_ble_eq_true rfl) ?_
  intro p e s m below meth c A C hr hlk h ls hl
  obtain ⟨hx, hb, hml, hown, hts⟩ := id C
  replace hl : lv_has ls 5 [(0, .ref h_this), (1, .ref h_a0), (2, .int p1), (3, .ref h_a2)] := hl
  unfold f_X4_read at hf
  refine with_K G A 5 (fun K hK1 hK2 => ?_)
  have L27 : ∀ (n : Nat) (v4 : Int32) (y_a2_count : Int32) (y_a2_size : Int32) (g_a2_begins : Nat → Int32) (g_a2_deeds : Nat → Int32) (g_a2_kinds : Nat → Int32) (g_a2_lefts : Nat → Int32) (g_a2_rights : Nat → Int32) (g_a2_steps : Nat → Int32) (y_this_waitingCount : Int32) (y_this_open : Int32) (y_this_expected : Int32) (y_this_kind : Int32) (y_this_left : Int32) (y_this_sign : Int32) (y_this_token : Int32) (y_this_tokenAt : Int32) (y_this_numeral : Int32) (y_this_place : Int32) (g_this_waiting : Nat → Int32), f_X4_read_L27 p1 n_a0 f_a0 n v4 y_a2_count y_a2_size g_a2_begins g_a2_deeds g_a2_kinds g_a2_lefts g_a2_rights g_a2_steps y_this_waitingCount y_this_open y_this_expected y_this_kind y_this_left y_this_sign y_this_token y_this_tokenAt y_this_numeral y_this_place g_this_waiting = some (r, m_a2_count, m_a2_size, m_a2_begins, m_a2_deeds, m_a2_kinds, m_a2_lefts, m_a2_rights, m_a2_steps, m_this_waitingCount, m_this_open, m_this_expected, m_this_kind, m_this_left, m_this_sign, m_this_token, m_this_tokenAt, m_this_numeral, m_this_place, m_this_waiting) → K 27 ([] : List Value) [(h_a0, ia G n_a0 f_a0), (h_a2, ob 5 [.ref h_a2_kinds, .ref h_a2_deeds, .ref h_a2_begins, .ref h_a2_steps, .ref h_a2_lefts, .ref h_a2_rights, .ref h_a2_facts, .int y_a2_count, .int y_a2_size]), (h_a2_begins, ia G 9 g_a2_begins), (h_a2_deeds, ia G 8 g_a2_deeds), (h_a2_kinds, ia G 8 g_a2_kinds), (h_a2_lefts, ia G 200 g_a2_lefts), (h_a2_rights, ia G 200 g_a2_rights), (h_a2_steps, ia G 200 g_a2_steps), (h_this, ob 4 [.ref h_this_waiting, .int y_this_waitingCount, .int y_this_open, .int y_this_expected, .int y_this_kind, .int y_this_left, .int y_this_sign, .int y_this_token, .int y_this_tokenAt, .int y_this_numeral, .int y_this_place]), (h_this_waiting, ia G 200 g_this_waiting)] [(0, .ref h_this), (1, .ref h_a0), (2, .int p1), (3, .ref h_a2), (4, .int v4)] := by
    intro n
    induction n with
    | zero =>
      intro v4 y_a2_count y_a2_size g_a2_begins g_a2_deeds g_a2_kinds g_a2_lefts g_a2_rights g_a2_steps y_this_waitingCount y_this_open y_this_expected y_this_kind y_this_left y_this_sign y_this_token y_this_tokenAt y_this_numeral y_this_place g_this_waiting hf
      replace hf : (none : Option _) = some _ := hf
      cases hf
    | succ n ih =>
      intro v4 y_a2_count y_a2_size g_a2_begins g_a2_deeds g_a2_kinds g_a2_lefts g_a2_rights g_a2_steps y_this_waitingCount y_this_open y_this_expected y_this_kind y_this_left y_this_sign y_this_token y_this_tokenAt y_this_numeral y_this_place g_this_waiting hf
      rw [f_X4_read_L27] at hf
      refine hK1 _ _ _ _ (fun H locs ls h hl => ?_)
      refine lv_iload hx hb dX4_read_27 (lv_at hl 4 rfl) ?_
      refine lv_iload_n hx hb dX4_read_29 rfl (lv_at hl 2 rfl) ?_
      refine lv_icmp_gt (tgt := 80) hx hb dX4_read_30 rfl (fun c4 => ?_) (fun c4 => ?_)
      · replace hf := ifp c4 hf
        refine lv_iconst (v := (-1 : Int32)) hx hb dX4_read_80 rfl ?_
        cases hf
        exact r_iret C h hr hlk rfl dX4_read_81
      · replace hf := ifn c4 hf
        refine lv_aload_n hx hb dX4_read_33 rfl (lv_at hl 0 rfl) ?_
        refine lv_aload_n hx hb dX4_read_34 rfl (lv_at hl 1 rfl) ?_
        refine lv_iload_n hx hb dX4_read_35 rfl (lv_at hl 2 rfl) ?_
        replace hf := bd4_inv hf
        obtain ⟨y5, y6, y7, y8, hc9, hf⟩ := hf
        refine r_cvV (ws' := [(h_a0, ia G n_a0 f_a0), (h_a2, ob 5 [.ref h_a2_kinds, .ref h_a2_deeds, .ref h_a2_begins, .ref h_a2_steps, .ref h_a2_lefts, .ref h_a2_rights, .ref h_a2_facts, .int y_a2_count, .int y_a2_size]), (h_a2_begins, ia G 9 g_a2_begins), (h_a2_deeds, ia G 8 g_a2_deeds), (h_a2_kinds, ia G 8 g_a2_kinds), (h_a2_lefts, ia G 200 g_a2_lefts), (h_a2_rights, ia G 200 g_a2_rights), (h_a2_steps, ia G 200 g_a2_steps), (h_this, ob 4 [.ref h_this_waiting, .int y_this_waitingCount, .int y_this_open, .int y_this_expected, .int y_this_kind, .int y_this_left, .int y_this_sign, .int y5, .int y6, .int y7, .int y8]), (h_this_waiting, ia G 200 g_this_waiting)]) C h (c_X4_advance hc9) mv_X4_51 rfl 8 rfl [0, 8] rfl rfl rfl rfl rfl hl.1 rfl (Nat.le_of_ble_eq_true rfl) (rok (by decide)) dX4_read_36 (fun H locs h => ?_)
        refine lv_aload_n hx hb dX4_read_39 rfl (lv_at hl 0 rfl) ?_
        refine r_get C h fk_X4_34 8 rfl rfl dX4_read_40 ?_
        refine lv_bipush (v := (19 : Int32)) hx hb dX4_read_43 rfl ?_
        refine lv_icmp_ne (tgt := 61) hx hb dX4_read_45 rfl (fun c10 => ?_) (fun c10 => ?_)
        · replace hf := ifn c10 hf
          refine lv_aload_n hx hb dX4_read_61 rfl (lv_at hl 0 rfl) ?_
          refine lv_aload_n hx hb dX4_read_62 rfl (lv_at hl 3 rfl) ?_
          replace hf := bd16_inv hf
          obtain ⟨r11, y12, y13, g14, g15, g16, g17, g18, g19, y20, y21, y22, y23, y24, y25, g26, hc27, hf⟩ := hf
          refine r_ciV (ws' := [(h_a0, ia G n_a0 f_a0), (h_a2, ob 5 [.ref h_a2_kinds, .ref h_a2_deeds, .ref h_a2_begins, .ref h_a2_steps, .ref h_a2_lefts, .ref h_a2_rights, .ref h_a2_facts, .int y12, .int y13]), (h_a2_begins, ia G 9 g14), (h_a2_deeds, ia G 8 g15), (h_a2_kinds, ia G 8 g16), (h_a2_lefts, ia G 200 g17), (h_a2_rights, ia G 200 g18), (h_a2_steps, ia G 200 g19), (h_this, ob 4 [.ref h_this_waiting, .int y20, .int y21, .int y22, .int y23, .int y24, .int y25, .int y5, .int y6, .int y7, .int y8]), (h_this_waiting, ia G 200 g26)]) C h (c_X4_accepts hc27) mv_X4_55 rfl 8 rfl [1, 2, 3, 4, 5, 6, 7, 8, 9] rfl rfl rfl rfl rfl hl.1 rfl (Nat.le_of_ble_eq_true rfl) (rok (by decide)) dX4_read_63 (fun H locs h => ?_)
          refine lv_if_ne (tgt := 74) hx hb dX4_read_66 rfl (fun c28 => ?_) (fun c28 => ?_)
          · replace hf := ifn c28 hf
            obtain ⟨t29, et29⟩ : ∃ y : Int32, y = v4 + (1 : Int32) := ⟨_, rfl⟩
            replace hf := lt1_inv et29 hf
            refine lv_iinc (v := t29) (lv' := [(4, .int t29), (0, .ref h_this), (1, .ref h_a0), (2, .int p1), (3, .ref h_a2)]) hx hb dX4_read_74 hl (k := 4) rfl (by rw [et29]; rfl) (by decide) rfl (fun ls hl => ?_)
            refine lv_goto (tgt := 27) hx hb dX4_read_77 rfl ?_
            exact hK2 _ _ _ _ (ih t29 y12 y13 g14 g15 g16 g17 g18 g19 y20 y21 y22 y23 y24 y25 y5 y6 y7 y8 g26 hf) _ _ _ h (lv_sub hl [1, 2, 3, 4, 0] rfl)
          · replace hf := ifp c28 hf
            refine lv_aload_n hx hb dX4_read_69 rfl (lv_at hl 0 rfl) ?_
            refine r_get C h fk_X4_37 8 rfl rfl dX4_read_70 ?_
            cases hf
            exact r_iret C h hr hlk rfl dX4_read_73
        · replace hf := ifp c10 hf
          refine lv_aload_n hx hb dX4_read_48 rfl (lv_at hl 0 rfl) ?_
          refine r_get C h fk_X4_22 8 rfl rfl dX4_read_49 ?_
          refine lv_if_ne (tgt := 59) hx hb dX4_read_52 rfl (fun c30 => ?_) (fun c30 => ?_)
          · replace hf := ifn c30 hf
            refine lv_iload_n hx hb dX4_read_59 rfl (lv_at hl 2 rfl) ?_
            cases hf
            exact r_iret C h hr hlk rfl dX4_read_60
          · replace hf := ifp c30 hf
            refine lv_iconst (v := (-1 : Int32)) hx hb dX4_read_55 rfl ?_
            refine lv_goto (tgt := 60) hx hb dX4_read_56 rfl ?_
            cases hf
            exact r_iret C h hr hlk rfl dX4_read_60
  refine lv_aload_n hx hb dX4_read_0 rfl (lv_at hl 3 rfl) ?_
  replace hf := bd2_inv hf
  obtain ⟨y1, y2, hc3, hf⟩ := hf
  refine r_cvV (ws' := [(h_a0, ia G n_a0 f_a0), (h_a2, ob 5 [.ref h_a2_kinds, .ref h_a2_deeds, .ref h_a2_begins, .ref h_a2_steps, .ref h_a2_lefts, .ref h_a2_rights, .ref h_a2_facts, .int y1, .int y2]), (h_a2_begins, ia G 9 f_a2_begins), (h_a2_deeds, ia G 8 f_a2_deeds), (h_a2_kinds, ia G 8 f_a2_kinds), (h_a2_lefts, ia G 200 f_a2_lefts), (h_a2_rights, ia G 200 f_a2_rights), (h_a2_steps, ia G 200 f_a2_steps), (h_this, ob 4 [.ref h_this_waiting, .int x_this_waitingCount, .int x_this_open, .int x_this_expected, .int x_this_kind, .int x_this_left, .int x_this_sign, .int x_this_token, .int x_this_tokenAt, .int x_this_numeral, .int x_this_place]), (h_this_waiting, ia G 200 f_this_waiting)]) C h (c_X5_clear hc3) mv_X4_46 rfl 1 rfl [1] rfl rfl rfl rfl rfl hl.1 rfl (Nat.le_of_ble_eq_true rfl) (rok (by decide)) dX4_read_1 (fun H locs h => ?_)
  refine lv_aload_n hx hb dX4_read_4 rfl (lv_at hl 0 rfl) ?_
  refine lv_iconst (v := (0 : Int32)) hx hb dX4_read_5 rfl ?_
  refine r_put (ws' := [(h_a0, ia G n_a0 f_a0), (h_a2, ob 5 [.ref h_a2_kinds, .ref h_a2_deeds, .ref h_a2_begins, .ref h_a2_steps, .ref h_a2_lefts, .ref h_a2_rights, .ref h_a2_facts, .int y1, .int y2]), (h_a2_begins, ia G 9 f_a2_begins), (h_a2_deeds, ia G 8 f_a2_deeds), (h_a2_kinds, ia G 8 f_a2_kinds), (h_a2_lefts, ia G 200 f_a2_lefts), (h_a2_rights, ia G 200 f_a2_rights), (h_a2_steps, ia G 200 f_a2_steps), (h_this, ob 4 [.ref h_this_waiting, .int (0 : Int32), .int x_this_open, .int x_this_expected, .int x_this_kind, .int x_this_left, .int x_this_sign, .int x_this_token, .int x_this_tokenAt, .int x_this_numeral, .int x_this_place]), (h_this_waiting, ia G 200 f_this_waiting)]) C h fw_X4_15 8 rfl rfl rfl (Nat.le_of_ble_eq_true rfl) dX4_read_6 rfl (fun H locs h => ?_)
  refine lv_aload_n hx hb dX4_read_9 rfl (lv_at hl 0 rfl) ?_
  refine lv_iconst (v := (0 : Int32)) hx hb dX4_read_10 rfl ?_
  refine r_put (ws' := [(h_a0, ia G n_a0 f_a0), (h_a2, ob 5 [.ref h_a2_kinds, .ref h_a2_deeds, .ref h_a2_begins, .ref h_a2_steps, .ref h_a2_lefts, .ref h_a2_rights, .ref h_a2_facts, .int y1, .int y2]), (h_a2_begins, ia G 9 f_a2_begins), (h_a2_deeds, ia G 8 f_a2_deeds), (h_a2_kinds, ia G 8 f_a2_kinds), (h_a2_lefts, ia G 200 f_a2_lefts), (h_a2_rights, ia G 200 f_a2_rights), (h_a2_steps, ia G 200 f_a2_steps), (h_this, ob 4 [.ref h_this_waiting, .int (0 : Int32), .int (0 : Int32), .int x_this_expected, .int x_this_kind, .int x_this_left, .int x_this_sign, .int x_this_token, .int x_this_tokenAt, .int x_this_numeral, .int x_this_place]), (h_this_waiting, ia G 200 f_this_waiting)]) C h fw_X4_19 8 rfl rfl rfl (Nat.le_of_ble_eq_true rfl) dX4_read_11 rfl (fun H locs h => ?_)
  refine lv_aload_n hx hb dX4_read_14 rfl (lv_at hl 0 rfl) ?_
  refine lv_iconst (v := (0 : Int32)) hx hb dX4_read_15 rfl ?_
  refine r_put (ws' := [(h_a0, ia G n_a0 f_a0), (h_a2, ob 5 [.ref h_a2_kinds, .ref h_a2_deeds, .ref h_a2_begins, .ref h_a2_steps, .ref h_a2_lefts, .ref h_a2_rights, .ref h_a2_facts, .int y1, .int y2]), (h_a2_begins, ia G 9 f_a2_begins), (h_a2_deeds, ia G 8 f_a2_deeds), (h_a2_kinds, ia G 8 f_a2_kinds), (h_a2_lefts, ia G 200 f_a2_lefts), (h_a2_rights, ia G 200 f_a2_rights), (h_a2_steps, ia G 200 f_a2_steps), (h_this, ob 4 [.ref h_this_waiting, .int (0 : Int32), .int (0 : Int32), .int x_this_expected, .int x_this_kind, .int x_this_left, .int x_this_sign, .int x_this_token, .int x_this_tokenAt, .int x_this_numeral, .int (0 : Int32)]), (h_this_waiting, ia G 200 f_this_waiting)]) C h fw_X4_43 8 rfl rfl rfl (Nat.le_of_ble_eq_true rfl) dX4_read_16 rfl (fun H locs h => ?_)
  refine lv_aload_n hx hb dX4_read_19 rfl (lv_at hl 0 rfl) ?_
  refine lv_iconst (v := (0 : Int32)) hx hb dX4_read_20 rfl ?_
  refine r_put (ws' := [(h_a0, ia G n_a0 f_a0), (h_a2, ob 5 [.ref h_a2_kinds, .ref h_a2_deeds, .ref h_a2_begins, .ref h_a2_steps, .ref h_a2_lefts, .ref h_a2_rights, .ref h_a2_facts, .int y1, .int y2]), (h_a2_begins, ia G 9 f_a2_begins), (h_a2_deeds, ia G 8 f_a2_deeds), (h_a2_kinds, ia G 8 f_a2_kinds), (h_a2_lefts, ia G 200 f_a2_lefts), (h_a2_rights, ia G 200 f_a2_rights), (h_a2_steps, ia G 200 f_a2_steps), (h_this, ob 4 [.ref h_this_waiting, .int (0 : Int32), .int (0 : Int32), .int (0 : Int32), .int x_this_kind, .int x_this_left, .int x_this_sign, .int x_this_token, .int x_this_tokenAt, .int x_this_numeral, .int (0 : Int32)]), (h_this_waiting, ia G 200 f_this_waiting)]) C h fw_X4_22 8 rfl rfl rfl (Nat.le_of_ble_eq_true rfl) dX4_read_21 rfl (fun H locs h => ?_)
  refine lv_iconst (v := (0 : Int32)) hx hb dX4_read_24 rfl ?_
  refine lv_istore (lv' := [(4, .int (0 : Int32)), (0, .ref h_this), (1, .ref h_a0), (2, .int p1), (3, .ref h_a2)]) hx hb dX4_read_25 hl (by decide) rfl (fun ls hl => ?_)
  exact hK2 _ _ _ _ (L27 1000 (0 : Int32) y1 y2 f_a2_begins f_a2_deeds f_a2_kinds f_a2_lefts f_a2_rights f_a2_steps (0 : Int32) (0 : Int32) (0 : Int32) x_this_kind x_this_left x_this_sign x_this_token x_this_tokenAt x_this_numeral (0 : Int32) f_this_waiting hf) _ _ _ h (lv_sub hl [1, 2, 3, 4, 0] rfl)
def f_X5_become (x_a0_count : Int32) (x_a0_size : Int32) (f_a0_begins : Nat → Int32) (f_a0_deeds : Nat → Int32) (f_a0_kinds : Nat → Int32) (f_a0_lefts : Nat → Int32) (f_a0_rights : Nat → Int32) (f_a0_steps : Nat → Int32) (f_this_begins : Nat → Int32) (f_this_deeds : Nat → Int32) (f_this_kinds : Nat → Int32) (f_this_lefts : Nat → Int32) (f_this_rights : Nat → Int32) (f_this_steps : Nat → Int32) : Option (Int32 × Int32 × (Nat → Int32) × (Nat → Int32) × (Nat → Int32) × (Nat → Int32) × (Nat → Int32) × (Nat → Int32)) := chkC (0 : Int32) (0 : Int32) (8 : Int32) 8 8 (chkC (0 : Int32) (0 : Int32) (8 : Int32) 8 8 (chkC (0 : Int32) (0 : Int32) (9 : Int32) 9 9 (chkC (0 : Int32) (0 : Int32) x_a0_size 200 200 (chkC (0 : Int32) (0 : Int32) x_a0_size 200 200 (chkC (0 : Int32) (0 : Int32) x_a0_size 200 200 (some (x_a0_count, x_a0_size, va_cpy f_a0_begins f_this_begins (0 : Int32).toNatClampNeg (0 : Int32).toNatClampNeg (9 : Int32).toNatClampNeg, va_cpy f_a0_deeds f_this_deeds (0 : Int32).toNatClampNeg (0 : Int32).toNatClampNeg (8 : Int32).toNatClampNeg, va_cpy f_a0_kinds f_this_kinds (0 : Int32).toNatClampNeg (0 : Int32).toNatClampNeg (8 : Int32).toNatClampNeg, va_cpy f_a0_lefts f_this_lefts (0 : Int32).toNatClampNeg (0 : Int32).toNatClampNeg x_a0_size.toNatClampNeg, va_cpy f_a0_rights f_this_rights (0 : Int32).toNatClampNeg (0 : Int32).toNatClampNeg x_a0_size.toNatClampNeg, va_cpy f_a0_steps f_this_steps (0 : Int32).toNatClampNeg (0 : Int32).toNatClampNeg x_a0_size.toNatClampNeg)))))))
set_option maxRecDepth 100000 in
set_option maxHeartbeats 4000000 in
theorem c_X5_become {l : Launch} {G : Gt} {h_a0 h_a0_kinds h_a0_deeds h_a0_begins h_a0_steps h_a0_lefts h_a0_rights h_a0_facts h_this h_this_kinds h_this_deeds h_this_begins h_this_steps h_this_lefts h_this_rights h_this_facts : Nat} {x_a0_count : Int32} {x_a0_size : Int32} {f_a0_begins : Nat → Int32} {f_a0_deeds : Nat → Int32} {f_a0_kinds : Nat → Int32} {f_a0_lefts : Nat → Int32} {f_a0_rights : Nat → Int32} {f_a0_steps : Nat → Int32} {x_this_count : Int32} {x_this_size : Int32} {f_this_begins : Nat → Int32} {f_this_deeds : Nat → Int32} {f_this_kinds : Nat → Int32} {f_this_lefts : Nat → Int32} {f_this_rights : Nat → Int32} {f_this_steps : Nat → Int32} {m_this_count : Int32} {m_this_size : Int32} {m_this_begins : Nat → Int32} {m_this_deeds : Nat → Int32} {m_this_kinds : Nat → Int32} {m_this_lefts : Nat → Int32} {m_this_rights : Nat → Int32} {m_this_steps : Nat → Int32} (hf : f_X5_become x_a0_count x_a0_size f_a0_begins f_a0_deeds f_a0_kinds f_a0_lefts f_a0_rights f_a0_steps f_this_begins f_this_deeds f_this_kinds f_this_lefts f_this_rights f_this_steps = some (m_this_count, m_this_size, m_this_begins, m_this_deeds, m_this_kinds, m_this_lefts, m_this_rights, m_this_steps)) : mFv l G yX5_become cX5_become 2 1 [.ref h_this, .ref h_a0] [(h_a0, ob 5 [.ref h_a0_kinds, .ref h_a0_deeds, .ref h_a0_begins, .ref h_a0_steps, .ref h_a0_lefts, .ref h_a0_rights, .ref h_a0_facts, .int x_a0_count, .int x_a0_size]), (h_a0_begins, ia G 9 f_a0_begins), (h_a0_deeds, ia G 8 f_a0_deeds), (h_a0_kinds, ia G 8 f_a0_kinds), (h_a0_lefts, ia G 200 f_a0_lefts), (h_a0_rights, ia G 200 f_a0_rights), (h_a0_steps, ia G 200 f_a0_steps), (h_this, ob 5 [.ref h_this_kinds, .ref h_this_deeds, .ref h_this_begins, .ref h_this_steps, .ref h_this_lefts, .ref h_this_rights, .ref h_this_facts, .int x_this_count, .int x_this_size]), (h_this_begins, ia G 9 f_this_begins), (h_this_deeds, ia G 8 f_this_deeds), (h_this_kinds, ia G 8 f_this_kinds), (h_this_lefts, ia G 200 f_this_lefts), (h_this_rights, ia G 200 f_this_rights), (h_this_steps, ia G 200 f_this_steps)] [(h_a0, ob 5 [.ref h_a0_kinds, .ref h_a0_deeds, .ref h_a0_begins, .ref h_a0_steps, .ref h_a0_lefts, .ref h_a0_rights, .ref h_a0_facts, .int x_a0_count, .int x_a0_size]), (h_a0_begins, ia G 9 f_a0_begins), (h_a0_deeds, ia G 8 f_a0_deeds), (h_a0_kinds, ia G 8 f_a0_kinds), (h_a0_lefts, ia G 200 f_a0_lefts), (h_a0_rights, ia G 200 f_a0_rights), (h_a0_steps, ia G 200 f_a0_steps), (h_this, ob 5 [.ref h_this_kinds, .ref h_this_deeds, .ref h_this_begins, .ref h_this_steps, .ref h_this_lefts, .ref h_this_rights, .ref h_this_facts, .int m_this_count, .int m_this_size]), (h_this_begins, ia G 9 m_this_begins), (h_this_deeds, ia G 8 m_this_deeds), (h_this_kinds, ia G 8 m_this_kinds), (h_this_lefts, ia G 200 m_this_lefts), (h_this_rights, ia G 200 m_this_rights), (h_this_steps, ia G 200 m_this_steps)] := by
  refine mFv.of (by decide +kernel) (Nat.le_of_ble_eq_true rfl) ?_
  intro p e s m below meth c A C hr hlk h ls hl
  obtain ⟨hx, hb, hml, hown, hts⟩ := id C
  replace hl : lv_has ls 2 [(0, .ref h_this), (1, .ref h_a0)] := hl
  unfold f_X5_become at hf
  refine lv_aload_n hx hb dX5_become_0 rfl (lv_at hl 1 rfl) ?_
  refine r_get C h fk_X5_9 0 rfl rfl dX5_become_1 ?_
  refine lv_iconst (v := (0 : Int32)) hx hb dX5_become_4 rfl ?_
  refine lv_aload_n hx hb dX5_become_5 rfl (lv_at hl 0 rfl) ?_
  refine r_get C h fk_X5_9 7 rfl rfl dX5_become_6 ?_
  refine lv_iconst (v := (0 : Int32)) hx hb dX5_become_9 rfl ?_
  refine lv_bipush (v := (8 : Int32)) hx hb dX5_become_10 rfl ?_
  replace hf := chkC_inv hf
  obtain ⟨ha1, hf⟩ := hf
  refine r_copy (ws' := [(h_a0, ob 5 [.ref h_a0_kinds, .ref h_a0_deeds, .ref h_a0_begins, .ref h_a0_steps, .ref h_a0_lefts, .ref h_a0_rights, .ref h_a0_facts, .int x_a0_count, .int x_a0_size]), (h_a0_begins, ia G 9 f_a0_begins), (h_a0_deeds, ia G 8 f_a0_deeds), (h_a0_kinds, ia G 8 f_a0_kinds), (h_a0_lefts, ia G 200 f_a0_lefts), (h_a0_rights, ia G 200 f_a0_rights), (h_a0_steps, ia G 200 f_a0_steps), (h_this, ob 5 [.ref h_this_kinds, .ref h_this_deeds, .ref h_this_begins, .ref h_this_steps, .ref h_this_lefts, .ref h_this_rights, .ref h_this_facts, .int x_this_count, .int x_this_size]), (h_this_begins, ia G 9 f_this_begins), (h_this_deeds, ia G 8 f_this_deeds), (h_this_kinds, ia G 8 (va_cpy f_a0_kinds f_this_kinds (0 : Int32).toNatClampNeg (0 : Int32).toNatClampNeg (8 : Int32).toNatClampNeg)), (h_this_lefts, ia G 200 f_this_lefts), (h_this_rights, ia G 200 f_this_rights), (h_this_steps, ia G 200 f_this_steps)]) C h ac_X5_40 3 10 rfl rfl ha1 hl.1 (Nat.le_of_ble_eq_true rfl) (Nat.le_of_ble_eq_true rfl) dX5_become_12 rfl (fun H locs h => ?_)
  refine lv_aload_n hx hb dX5_become_15 rfl (lv_at hl 1 rfl) ?_
  refine r_get C h fk_X5_15 0 rfl rfl dX5_become_16 ?_
  refine lv_iconst (v := (0 : Int32)) hx hb dX5_become_19 rfl ?_
  refine lv_aload_n hx hb dX5_become_20 rfl (lv_at hl 0 rfl) ?_
  refine r_get C h fk_X5_15 7 rfl rfl dX5_become_21 ?_
  refine lv_iconst (v := (0 : Int32)) hx hb dX5_become_24 rfl ?_
  refine lv_bipush (v := (8 : Int32)) hx hb dX5_become_25 rfl ?_
  replace hf := chkC_inv hf
  obtain ⟨ha2, hf⟩ := hf
  refine r_copy (ws' := [(h_a0, ob 5 [.ref h_a0_kinds, .ref h_a0_deeds, .ref h_a0_begins, .ref h_a0_steps, .ref h_a0_lefts, .ref h_a0_rights, .ref h_a0_facts, .int x_a0_count, .int x_a0_size]), (h_a0_begins, ia G 9 f_a0_begins), (h_a0_deeds, ia G 8 f_a0_deeds), (h_a0_kinds, ia G 8 f_a0_kinds), (h_a0_lefts, ia G 200 f_a0_lefts), (h_a0_rights, ia G 200 f_a0_rights), (h_a0_steps, ia G 200 f_a0_steps), (h_this, ob 5 [.ref h_this_kinds, .ref h_this_deeds, .ref h_this_begins, .ref h_this_steps, .ref h_this_lefts, .ref h_this_rights, .ref h_this_facts, .int x_this_count, .int x_this_size]), (h_this_begins, ia G 9 f_this_begins), (h_this_deeds, ia G 8 (va_cpy f_a0_deeds f_this_deeds (0 : Int32).toNatClampNeg (0 : Int32).toNatClampNeg (8 : Int32).toNatClampNeg)), (h_this_kinds, ia G 8 (va_cpy f_a0_kinds f_this_kinds (0 : Int32).toNatClampNeg (0 : Int32).toNatClampNeg (8 : Int32).toNatClampNeg)), (h_this_lefts, ia G 200 f_this_lefts), (h_this_rights, ia G 200 f_this_rights), (h_this_steps, ia G 200 f_this_steps)]) C h ac_X5_40 2 9 rfl rfl ha2 hl.1 (Nat.le_of_ble_eq_true rfl) (Nat.le_of_ble_eq_true rfl) dX5_become_27 rfl (fun H locs h => ?_)
  refine lv_aload_n hx hb dX5_become_30 rfl (lv_at hl 1 rfl) ?_
  refine r_get C h fk_X5_18 0 rfl rfl dX5_become_31 ?_
  refine lv_iconst (v := (0 : Int32)) hx hb dX5_become_34 rfl ?_
  refine lv_aload_n hx hb dX5_become_35 rfl (lv_at hl 0 rfl) ?_
  refine r_get C h fk_X5_18 7 rfl rfl dX5_become_36 ?_
  refine lv_iconst (v := (0 : Int32)) hx hb dX5_become_39 rfl ?_
  refine lv_bipush (v := (9 : Int32)) hx hb dX5_become_40 rfl ?_
  replace hf := chkC_inv hf
  obtain ⟨ha3, hf⟩ := hf
  refine r_copy (ws' := [(h_a0, ob 5 [.ref h_a0_kinds, .ref h_a0_deeds, .ref h_a0_begins, .ref h_a0_steps, .ref h_a0_lefts, .ref h_a0_rights, .ref h_a0_facts, .int x_a0_count, .int x_a0_size]), (h_a0_begins, ia G 9 f_a0_begins), (h_a0_deeds, ia G 8 f_a0_deeds), (h_a0_kinds, ia G 8 f_a0_kinds), (h_a0_lefts, ia G 200 f_a0_lefts), (h_a0_rights, ia G 200 f_a0_rights), (h_a0_steps, ia G 200 f_a0_steps), (h_this, ob 5 [.ref h_this_kinds, .ref h_this_deeds, .ref h_this_begins, .ref h_this_steps, .ref h_this_lefts, .ref h_this_rights, .ref h_this_facts, .int x_this_count, .int x_this_size]), (h_this_begins, ia G 9 (va_cpy f_a0_begins f_this_begins (0 : Int32).toNatClampNeg (0 : Int32).toNatClampNeg (9 : Int32).toNatClampNeg)), (h_this_deeds, ia G 8 (va_cpy f_a0_deeds f_this_deeds (0 : Int32).toNatClampNeg (0 : Int32).toNatClampNeg (8 : Int32).toNatClampNeg)), (h_this_kinds, ia G 8 (va_cpy f_a0_kinds f_this_kinds (0 : Int32).toNatClampNeg (0 : Int32).toNatClampNeg (8 : Int32).toNatClampNeg)), (h_this_lefts, ia G 200 f_this_lefts), (h_this_rights, ia G 200 f_this_rights), (h_this_steps, ia G 200 f_this_steps)]) C h ac_X5_40 1 8 rfl rfl ha3 hl.1 (Nat.le_of_ble_eq_true rfl) (Nat.le_of_ble_eq_true rfl) dX5_become_42 rfl (fun H locs h => ?_)
  refine lv_aload_n hx hb dX5_become_45 rfl (lv_at hl 1 rfl) ?_
  refine r_get C h fk_X5_21 0 rfl rfl dX5_become_46 ?_
  refine lv_iconst (v := (0 : Int32)) hx hb dX5_become_49 rfl ?_
  refine lv_aload_n hx hb dX5_become_50 rfl (lv_at hl 0 rfl) ?_
  refine r_get C h fk_X5_21 7 rfl rfl dX5_become_51 ?_
  refine lv_iconst (v := (0 : Int32)) hx hb dX5_become_54 rfl ?_
  refine lv_aload_n hx hb dX5_become_55 rfl (lv_at hl 1 rfl) ?_
  refine r_get C h fk_X5_37 0 rfl rfl dX5_become_56 ?_
  replace hf := chkC_inv hf
  obtain ⟨ha4, hf⟩ := hf
  refine r_copy (ws' := [(h_a0, ob 5 [.ref h_a0_kinds, .ref h_a0_deeds, .ref h_a0_begins, .ref h_a0_steps, .ref h_a0_lefts, .ref h_a0_rights, .ref h_a0_facts, .int x_a0_count, .int x_a0_size]), (h_a0_begins, ia G 9 f_a0_begins), (h_a0_deeds, ia G 8 f_a0_deeds), (h_a0_kinds, ia G 8 f_a0_kinds), (h_a0_lefts, ia G 200 f_a0_lefts), (h_a0_rights, ia G 200 f_a0_rights), (h_a0_steps, ia G 200 f_a0_steps), (h_this, ob 5 [.ref h_this_kinds, .ref h_this_deeds, .ref h_this_begins, .ref h_this_steps, .ref h_this_lefts, .ref h_this_rights, .ref h_this_facts, .int x_this_count, .int x_this_size]), (h_this_begins, ia G 9 (va_cpy f_a0_begins f_this_begins (0 : Int32).toNatClampNeg (0 : Int32).toNatClampNeg (9 : Int32).toNatClampNeg)), (h_this_deeds, ia G 8 (va_cpy f_a0_deeds f_this_deeds (0 : Int32).toNatClampNeg (0 : Int32).toNatClampNeg (8 : Int32).toNatClampNeg)), (h_this_kinds, ia G 8 (va_cpy f_a0_kinds f_this_kinds (0 : Int32).toNatClampNeg (0 : Int32).toNatClampNeg (8 : Int32).toNatClampNeg)), (h_this_lefts, ia G 200 f_this_lefts), (h_this_rights, ia G 200 f_this_rights), (h_this_steps, ia G 200 (va_cpy f_a0_steps f_this_steps (0 : Int32).toNatClampNeg (0 : Int32).toNatClampNeg x_a0_size.toNatClampNeg))]) C h ac_X5_40 6 13 rfl rfl ha4 hl.1 (Nat.le_of_ble_eq_true rfl) (Nat.le_of_ble_eq_true rfl) dX5_become_59 rfl (fun H locs h => ?_)
  refine lv_aload_n hx hb dX5_become_62 rfl (lv_at hl 1 rfl) ?_
  refine r_get C h fk_X5_24 0 rfl rfl dX5_become_63 ?_
  refine lv_iconst (v := (0 : Int32)) hx hb dX5_become_66 rfl ?_
  refine lv_aload_n hx hb dX5_become_67 rfl (lv_at hl 0 rfl) ?_
  refine r_get C h fk_X5_24 7 rfl rfl dX5_become_68 ?_
  refine lv_iconst (v := (0 : Int32)) hx hb dX5_become_71 rfl ?_
  refine lv_aload_n hx hb dX5_become_72 rfl (lv_at hl 1 rfl) ?_
  refine r_get C h fk_X5_37 0 rfl rfl dX5_become_73 ?_
  replace hf := chkC_inv hf
  obtain ⟨ha5, hf⟩ := hf
  refine r_copy (ws' := [(h_a0, ob 5 [.ref h_a0_kinds, .ref h_a0_deeds, .ref h_a0_begins, .ref h_a0_steps, .ref h_a0_lefts, .ref h_a0_rights, .ref h_a0_facts, .int x_a0_count, .int x_a0_size]), (h_a0_begins, ia G 9 f_a0_begins), (h_a0_deeds, ia G 8 f_a0_deeds), (h_a0_kinds, ia G 8 f_a0_kinds), (h_a0_lefts, ia G 200 f_a0_lefts), (h_a0_rights, ia G 200 f_a0_rights), (h_a0_steps, ia G 200 f_a0_steps), (h_this, ob 5 [.ref h_this_kinds, .ref h_this_deeds, .ref h_this_begins, .ref h_this_steps, .ref h_this_lefts, .ref h_this_rights, .ref h_this_facts, .int x_this_count, .int x_this_size]), (h_this_begins, ia G 9 (va_cpy f_a0_begins f_this_begins (0 : Int32).toNatClampNeg (0 : Int32).toNatClampNeg (9 : Int32).toNatClampNeg)), (h_this_deeds, ia G 8 (va_cpy f_a0_deeds f_this_deeds (0 : Int32).toNatClampNeg (0 : Int32).toNatClampNeg (8 : Int32).toNatClampNeg)), (h_this_kinds, ia G 8 (va_cpy f_a0_kinds f_this_kinds (0 : Int32).toNatClampNeg (0 : Int32).toNatClampNeg (8 : Int32).toNatClampNeg)), (h_this_lefts, ia G 200 (va_cpy f_a0_lefts f_this_lefts (0 : Int32).toNatClampNeg (0 : Int32).toNatClampNeg x_a0_size.toNatClampNeg)), (h_this_rights, ia G 200 f_this_rights), (h_this_steps, ia G 200 (va_cpy f_a0_steps f_this_steps (0 : Int32).toNatClampNeg (0 : Int32).toNatClampNeg x_a0_size.toNatClampNeg))]) C h ac_X5_40 4 11 rfl rfl ha5 hl.1 (Nat.le_of_ble_eq_true rfl) (Nat.le_of_ble_eq_true rfl) dX5_become_76 rfl (fun H locs h => ?_)
  refine lv_aload_n hx hb dX5_become_79 rfl (lv_at hl 1 rfl) ?_
  refine r_get C h fk_X5_27 0 rfl rfl dX5_become_80 ?_
  refine lv_iconst (v := (0 : Int32)) hx hb dX5_become_83 rfl ?_
  refine lv_aload_n hx hb dX5_become_84 rfl (lv_at hl 0 rfl) ?_
  refine r_get C h fk_X5_27 7 rfl rfl dX5_become_85 ?_
  refine lv_iconst (v := (0 : Int32)) hx hb dX5_become_88 rfl ?_
  refine lv_aload_n hx hb dX5_become_89 rfl (lv_at hl 1 rfl) ?_
  refine r_get C h fk_X5_37 0 rfl rfl dX5_become_90 ?_
  replace hf := chkC_inv hf
  obtain ⟨ha6, hf⟩ := hf
  refine r_copy (ws' := [(h_a0, ob 5 [.ref h_a0_kinds, .ref h_a0_deeds, .ref h_a0_begins, .ref h_a0_steps, .ref h_a0_lefts, .ref h_a0_rights, .ref h_a0_facts, .int x_a0_count, .int x_a0_size]), (h_a0_begins, ia G 9 f_a0_begins), (h_a0_deeds, ia G 8 f_a0_deeds), (h_a0_kinds, ia G 8 f_a0_kinds), (h_a0_lefts, ia G 200 f_a0_lefts), (h_a0_rights, ia G 200 f_a0_rights), (h_a0_steps, ia G 200 f_a0_steps), (h_this, ob 5 [.ref h_this_kinds, .ref h_this_deeds, .ref h_this_begins, .ref h_this_steps, .ref h_this_lefts, .ref h_this_rights, .ref h_this_facts, .int x_this_count, .int x_this_size]), (h_this_begins, ia G 9 (va_cpy f_a0_begins f_this_begins (0 : Int32).toNatClampNeg (0 : Int32).toNatClampNeg (9 : Int32).toNatClampNeg)), (h_this_deeds, ia G 8 (va_cpy f_a0_deeds f_this_deeds (0 : Int32).toNatClampNeg (0 : Int32).toNatClampNeg (8 : Int32).toNatClampNeg)), (h_this_kinds, ia G 8 (va_cpy f_a0_kinds f_this_kinds (0 : Int32).toNatClampNeg (0 : Int32).toNatClampNeg (8 : Int32).toNatClampNeg)), (h_this_lefts, ia G 200 (va_cpy f_a0_lefts f_this_lefts (0 : Int32).toNatClampNeg (0 : Int32).toNatClampNeg x_a0_size.toNatClampNeg)), (h_this_rights, ia G 200 (va_cpy f_a0_rights f_this_rights (0 : Int32).toNatClampNeg (0 : Int32).toNatClampNeg x_a0_size.toNatClampNeg)), (h_this_steps, ia G 200 (va_cpy f_a0_steps f_this_steps (0 : Int32).toNatClampNeg (0 : Int32).toNatClampNeg x_a0_size.toNatClampNeg))]) C h ac_X5_40 5 12 rfl rfl ha6 hl.1 (Nat.le_of_ble_eq_true rfl) (Nat.le_of_ble_eq_true rfl) dX5_become_93 rfl (fun H locs h => ?_)
  refine lv_aload_n hx hb dX5_become_96 rfl (lv_at hl 0 rfl) ?_
  refine lv_aload_n hx hb dX5_become_97 rfl (lv_at hl 1 rfl) ?_
  refine r_get C h fk_X5_33 0 rfl rfl dX5_become_98 ?_
  refine r_put (ws' := [(h_a0, ob 5 [.ref h_a0_kinds, .ref h_a0_deeds, .ref h_a0_begins, .ref h_a0_steps, .ref h_a0_lefts, .ref h_a0_rights, .ref h_a0_facts, .int x_a0_count, .int x_a0_size]), (h_a0_begins, ia G 9 f_a0_begins), (h_a0_deeds, ia G 8 f_a0_deeds), (h_a0_kinds, ia G 8 f_a0_kinds), (h_a0_lefts, ia G 200 f_a0_lefts), (h_a0_rights, ia G 200 f_a0_rights), (h_a0_steps, ia G 200 f_a0_steps), (h_this, ob 5 [.ref h_this_kinds, .ref h_this_deeds, .ref h_this_begins, .ref h_this_steps, .ref h_this_lefts, .ref h_this_rights, .ref h_this_facts, .int x_a0_count, .int x_this_size]), (h_this_begins, ia G 9 (va_cpy f_a0_begins f_this_begins (0 : Int32).toNatClampNeg (0 : Int32).toNatClampNeg (9 : Int32).toNatClampNeg)), (h_this_deeds, ia G 8 (va_cpy f_a0_deeds f_this_deeds (0 : Int32).toNatClampNeg (0 : Int32).toNatClampNeg (8 : Int32).toNatClampNeg)), (h_this_kinds, ia G 8 (va_cpy f_a0_kinds f_this_kinds (0 : Int32).toNatClampNeg (0 : Int32).toNatClampNeg (8 : Int32).toNatClampNeg)), (h_this_lefts, ia G 200 (va_cpy f_a0_lefts f_this_lefts (0 : Int32).toNatClampNeg (0 : Int32).toNatClampNeg x_a0_size.toNatClampNeg)), (h_this_rights, ia G 200 (va_cpy f_a0_rights f_this_rights (0 : Int32).toNatClampNeg (0 : Int32).toNatClampNeg x_a0_size.toNatClampNeg)), (h_this_steps, ia G 200 (va_cpy f_a0_steps f_this_steps (0 : Int32).toNatClampNeg (0 : Int32).toNatClampNeg x_a0_size.toNatClampNeg))]) C h fw_X5_33 7 rfl rfl rfl (Nat.le_of_ble_eq_true rfl) dX5_become_101 rfl (fun H locs h => ?_)
  refine lv_aload_n hx hb dX5_become_104 rfl (lv_at hl 0 rfl) ?_
  refine lv_aload_n hx hb dX5_become_105 rfl (lv_at hl 1 rfl) ?_
  refine r_get C h fk_X5_37 0 rfl rfl dX5_become_106 ?_
  refine r_put (ws' := [(h_a0, ob 5 [.ref h_a0_kinds, .ref h_a0_deeds, .ref h_a0_begins, .ref h_a0_steps, .ref h_a0_lefts, .ref h_a0_rights, .ref h_a0_facts, .int x_a0_count, .int x_a0_size]), (h_a0_begins, ia G 9 f_a0_begins), (h_a0_deeds, ia G 8 f_a0_deeds), (h_a0_kinds, ia G 8 f_a0_kinds), (h_a0_lefts, ia G 200 f_a0_lefts), (h_a0_rights, ia G 200 f_a0_rights), (h_a0_steps, ia G 200 f_a0_steps), (h_this, ob 5 [.ref h_this_kinds, .ref h_this_deeds, .ref h_this_begins, .ref h_this_steps, .ref h_this_lefts, .ref h_this_rights, .ref h_this_facts, .int x_a0_count, .int x_a0_size]), (h_this_begins, ia G 9 (va_cpy f_a0_begins f_this_begins (0 : Int32).toNatClampNeg (0 : Int32).toNatClampNeg (9 : Int32).toNatClampNeg)), (h_this_deeds, ia G 8 (va_cpy f_a0_deeds f_this_deeds (0 : Int32).toNatClampNeg (0 : Int32).toNatClampNeg (8 : Int32).toNatClampNeg)), (h_this_kinds, ia G 8 (va_cpy f_a0_kinds f_this_kinds (0 : Int32).toNatClampNeg (0 : Int32).toNatClampNeg (8 : Int32).toNatClampNeg)), (h_this_lefts, ia G 200 (va_cpy f_a0_lefts f_this_lefts (0 : Int32).toNatClampNeg (0 : Int32).toNatClampNeg x_a0_size.toNatClampNeg)), (h_this_rights, ia G 200 (va_cpy f_a0_rights f_this_rights (0 : Int32).toNatClampNeg (0 : Int32).toNatClampNeg x_a0_size.toNatClampNeg)), (h_this_steps, ia G 200 (va_cpy f_a0_steps f_this_steps (0 : Int32).toNatClampNeg (0 : Int32).toNatClampNeg x_a0_size.toNatClampNeg))]) C h fw_X5_37 7 rfl rfl rfl (Nat.le_of_ble_eq_true rfl) dX5_become_109 rfl (fun H locs h => ?_)
  cases hf
  exact r_vret C h hr hlk dX5_become_112
def f_X8_rules (x_this_tapeCount : Int32) (f_this_draft_begins : Nat → Int32) (f_this_draft_deeds : Nat → Int32) (f_this_draft_kinds : Nat → Int32) (f_this_draft_lefts : Nat → Int32) (f_this_draft_rights : Nat → Int32) (f_this_draft_steps : Nat → Int32) (x_this_reader_kind : Int32) (x_this_reader_left : Int32) (x_this_reader_sign : Int32) (x_this_reader_token : Int32) (x_this_reader_tokenAt : Int32) (x_this_reader_numeral : Int32) (f_this_reader_waiting : Nat → Int32) (x_this_rock_rules_count : Int32) (x_this_rock_rules_size : Int32) (f_this_rock_rules_begins : Nat → Int32) (f_this_rock_rules_deeds : Nat → Int32) (f_this_rock_rules_kinds : Nat → Int32) (f_this_rock_rules_lefts : Nat → Int32) (f_this_rock_rules_rights : Nat → Int32) (f_this_rock_rules_steps : Nat → Int32) (f_this_tape : Nat → Int32) : Option (Int32 × Int32 × Int32 × Int32 × (Nat → Int32) × (Nat → Int32) × (Nat → Int32) × (Nat → Int32) × (Nat → Int32) × (Nat → Int32) × Int32 × Int32 × Int32 × Int32 × Int32 × Int32 × Int32 × Int32 × Int32 × Int32 × (Nat → Int32) × Int32 × Int32 × (Nat → Int32) × (Nat → Int32) × (Nat → Int32) × (Nat → Int32) × (Nat → Int32) × (Nat → Int32)) := bd20 (f_X4_read x_this_tapeCount 200 f_this_tape f_this_draft_begins f_this_draft_deeds f_this_draft_kinds f_this_draft_lefts f_this_draft_rights f_this_draft_steps x_this_reader_kind x_this_reader_left x_this_reader_sign x_this_reader_token x_this_reader_tokenAt x_this_reader_numeral f_this_reader_waiting) (fun r1 y2 y3 g4 g5 g6 g7 g8 g9 y10 y11 y12 y13 y14 y15 y16 y17 y18 y19 g20 => (if r1 = (-1 : Int32) then bd8 (f_X5_become y2 y3 g4 g5 g6 g7 g8 g9 f_this_rock_rules_begins f_this_rock_rules_deeds f_this_rock_rules_kinds f_this_rock_rules_lefts f_this_rock_rules_rights f_this_rock_rules_steps) (fun y23 y24 g25 g26 g27 g28 g29 g30 => some (y2, (0 : Int32), y2, y3, g4, g5, g6, g7, g8, g9, y10, y11, y12, y13, y14, y15, y16, y17, y18, y19, g20, y23, y24, g25, g26, g27, g28, g29, g30)) else some ((-100 : Int32) - r1, (0 : Int32), y2, y3, g4, g5, g6, g7, g8, g9, y10, y11, y12, y13, y14, y15, y16, y17, y18, y19, g20, x_this_rock_rules_count, x_this_rock_rules_size, f_this_rock_rules_begins, f_this_rock_rules_deeds, f_this_rock_rules_kinds, f_this_rock_rules_lefts, f_this_rock_rules_rights, f_this_rock_rules_steps)))
set_option maxRecDepth 100000 in
set_option maxHeartbeats 4000000 in
theorem c_X8_rules {l : Launch} {G : Gt} {h_this h_this_rock h_this_kept h_this_trial h_this_planner h_this_reader h_this_draft h_this_host h_this_thing h_this_tape h_this_rows h_this_draft_kinds h_this_draft_deeds h_this_draft_begins h_this_draft_steps h_this_draft_lefts h_this_draft_rights h_this_draft_facts h_this_reader_waiting h_this_rock_kinds h_this_rock_trims h_this_rock_lanes h_this_rock_lights h_this_rock_currents h_this_rock_buoys h_this_rock_now h_this_rock_rules h_this_rock_reports h_this_rock_rules_kinds h_this_rock_rules_deeds h_this_rock_rules_begins h_this_rock_rules_steps h_this_rock_rules_lefts h_this_rock_rules_rights h_this_rock_rules_facts : Nat} {x_this_tapeCount : Int32} {x_this_rowCount : Int32} {x_this_isKept : Int32} {x_this_draft_count : Int32} {x_this_draft_size : Int32} {f_this_draft_begins : Nat → Int32} {f_this_draft_deeds : Nat → Int32} {f_this_draft_kinds : Nat → Int32} {f_this_draft_lefts : Nat → Int32} {f_this_draft_rights : Nat → Int32} {f_this_draft_steps : Nat → Int32} {x_this_reader_waitingCount : Int32} {x_this_reader_open : Int32} {x_this_reader_expected : Int32} {x_this_reader_kind : Int32} {x_this_reader_left : Int32} {x_this_reader_sign : Int32} {x_this_reader_token : Int32} {x_this_reader_tokenAt : Int32} {x_this_reader_numeral : Int32} {x_this_reader_place : Int32} {f_this_reader_waiting : Nat → Int32} {x_this_rock_count : Int32} {x_this_rock_end : Int32} {x_this_rock_z : Int32} {x_this_rock_rules_count : Int32} {x_this_rock_rules_size : Int32} {f_this_rock_rules_begins : Nat → Int32} {f_this_rock_rules_deeds : Nat → Int32} {f_this_rock_rules_kinds : Nat → Int32} {f_this_rock_rules_lefts : Nat → Int32} {f_this_rock_rules_rights : Nat → Int32} {f_this_rock_rules_steps : Nat → Int32} {f_this_tape : Nat → Int32} {r : Int32} {m_this_tapeCount : Int32} {m_this_draft_count : Int32} {m_this_draft_size : Int32} {m_this_draft_begins : Nat → Int32} {m_this_draft_deeds : Nat → Int32} {m_this_draft_kinds : Nat → Int32} {m_this_draft_lefts : Nat → Int32} {m_this_draft_rights : Nat → Int32} {m_this_draft_steps : Nat → Int32} {m_this_reader_waitingCount : Int32} {m_this_reader_open : Int32} {m_this_reader_expected : Int32} {m_this_reader_kind : Int32} {m_this_reader_left : Int32} {m_this_reader_sign : Int32} {m_this_reader_token : Int32} {m_this_reader_tokenAt : Int32} {m_this_reader_numeral : Int32} {m_this_reader_place : Int32} {m_this_reader_waiting : Nat → Int32} {m_this_rock_rules_count : Int32} {m_this_rock_rules_size : Int32} {m_this_rock_rules_begins : Nat → Int32} {m_this_rock_rules_deeds : Nat → Int32} {m_this_rock_rules_kinds : Nat → Int32} {m_this_rock_rules_lefts : Nat → Int32} {m_this_rock_rules_rights : Nat → Int32} {m_this_rock_rules_steps : Nat → Int32} (hf : f_X8_rules x_this_tapeCount f_this_draft_begins f_this_draft_deeds f_this_draft_kinds f_this_draft_lefts f_this_draft_rights f_this_draft_steps x_this_reader_kind x_this_reader_left x_this_reader_sign x_this_reader_token x_this_reader_tokenAt x_this_reader_numeral f_this_reader_waiting x_this_rock_rules_count x_this_rock_rules_size f_this_rock_rules_begins f_this_rock_rules_deeds f_this_rock_rules_kinds f_this_rock_rules_lefts f_this_rock_rules_rights f_this_rock_rules_steps f_this_tape = some (r, m_this_tapeCount, m_this_draft_count, m_this_draft_size, m_this_draft_begins, m_this_draft_deeds, m_this_draft_kinds, m_this_draft_lefts, m_this_draft_rights, m_this_draft_steps, m_this_reader_waitingCount, m_this_reader_open, m_this_reader_expected, m_this_reader_kind, m_this_reader_left, m_this_reader_sign, m_this_reader_token, m_this_reader_tokenAt, m_this_reader_numeral, m_this_reader_place, m_this_reader_waiting, m_this_rock_rules_count, m_this_rock_rules_size, m_this_rock_rules_begins, m_this_rock_rules_deeds, m_this_rock_rules_kinds, m_this_rock_rules_lefts, m_this_rock_rules_rights, m_this_rock_rules_steps)) : mFi l G yX8_rules cX8_rules 2 .int 12 [.ref h_this] [(h_this, ob 8 [.ref h_this_rock, .ref h_this_kept, .ref h_this_trial, .ref h_this_planner, .ref h_this_reader, .ref h_this_draft, .ref h_this_host, .ref h_this_thing, .ref h_this_tape, .ref h_this_rows, .int x_this_tapeCount, .int x_this_rowCount, .int x_this_isKept]), (h_this_draft, ob 5 [.ref h_this_draft_kinds, .ref h_this_draft_deeds, .ref h_this_draft_begins, .ref h_this_draft_steps, .ref h_this_draft_lefts, .ref h_this_draft_rights, .ref h_this_draft_facts, .int x_this_draft_count, .int x_this_draft_size]), (h_this_draft_begins, ia G 9 f_this_draft_begins), (h_this_draft_deeds, ia G 8 f_this_draft_deeds), (h_this_draft_kinds, ia G 8 f_this_draft_kinds), (h_this_draft_lefts, ia G 200 f_this_draft_lefts), (h_this_draft_rights, ia G 200 f_this_draft_rights), (h_this_draft_steps, ia G 200 f_this_draft_steps), (h_this_reader, ob 4 [.ref h_this_reader_waiting, .int x_this_reader_waitingCount, .int x_this_reader_open, .int x_this_reader_expected, .int x_this_reader_kind, .int x_this_reader_left, .int x_this_reader_sign, .int x_this_reader_token, .int x_this_reader_tokenAt, .int x_this_reader_numeral, .int x_this_reader_place]), (h_this_reader_waiting, ia G 200 f_this_reader_waiting), (h_this_rock, ob 3 [.ref h_this_rock_kinds, .ref h_this_rock_trims, .ref h_this_rock_lanes, .ref h_this_rock_lights, .ref h_this_rock_currents, .ref h_this_rock_buoys, .ref h_this_rock_now, .ref h_this_rock_rules, .ref h_this_rock_reports, .int x_this_rock_count, .int x_this_rock_end, .int x_this_rock_z]), (h_this_rock_rules, ob 5 [.ref h_this_rock_rules_kinds, .ref h_this_rock_rules_deeds, .ref h_this_rock_rules_begins, .ref h_this_rock_rules_steps, .ref h_this_rock_rules_lefts, .ref h_this_rock_rules_rights, .ref h_this_rock_rules_facts, .int x_this_rock_rules_count, .int x_this_rock_rules_size]), (h_this_rock_rules_begins, ia G 9 f_this_rock_rules_begins), (h_this_rock_rules_deeds, ia G 8 f_this_rock_rules_deeds), (h_this_rock_rules_kinds, ia G 8 f_this_rock_rules_kinds), (h_this_rock_rules_lefts, ia G 200 f_this_rock_rules_lefts), (h_this_rock_rules_rights, ia G 200 f_this_rock_rules_rights), (h_this_rock_rules_steps, ia G 200 f_this_rock_rules_steps), (h_this_tape, ia G 200 f_this_tape)] r [(h_this, ob 8 [.ref h_this_rock, .ref h_this_kept, .ref h_this_trial, .ref h_this_planner, .ref h_this_reader, .ref h_this_draft, .ref h_this_host, .ref h_this_thing, .ref h_this_tape, .ref h_this_rows, .int m_this_tapeCount, .int x_this_rowCount, .int x_this_isKept]), (h_this_draft, ob 5 [.ref h_this_draft_kinds, .ref h_this_draft_deeds, .ref h_this_draft_begins, .ref h_this_draft_steps, .ref h_this_draft_lefts, .ref h_this_draft_rights, .ref h_this_draft_facts, .int m_this_draft_count, .int m_this_draft_size]), (h_this_draft_begins, ia G 9 m_this_draft_begins), (h_this_draft_deeds, ia G 8 m_this_draft_deeds), (h_this_draft_kinds, ia G 8 m_this_draft_kinds), (h_this_draft_lefts, ia G 200 m_this_draft_lefts), (h_this_draft_rights, ia G 200 m_this_draft_rights), (h_this_draft_steps, ia G 200 m_this_draft_steps), (h_this_reader, ob 4 [.ref h_this_reader_waiting, .int m_this_reader_waitingCount, .int m_this_reader_open, .int m_this_reader_expected, .int m_this_reader_kind, .int m_this_reader_left, .int m_this_reader_sign, .int m_this_reader_token, .int m_this_reader_tokenAt, .int m_this_reader_numeral, .int m_this_reader_place]), (h_this_reader_waiting, ia G 200 m_this_reader_waiting), (h_this_rock, ob 3 [.ref h_this_rock_kinds, .ref h_this_rock_trims, .ref h_this_rock_lanes, .ref h_this_rock_lights, .ref h_this_rock_currents, .ref h_this_rock_buoys, .ref h_this_rock_now, .ref h_this_rock_rules, .ref h_this_rock_reports, .int x_this_rock_count, .int x_this_rock_end, .int x_this_rock_z]), (h_this_rock_rules, ob 5 [.ref h_this_rock_rules_kinds, .ref h_this_rock_rules_deeds, .ref h_this_rock_rules_begins, .ref h_this_rock_rules_steps, .ref h_this_rock_rules_lefts, .ref h_this_rock_rules_rights, .ref h_this_rock_rules_facts, .int m_this_rock_rules_count, .int m_this_rock_rules_size]), (h_this_rock_rules_begins, ia G 9 m_this_rock_rules_begins), (h_this_rock_rules_deeds, ia G 8 m_this_rock_rules_deeds), (h_this_rock_rules_kinds, ia G 8 m_this_rock_rules_kinds), (h_this_rock_rules_lefts, ia G 200 m_this_rock_rules_lefts), (h_this_rock_rules_rights, ia G 200 m_this_rock_rules_rights), (h_this_rock_rules_steps, ia G 200 m_this_rock_rules_steps), (h_this_tape, ia G 200 f_this_tape)] := by
  refine mFi.of (by decide +kernel) (Nat.le_of_ble_eq_true rfl) ?_
  intro p e s m below meth c A C hr hlk h ls hl
  obtain ⟨hx, hb, hml, hown, hts⟩ := id C
  replace hl : lv_has ls 2 [(0, .ref h_this)] := hl
  unfold f_X8_rules at hf
  refine lv_aload_n hx hb dX8_rules_0 rfl (lv_at hl 0 rfl) ?_
  refine r_get C h fk_X8_36 0 rfl rfl dX8_rules_1 ?_
  refine lv_aload_n hx hb dX8_rules_4 rfl (lv_at hl 0 rfl) ?_
  refine r_get C h fk_X8_61 0 rfl rfl dX8_rules_5 ?_
  refine lv_aload_n hx hb dX8_rules_8 rfl (lv_at hl 0 rfl) ?_
  refine r_get C h fk_X8_68 0 rfl rfl dX8_rules_9 ?_
  refine lv_aload_n hx hb dX8_rules_12 rfl (lv_at hl 0 rfl) ?_
  refine r_get C h fk_X8_43 0 rfl rfl dX8_rules_13 ?_
  replace hf := bd20_inv hf
  obtain ⟨r1, y2, y3, g4, g5, g6, g7, g8, g9, y10, y11, y12, y13, y14, y15, y16, y17, y18, y19, g20, hc21, hf⟩ := hf
  refine r_ciV (ws' := [(h_this, ob 8 [.ref h_this_rock, .ref h_this_kept, .ref h_this_trial, .ref h_this_planner, .ref h_this_reader, .ref h_this_draft, .ref h_this_host, .ref h_this_thing, .ref h_this_tape, .ref h_this_rows, .int x_this_tapeCount, .int x_this_rowCount, .int x_this_isKept]), (h_this_draft, ob 5 [.ref h_this_draft_kinds, .ref h_this_draft_deeds, .ref h_this_draft_begins, .ref h_this_draft_steps, .ref h_this_draft_lefts, .ref h_this_draft_rights, .ref h_this_draft_facts, .int y2, .int y3]), (h_this_draft_begins, ia G 9 g4), (h_this_draft_deeds, ia G 8 g5), (h_this_draft_kinds, ia G 8 g6), (h_this_draft_lefts, ia G 200 g7), (h_this_draft_rights, ia G 200 g8), (h_this_draft_steps, ia G 200 g9), (h_this_reader, ob 4 [.ref h_this_reader_waiting, .int y10, .int y11, .int y12, .int y13, .int y14, .int y15, .int y16, .int y17, .int y18, .int y19]), (h_this_reader_waiting, ia G 200 g20), (h_this_rock, ob 3 [.ref h_this_rock_kinds, .ref h_this_rock_trims, .ref h_this_rock_lanes, .ref h_this_rock_lights, .ref h_this_rock_currents, .ref h_this_rock_buoys, .ref h_this_rock_now, .ref h_this_rock_rules, .ref h_this_rock_reports, .int x_this_rock_count, .int x_this_rock_end, .int x_this_rock_z]), (h_this_rock_rules, ob 5 [.ref h_this_rock_rules_kinds, .ref h_this_rock_rules_deeds, .ref h_this_rock_rules_begins, .ref h_this_rock_rules_steps, .ref h_this_rock_rules_lefts, .ref h_this_rock_rules_rights, .ref h_this_rock_rules_facts, .int x_this_rock_rules_count, .int x_this_rock_rules_size]), (h_this_rock_rules_begins, ia G 9 f_this_rock_rules_begins), (h_this_rock_rules_deeds, ia G 8 f_this_rock_rules_deeds), (h_this_rock_rules_kinds, ia G 8 f_this_rock_rules_kinds), (h_this_rock_rules_lefts, ia G 200 f_this_rock_rules_lefts), (h_this_rock_rules_rights, ia G 200 f_this_rock_rules_rights), (h_this_rock_rules_steps, ia G 200 f_this_rock_rules_steps), (h_this_tape, ia G 200 f_this_tape)]) C h (c_X4_read hc21) mv_X8_171 rfl 8 rfl [18, 1, 2, 3, 4, 5, 6, 7, 8, 9] rfl rfl rfl rfl rfl hl.1 rfl (Nat.le_of_ble_eq_true rfl) (rok (by decide)) dX8_rules_16 (fun H locs h => ?_)
  refine lv_istore_n (lv' := [(1, .int r1), (0, .ref h_this)]) hx hb dX8_rules_19 rfl hl (by decide) rfl (fun ls hl => ?_)
  refine lv_aload_n hx hb dX8_rules_20 rfl (lv_at hl 1 rfl) ?_
  refine lv_iconst (v := (0 : Int32)) hx hb dX8_rules_21 rfl ?_
  refine r_put (ws' := [(h_this, ob 8 [.ref h_this_rock, .ref h_this_kept, .ref h_this_trial, .ref h_this_planner, .ref h_this_reader, .ref h_this_draft, .ref h_this_host, .ref h_this_thing, .ref h_this_tape, .ref h_this_rows, .int (0 : Int32), .int x_this_rowCount, .int x_this_isKept]), (h_this_draft, ob 5 [.ref h_this_draft_kinds, .ref h_this_draft_deeds, .ref h_this_draft_begins, .ref h_this_draft_steps, .ref h_this_draft_lefts, .ref h_this_draft_rights, .ref h_this_draft_facts, .int y2, .int y3]), (h_this_draft_begins, ia G 9 g4), (h_this_draft_deeds, ia G 8 g5), (h_this_draft_kinds, ia G 8 g6), (h_this_draft_lefts, ia G 200 g7), (h_this_draft_rights, ia G 200 g8), (h_this_draft_steps, ia G 200 g9), (h_this_reader, ob 4 [.ref h_this_reader_waiting, .int y10, .int y11, .int y12, .int y13, .int y14, .int y15, .int y16, .int y17, .int y18, .int y19]), (h_this_reader_waiting, ia G 200 g20), (h_this_rock, ob 3 [.ref h_this_rock_kinds, .ref h_this_rock_trims, .ref h_this_rock_lanes, .ref h_this_rock_lights, .ref h_this_rock_currents, .ref h_this_rock_buoys, .ref h_this_rock_now, .ref h_this_rock_rules, .ref h_this_rock_reports, .int x_this_rock_count, .int x_this_rock_end, .int x_this_rock_z]), (h_this_rock_rules, ob 5 [.ref h_this_rock_rules_kinds, .ref h_this_rock_rules_deeds, .ref h_this_rock_rules_begins, .ref h_this_rock_rules_steps, .ref h_this_rock_rules_lefts, .ref h_this_rock_rules_rights, .ref h_this_rock_rules_facts, .int x_this_rock_rules_count, .int x_this_rock_rules_size]), (h_this_rock_rules_begins, ia G 9 f_this_rock_rules_begins), (h_this_rock_rules_deeds, ia G 8 f_this_rock_rules_deeds), (h_this_rock_rules_kinds, ia G 8 f_this_rock_rules_kinds), (h_this_rock_rules_lefts, ia G 200 f_this_rock_rules_lefts), (h_this_rock_rules_rights, ia G 200 f_this_rock_rules_rights), (h_this_rock_rules_steps, ia G 200 f_this_rock_rules_steps), (h_this_tape, ia G 200 f_this_tape)]) C h fw_X8_68 0 rfl rfl rfl (Nat.le_of_ble_eq_true rfl) dX8_rules_22 rfl (fun H locs h => ?_)
  refine lv_iload_n hx hb dX8_rules_25 rfl (lv_at hl 0 rfl) ?_
  refine lv_iconst (v := (-1 : Int32)) hx hb dX8_rules_26 rfl ?_
  refine lv_icmp_eq (tgt := 35) hx hb dX8_rules_27 rfl (fun c22 => ?_) (fun c22 => ?_)
  · replace hf := ifp c22 hf
    refine lv_aload_n hx hb dX8_rules_35 rfl (lv_at hl 1 rfl) ?_
    refine r_get C h fk_X8_10 0 rfl rfl dX8_rules_36 ?_
    refine r_get C h fk_X8_175 10 rfl rfl dX8_rules_39 ?_
    refine lv_aload_n hx hb dX8_rules_42 rfl (lv_at hl 1 rfl) ?_
    refine r_get C h fk_X8_43 0 rfl rfl dX8_rules_43 ?_
    replace hf := bd8_inv hf
    obtain ⟨y23, y24, g25, g26, g27, g28, g29, g30, hc31, hf⟩ := hf
    refine r_cvV (ws' := [(h_this, ob 8 [.ref h_this_rock, .ref h_this_kept, .ref h_this_trial, .ref h_this_planner, .ref h_this_reader, .ref h_this_draft, .ref h_this_host, .ref h_this_thing, .ref h_this_tape, .ref h_this_rows, .int (0 : Int32), .int x_this_rowCount, .int x_this_isKept]), (h_this_draft, ob 5 [.ref h_this_draft_kinds, .ref h_this_draft_deeds, .ref h_this_draft_begins, .ref h_this_draft_steps, .ref h_this_draft_lefts, .ref h_this_draft_rights, .ref h_this_draft_facts, .int y2, .int y3]), (h_this_draft_begins, ia G 9 g4), (h_this_draft_deeds, ia G 8 g5), (h_this_draft_kinds, ia G 8 g6), (h_this_draft_lefts, ia G 200 g7), (h_this_draft_rights, ia G 200 g8), (h_this_draft_steps, ia G 200 g9), (h_this_reader, ob 4 [.ref h_this_reader_waiting, .int y10, .int y11, .int y12, .int y13, .int y14, .int y15, .int y16, .int y17, .int y18, .int y19]), (h_this_reader_waiting, ia G 200 g20), (h_this_rock, ob 3 [.ref h_this_rock_kinds, .ref h_this_rock_trims, .ref h_this_rock_lanes, .ref h_this_rock_lights, .ref h_this_rock_currents, .ref h_this_rock_buoys, .ref h_this_rock_now, .ref h_this_rock_rules, .ref h_this_rock_reports, .int x_this_rock_count, .int x_this_rock_end, .int x_this_rock_z]), (h_this_rock_rules, ob 5 [.ref h_this_rock_rules_kinds, .ref h_this_rock_rules_deeds, .ref h_this_rock_rules_begins, .ref h_this_rock_rules_steps, .ref h_this_rock_rules_lefts, .ref h_this_rock_rules_rights, .ref h_this_rock_rules_facts, .int y23, .int y24]), (h_this_rock_rules_begins, ia G 9 g25), (h_this_rock_rules_deeds, ia G 8 g26), (h_this_rock_rules_kinds, ia G 8 g27), (h_this_rock_rules_lefts, ia G 200 g28), (h_this_rock_rules_rights, ia G 200 g29), (h_this_rock_rules_steps, ia G 200 g30), (h_this_tape, ia G 200 f_this_tape)]) C h (c_X5_become hc31) mv_X8_178 rfl 11 rfl [1, 2, 3, 4, 5, 6, 7, 11, 12, 13, 14, 15, 16, 17] rfl rfl rfl rfl rfl hl.1 rfl (Nat.le_of_ble_eq_true rfl) (rok (by decide)) dX8_rules_46 (fun H locs h => ?_)
    refine lv_aload_n hx hb dX8_rules_49 rfl (lv_at hl 1 rfl) ?_
    refine r_get C h fk_X8_43 0 rfl rfl dX8_rules_50 ?_
    refine r_get C h fk_X8_182 1 rfl rfl dX8_rules_53 ?_
    cases hf
    exact r_iret C h hr hlk rfl dX8_rules_56
  · replace hf := ifn c22 hf
    refine lv_bipush (v := (-100 : Int32)) hx hb dX8_rules_30 rfl ?_
    refine lv_iload_n hx hb dX8_rules_32 rfl (lv_at hl 0 rfl) ?_
    refine lv_isub hx hb dX8_rules_33 ?_
    cases hf
    exact r_iret C h hr hlk rfl dX8_rules_34
def f_X3_leastThatMayEnter_L2 (x_a0_watch : Int32) (x_a0_home : Int32) (f_a0_off : Nat → Int32) (x_this_count : Int32) (f_this_buoys : Nat → Int32) (f_this_kinds : Nat → Int32) (f_this_lanes : Nat → Int32) (f_this_lights : Nat → Int32) (x_this_rules_count : Int32) (f_this_rules_begins : Nat → Int32) (f_this_rules_deeds : Nat → Int32) (f_this_rules_kinds : Nat → Int32) (f_this_rules_lefts : Nat → Int32) (f_this_rules_rights : Nat → Int32) (f_this_rules_steps : Nat → Int32) (f_this_trims : Nat → Int32) : Nat → Int32 → (Nat → Int32) → Option (Int32 × (Nat → Int32))
  | 0, _, _ => none
  | n + 1, v2, g_this_rules_facts => (if x_this_count ≤ v2 then some ((-3 : Int32), g_this_rules_facts) else bd2 (f_X3_mayEnter v2 x_a0_watch x_a0_home f_a0_off f_this_buoys f_this_kinds f_this_lanes f_this_lights x_this_rules_count f_this_rules_begins f_this_rules_deeds g_this_rules_facts f_this_rules_kinds f_this_rules_lefts f_this_rules_rights f_this_rules_steps f_this_trims) (fun r2 g3 => (if r2 = 0 then lt1 (v2 + (1 : Int32)) (fun (t6 : Int32) => (f_X3_leastThatMayEnter_L2 x_a0_watch x_a0_home f_a0_off x_this_count f_this_buoys f_this_kinds f_this_lanes f_this_lights x_this_rules_count f_this_rules_begins f_this_rules_deeds f_this_rules_kinds f_this_rules_lefts f_this_rules_rights f_this_rules_steps f_this_trims n) t6 g3) else some (v2, g3))))
def f_X3_leastThatMayEnter (x_a0_watch : Int32) (x_a0_home : Int32) (f_a0_off : Nat → Int32) (x_this_count : Int32) (f_this_buoys : Nat → Int32) (f_this_kinds : Nat → Int32) (f_this_lanes : Nat → Int32) (f_this_lights : Nat → Int32) (x_this_rules_count : Int32) (f_this_rules_begins : Nat → Int32) (f_this_rules_deeds : Nat → Int32) (f_this_rules_facts : Nat → Int32) (f_this_rules_kinds : Nat → Int32) (f_this_rules_lefts : Nat → Int32) (f_this_rules_rights : Nat → Int32) (f_this_rules_steps : Nat → Int32) (f_this_trims : Nat → Int32) : Option (Int32 × (Nat → Int32)) := f_X3_leastThatMayEnter_L2 x_a0_watch x_a0_home f_a0_off x_this_count f_this_buoys f_this_kinds f_this_lanes f_this_lights x_this_rules_count f_this_rules_begins f_this_rules_deeds f_this_rules_kinds f_this_rules_lefts f_this_rules_rights f_this_rules_steps f_this_trims 1000 (0 : Int32) f_this_rules_facts
set_option maxRecDepth 100000 in
set_option maxHeartbeats 4000000 in
theorem c_X3_leastThatMayEnter {l : Launch} {G : Gt} {h_a0 h_a0_off h_this h_this_kinds h_this_trims h_this_lanes h_this_lights h_this_currents h_this_buoys h_this_now h_this_rules h_this_reports h_this_rules_kinds h_this_rules_deeds h_this_rules_begins h_this_rules_steps h_this_rules_lefts h_this_rules_rights h_this_rules_facts : Nat} {x_a0_watch : Int32} {x_a0_score : Int32} {x_a0_home : Int32} {f_a0_off : Nat → Int32} {x_this_count : Int32} {x_this_end : Int32} {x_this_z : Int32} {f_this_buoys : Nat → Int32} {f_this_kinds : Nat → Int32} {f_this_lanes : Nat → Int32} {f_this_lights : Nat → Int32} {x_this_rules_count : Int32} {x_this_rules_size : Int32} {f_this_rules_begins : Nat → Int32} {f_this_rules_deeds : Nat → Int32} {f_this_rules_facts : Nat → Int32} {f_this_rules_kinds : Nat → Int32} {f_this_rules_lefts : Nat → Int32} {f_this_rules_rights : Nat → Int32} {f_this_rules_steps : Nat → Int32} {f_this_trims : Nat → Int32} {r : Int32} {m_this_rules_facts : Nat → Int32} (hf : f_X3_leastThatMayEnter x_a0_watch x_a0_home f_a0_off x_this_count f_this_buoys f_this_kinds f_this_lanes f_this_lights x_this_rules_count f_this_rules_begins f_this_rules_deeds f_this_rules_facts f_this_rules_kinds f_this_rules_lefts f_this_rules_rights f_this_rules_steps f_this_trims = some (r, m_this_rules_facts)) : mFi l G yX3_leastThatMayEnter cX3_leastThatMayEnter 3 .int 4 [.ref h_this, .ref h_a0] [(h_a0, ob 6 [.ref h_a0_off, .int x_a0_watch, .int x_a0_score, .int x_a0_home]), (h_a0_off, ia G 6 f_a0_off), (h_this, ob 3 [.ref h_this_kinds, .ref h_this_trims, .ref h_this_lanes, .ref h_this_lights, .ref h_this_currents, .ref h_this_buoys, .ref h_this_now, .ref h_this_rules, .ref h_this_reports, .int x_this_count, .int x_this_end, .int x_this_z]), (h_this_buoys, ia G 6 f_this_buoys), (h_this_kinds, ia G 6 f_this_kinds), (h_this_lanes, ia G 6 f_this_lanes), (h_this_lights, ia G 16 f_this_lights), (h_this_rules, ob 5 [.ref h_this_rules_kinds, .ref h_this_rules_deeds, .ref h_this_rules_begins, .ref h_this_rules_steps, .ref h_this_rules_lefts, .ref h_this_rules_rights, .ref h_this_rules_facts, .int x_this_rules_count, .int x_this_rules_size]), (h_this_rules_begins, ia G 9 f_this_rules_begins), (h_this_rules_deeds, ia G 8 f_this_rules_deeds), (h_this_rules_facts, ia G 5 f_this_rules_facts), (h_this_rules_kinds, ia G 8 f_this_rules_kinds), (h_this_rules_lefts, ia G 200 f_this_rules_lefts), (h_this_rules_rights, ia G 200 f_this_rules_rights), (h_this_rules_steps, ia G 200 f_this_rules_steps), (h_this_trims, ia G 6 f_this_trims)] r [(h_a0, ob 6 [.ref h_a0_off, .int x_a0_watch, .int x_a0_score, .int x_a0_home]), (h_a0_off, ia G 6 f_a0_off), (h_this, ob 3 [.ref h_this_kinds, .ref h_this_trims, .ref h_this_lanes, .ref h_this_lights, .ref h_this_currents, .ref h_this_buoys, .ref h_this_now, .ref h_this_rules, .ref h_this_reports, .int x_this_count, .int x_this_end, .int x_this_z]), (h_this_buoys, ia G 6 f_this_buoys), (h_this_kinds, ia G 6 f_this_kinds), (h_this_lanes, ia G 6 f_this_lanes), (h_this_lights, ia G 16 f_this_lights), (h_this_rules, ob 5 [.ref h_this_rules_kinds, .ref h_this_rules_deeds, .ref h_this_rules_begins, .ref h_this_rules_steps, .ref h_this_rules_lefts, .ref h_this_rules_rights, .ref h_this_rules_facts, .int x_this_rules_count, .int x_this_rules_size]), (h_this_rules_begins, ia G 9 f_this_rules_begins), (h_this_rules_deeds, ia G 8 f_this_rules_deeds), (h_this_rules_facts, ia G 5 m_this_rules_facts), (h_this_rules_kinds, ia G 8 f_this_rules_kinds), (h_this_rules_lefts, ia G 200 f_this_rules_lefts), (h_this_rules_rights, ia G 200 f_this_rules_rights), (h_this_rules_steps, ia G 200 f_this_rules_steps), (h_this_trims, ia G 6 f_this_trims)] := by
  refine mFi.of (by decide +kernel) (Nat.le_of_ble_eq_true rfl) ?_
  intro p e s m below meth c A C hr hlk h ls hl
  obtain ⟨hx, hb, hml, hown, hts⟩ := id C
  replace hl : lv_has ls 3 [(0, .ref h_this), (1, .ref h_a0)] := hl
  unfold f_X3_leastThatMayEnter at hf
  refine with_K G A 3 (fun K hK1 hK2 => ?_)
  have L2 : ∀ (n : Nat) (v2 : Int32) (g_this_rules_facts : Nat → Int32), f_X3_leastThatMayEnter_L2 x_a0_watch x_a0_home f_a0_off x_this_count f_this_buoys f_this_kinds f_this_lanes f_this_lights x_this_rules_count f_this_rules_begins f_this_rules_deeds f_this_rules_kinds f_this_rules_lefts f_this_rules_rights f_this_rules_steps f_this_trims n v2 g_this_rules_facts = some (r, m_this_rules_facts) → K 2 ([] : List Value) [(h_a0, ob 6 [.ref h_a0_off, .int x_a0_watch, .int x_a0_score, .int x_a0_home]), (h_a0_off, ia G 6 f_a0_off), (h_this, ob 3 [.ref h_this_kinds, .ref h_this_trims, .ref h_this_lanes, .ref h_this_lights, .ref h_this_currents, .ref h_this_buoys, .ref h_this_now, .ref h_this_rules, .ref h_this_reports, .int x_this_count, .int x_this_end, .int x_this_z]), (h_this_buoys, ia G 6 f_this_buoys), (h_this_kinds, ia G 6 f_this_kinds), (h_this_lanes, ia G 6 f_this_lanes), (h_this_lights, ia G 16 f_this_lights), (h_this_rules, ob 5 [.ref h_this_rules_kinds, .ref h_this_rules_deeds, .ref h_this_rules_begins, .ref h_this_rules_steps, .ref h_this_rules_lefts, .ref h_this_rules_rights, .ref h_this_rules_facts, .int x_this_rules_count, .int x_this_rules_size]), (h_this_rules_begins, ia G 9 f_this_rules_begins), (h_this_rules_deeds, ia G 8 f_this_rules_deeds), (h_this_rules_facts, ia G 5 g_this_rules_facts), (h_this_rules_kinds, ia G 8 f_this_rules_kinds), (h_this_rules_lefts, ia G 200 f_this_rules_lefts), (h_this_rules_rights, ia G 200 f_this_rules_rights), (h_this_rules_steps, ia G 200 f_this_rules_steps), (h_this_trims, ia G 6 f_this_trims)] [(0, .ref h_this), (1, .ref h_a0), (2, .int v2)] := by
    intro n
    induction n with
    | zero =>
      intro v2 g_this_rules_facts hf
      replace hf : (none : Option _) = some _ := hf
      cases hf
    | succ n ih =>
      intro v2 g_this_rules_facts hf
      rw [f_X3_leastThatMayEnter_L2] at hf
      refine hK1 _ _ _ _ (fun H locs ls h hl => ?_)
      refine lv_iload_n hx hb dX3_leastThatMayEnter_2 rfl (lv_at hl 2 rfl) ?_
      refine lv_aload_n hx hb dX3_leastThatMayEnter_3 rfl (lv_at hl 0 rfl) ?_
      refine r_get C h fk_X3_51 2 rfl rfl dX3_leastThatMayEnter_4 ?_
      refine lv_icmp_ge (tgt := 27) hx hb dX3_leastThatMayEnter_7 rfl (fun c1 => ?_) (fun c1 => ?_)
      · replace hf := ifp c1 hf
        refine lv_bipush (v := (-3 : Int32)) hx hb dX3_leastThatMayEnter_27 rfl ?_
        cases hf
        exact r_iret C h hr hlk rfl dX3_leastThatMayEnter_29
      · replace hf := ifn c1 hf
        refine lv_aload_n hx hb dX3_leastThatMayEnter_10 rfl (lv_at hl 0 rfl) ?_
        refine lv_aload_n hx hb dX3_leastThatMayEnter_11 rfl (lv_at hl 1 rfl) ?_
        refine lv_iload_n hx hb dX3_leastThatMayEnter_12 rfl (lv_at hl 2 rfl) ?_
        replace hf := bd2_inv hf
        obtain ⟨r2, g3, hc4, hf⟩ := hf
        refine r_ciV (ws' := [(h_a0, ob 6 [.ref h_a0_off, .int x_a0_watch, .int x_a0_score, .int x_a0_home]), (h_a0_off, ia G 6 f_a0_off), (h_this, ob 3 [.ref h_this_kinds, .ref h_this_trims, .ref h_this_lanes, .ref h_this_lights, .ref h_this_currents, .ref h_this_buoys, .ref h_this_now, .ref h_this_rules, .ref h_this_reports, .int x_this_count, .int x_this_end, .int x_this_z]), (h_this_buoys, ia G 6 f_this_buoys), (h_this_kinds, ia G 6 f_this_kinds), (h_this_lanes, ia G 6 f_this_lanes), (h_this_lights, ia G 16 f_this_lights), (h_this_rules, ob 5 [.ref h_this_rules_kinds, .ref h_this_rules_deeds, .ref h_this_rules_begins, .ref h_this_rules_steps, .ref h_this_rules_lefts, .ref h_this_rules_rights, .ref h_this_rules_facts, .int x_this_rules_count, .int x_this_rules_size]), (h_this_rules_begins, ia G 9 f_this_rules_begins), (h_this_rules_deeds, ia G 8 f_this_rules_deeds), (h_this_rules_facts, ia G 5 g3), (h_this_rules_kinds, ia G 8 f_this_rules_kinds), (h_this_rules_lefts, ia G 200 f_this_rules_lefts), (h_this_rules_rights, ia G 200 f_this_rules_rights), (h_this_rules_steps, ia G 200 f_this_rules_steps), (h_this_trims, ia G 6 f_this_trims)]) C h (c_X3_mayEnter hc4) mv_X3_140 rfl 2 rfl [0, 1, 2, 3, 4, 5, 6, 7, 8, 9, 10, 11, 12, 13, 14, 15] rfl rfl rfl rfl rfl hl.1 rfl (Nat.le_of_ble_eq_true rfl) (rok (by decide)) dX3_leastThatMayEnter_13 (fun H locs h => ?_)
        refine lv_if_eq (tgt := 21) hx hb dX3_leastThatMayEnter_16 rfl (fun c5 => ?_) (fun c5 => ?_)
        · replace hf := ifp c5 hf
          obtain ⟨t6, et6⟩ : ∃ y : Int32, y = v2 + (1 : Int32) := ⟨_, rfl⟩
          replace hf := lt1_inv et6 hf
          refine lv_iinc (v := t6) (lv' := [(2, .int t6), (0, .ref h_this), (1, .ref h_a0)]) hx hb dX3_leastThatMayEnter_21 hl (k := 2) rfl (by rw [et6]; rfl) (by decide) rfl (fun ls hl => ?_)
          refine lv_goto (tgt := 2) hx hb dX3_leastThatMayEnter_24 rfl ?_
          exact hK2 _ _ _ _ (ih t6 g3 hf) _ _ _ h (lv_sub hl [1, 2, 0] rfl)
        · replace hf := ifn c5 hf
          refine lv_iload_n hx hb dX3_leastThatMayEnter_19 rfl (lv_at hl 2 rfl) ?_
          cases hf
          exact r_iret C h hr hlk rfl dX3_leastThatMayEnter_20
  refine lv_iconst (v := (0 : Int32)) hx hb dX3_leastThatMayEnter_0 rfl ?_
  refine lv_istore_n (lv' := [(2, .int (0 : Int32)), (0, .ref h_this), (1, .ref h_a0)]) hx hb dX3_leastThatMayEnter_1 rfl hl (by decide) rfl (fun ls hl => ?_)
  exact hK2 _ _ _ _ (L2 1000 (0 : Int32) f_this_rules_facts hf) _ _ _ h (lv_sub hl [1, 2, 0] rfl)
def f_X3_obey (p1 : Int32) (x_a0_watch : Int32) (x_a0_home : Int32) (f_a0_off : Nat → Int32) (f_this_buoys : Nat → Int32) (f_this_kinds : Nat → Int32) (f_this_lanes : Nat → Int32) (f_this_lights : Nat → Int32) (x_this_rules_count : Int32) (f_this_rules_begins : Nat → Int32) (f_this_rules_deeds : Nat → Int32) (f_this_rules_facts : Nat → Int32) (f_this_rules_kinds : Nat → Int32) (f_this_rules_lefts : Nat → Int32) (f_this_rules_rights : Nat → Int32) (f_this_rules_steps : Nat → Int32) (f_this_trims : Nat → Int32) : Option (Int32 × Int32 × (Nat → Int32) × (Nat → Int32)) := bd2 (f_X3_will p1 x_a0_watch f_a0_off f_this_kinds f_this_lights x_this_rules_count f_this_rules_begins f_this_rules_deeds f_this_rules_facts f_this_rules_kinds f_this_rules_lefts f_this_rules_rights f_this_rules_steps f_this_trims) (fun r1 g2 => (if r1 = (0 : Int32) then chkI p1 6 (bd1 (f_X3_inReach p1 (f_this_trims p1.toNatClampNeg) x_a0_watch x_a0_home f_a0_off f_this_buoys f_this_kinds f_this_lanes f_this_lights) (fun r7 => (if r7 = 0 then some ((0 : Int32), x_a0_home, f_a0_off, g2) else bd2 (f_X6_bring p1 (1 : Int32) x_a0_home) (fun r10 y11 => chkI p1 6 (some ((6 : Int32) + (f_this_trims p1.toNatClampNeg), y11, f_a0_off, g2)))))) else (if r1 = (2 : Int32) then chkI p1 6 (lt1 (imin (99 : Int32) ((f_a0_off p1.toNatClampNeg) + (12 : Int32))) (fun (t15 : Int32) => chkI p1 6 (bd1 (f_X3_lightAt x_a0_watch f_this_lights) (fun r17 => (if (r17 &&& (3 : Int32)) ≤ (1 : Int32) then some ((0 : Int32), x_a0_home, upd f_a0_off p1.toNatClampNeg t15, g2) else some ((1 : Int32), x_a0_home, upd f_a0_off p1.toNatClampNeg t15, g2)))))) else some ((0 : Int32), x_a0_home, f_a0_off, g2))))
set_option maxRecDepth 100000 in
set_option maxHeartbeats 4000000 in
theorem c_X3_obey {l : Launch} {G : Gt} {h_a0 h_a0_off h_this h_this_kinds h_this_trims h_this_lanes h_this_lights h_this_currents h_this_buoys h_this_now h_this_rules h_this_reports h_this_rules_kinds h_this_rules_deeds h_this_rules_begins h_this_rules_steps h_this_rules_lefts h_this_rules_rights h_this_rules_facts : Nat} {p1 : Int32} {x_a0_watch : Int32} {x_a0_score : Int32} {x_a0_home : Int32} {f_a0_off : Nat → Int32} {x_this_count : Int32} {x_this_end : Int32} {x_this_z : Int32} {f_this_buoys : Nat → Int32} {f_this_kinds : Nat → Int32} {f_this_lanes : Nat → Int32} {f_this_lights : Nat → Int32} {x_this_rules_count : Int32} {x_this_rules_size : Int32} {f_this_rules_begins : Nat → Int32} {f_this_rules_deeds : Nat → Int32} {f_this_rules_facts : Nat → Int32} {f_this_rules_kinds : Nat → Int32} {f_this_rules_lefts : Nat → Int32} {f_this_rules_rights : Nat → Int32} {f_this_rules_steps : Nat → Int32} {f_this_trims : Nat → Int32} {r : Int32} {m_a0_home : Int32} {m_a0_off : Nat → Int32} {m_this_rules_facts : Nat → Int32} (hf : f_X3_obey p1 x_a0_watch x_a0_home f_a0_off f_this_buoys f_this_kinds f_this_lanes f_this_lights x_this_rules_count f_this_rules_begins f_this_rules_deeds f_this_rules_facts f_this_rules_kinds f_this_rules_lefts f_this_rules_rights f_this_rules_steps f_this_trims = some (r, m_a0_home, m_a0_off, m_this_rules_facts)) : mFi l G yX3_obey cX3_obey 3 .int 3 [.ref h_this, .ref h_a0, .int p1] [(h_a0, ob 6 [.ref h_a0_off, .int x_a0_watch, .int x_a0_score, .int x_a0_home]), (h_a0_off, ia G 6 f_a0_off), (h_this, ob 3 [.ref h_this_kinds, .ref h_this_trims, .ref h_this_lanes, .ref h_this_lights, .ref h_this_currents, .ref h_this_buoys, .ref h_this_now, .ref h_this_rules, .ref h_this_reports, .int x_this_count, .int x_this_end, .int x_this_z]), (h_this_buoys, ia G 6 f_this_buoys), (h_this_kinds, ia G 6 f_this_kinds), (h_this_lanes, ia G 6 f_this_lanes), (h_this_lights, ia G 16 f_this_lights), (h_this_rules, ob 5 [.ref h_this_rules_kinds, .ref h_this_rules_deeds, .ref h_this_rules_begins, .ref h_this_rules_steps, .ref h_this_rules_lefts, .ref h_this_rules_rights, .ref h_this_rules_facts, .int x_this_rules_count, .int x_this_rules_size]), (h_this_rules_begins, ia G 9 f_this_rules_begins), (h_this_rules_deeds, ia G 8 f_this_rules_deeds), (h_this_rules_facts, ia G 5 f_this_rules_facts), (h_this_rules_kinds, ia G 8 f_this_rules_kinds), (h_this_rules_lefts, ia G 200 f_this_rules_lefts), (h_this_rules_rights, ia G 200 f_this_rules_rights), (h_this_rules_steps, ia G 200 f_this_rules_steps), (h_this_trims, ia G 6 f_this_trims)] r [(h_a0, ob 6 [.ref h_a0_off, .int x_a0_watch, .int x_a0_score, .int m_a0_home]), (h_a0_off, ia G 6 m_a0_off), (h_this, ob 3 [.ref h_this_kinds, .ref h_this_trims, .ref h_this_lanes, .ref h_this_lights, .ref h_this_currents, .ref h_this_buoys, .ref h_this_now, .ref h_this_rules, .ref h_this_reports, .int x_this_count, .int x_this_end, .int x_this_z]), (h_this_buoys, ia G 6 f_this_buoys), (h_this_kinds, ia G 6 f_this_kinds), (h_this_lanes, ia G 6 f_this_lanes), (h_this_lights, ia G 16 f_this_lights), (h_this_rules, ob 5 [.ref h_this_rules_kinds, .ref h_this_rules_deeds, .ref h_this_rules_begins, .ref h_this_rules_steps, .ref h_this_rules_lefts, .ref h_this_rules_rights, .ref h_this_rules_facts, .int x_this_rules_count, .int x_this_rules_size]), (h_this_rules_begins, ia G 9 f_this_rules_begins), (h_this_rules_deeds, ia G 8 f_this_rules_deeds), (h_this_rules_facts, ia G 5 m_this_rules_facts), (h_this_rules_kinds, ia G 8 f_this_rules_kinds), (h_this_rules_lefts, ia G 200 f_this_rules_lefts), (h_this_rules_rights, ia G 200 f_this_rules_rights), (h_this_rules_steps, ia G 200 f_this_rules_steps), (h_this_trims, ia G 6 f_this_trims)] := by
  refine mFi.of (by decide +kernel) (Nat.le_of_ble_eq_true rfl) ?_
  intro p e s m below meth c A C hr hlk h ls hl
  obtain ⟨hx, hb, hml, hown, hts⟩ := id C
  replace hl : lv_has ls 3 [(0, .ref h_this), (1, .ref h_a0), (2, .int p1)] := hl
  unfold f_X3_obey at hf
  refine lv_aload_n hx hb dX3_obey_0 rfl (lv_at hl 0 rfl) ?_
  refine lv_aload_n hx hb dX3_obey_1 rfl (lv_at hl 1 rfl) ?_
  refine lv_iload_n hx hb dX3_obey_2 rfl (lv_at hl 2 rfl) ?_
  replace hf := bd2_inv hf
  obtain ⟨r1, g2, hc3, hf⟩ := hf
  refine r_ciV (ws' := [(h_a0, ob 6 [.ref h_a0_off, .int x_a0_watch, .int x_a0_score, .int x_a0_home]), (h_a0_off, ia G 6 f_a0_off), (h_this, ob 3 [.ref h_this_kinds, .ref h_this_trims, .ref h_this_lanes, .ref h_this_lights, .ref h_this_currents, .ref h_this_buoys, .ref h_this_now, .ref h_this_rules, .ref h_this_reports, .int x_this_count, .int x_this_end, .int x_this_z]), (h_this_buoys, ia G 6 f_this_buoys), (h_this_kinds, ia G 6 f_this_kinds), (h_this_lanes, ia G 6 f_this_lanes), (h_this_lights, ia G 16 f_this_lights), (h_this_rules, ob 5 [.ref h_this_rules_kinds, .ref h_this_rules_deeds, .ref h_this_rules_begins, .ref h_this_rules_steps, .ref h_this_rules_lefts, .ref h_this_rules_rights, .ref h_this_rules_facts, .int x_this_rules_count, .int x_this_rules_size]), (h_this_rules_begins, ia G 9 f_this_rules_begins), (h_this_rules_deeds, ia G 8 f_this_rules_deeds), (h_this_rules_facts, ia G 5 g2), (h_this_rules_kinds, ia G 8 f_this_rules_kinds), (h_this_rules_lefts, ia G 200 f_this_rules_lefts), (h_this_rules_rights, ia G 200 f_this_rules_rights), (h_this_rules_steps, ia G 200 f_this_rules_steps), (h_this_trims, ia G 6 f_this_trims)]) C h (c_X3_will hc3) mv_X3_136 rfl 2 rfl [0, 1, 2, 4, 6, 7, 8, 9, 10, 11, 12, 13, 14, 15] rfl rfl rfl rfl rfl hl.1 rfl (Nat.le_of_ble_eq_true rfl) (rok (by decide)) dX3_obey_3 (fun H locs h => ?_)
  by_cases c4 : r1 = (0 : Int32)
  · replace hf := ifp c4 hf
    refine r_lk (tgt := 32) C dX3_obey_6 (by decide) (0 : Int32) c4 rfl rfl ?_
    refine lv_aload_n hx hb dX3_obey_32 rfl (lv_at hl 0 rfl) ?_
    refine lv_aload_n hx hb dX3_obey_33 rfl (lv_at hl 1 rfl) ?_
    refine lv_iload_n hx hb dX3_obey_34 rfl (lv_at hl 2 rfl) ?_
    refine lv_aload_n hx hb dX3_obey_35 rfl (lv_at hl 0 rfl) ?_
    refine r_get C h fk_X3_15 2 rfl rfl dX3_obey_36 ?_
    refine lv_iload_n hx hb dX3_obey_39 rfl (lv_at hl 2 rfl) ?_
    replace hf := chkI_inv hf
    obtain ⟨hi6, hf⟩ := hf
    refine r_iald C h 15 rfl hi6 dX3_obey_40 ?_
    replace hf := bd1_inv hf
    obtain ⟨r7, hc8, hf⟩ := hf
    refine r_ciV0 C h (c_X3_inReach hc8) mv_X3_116 rfl 2 rfl [0, 1, 2, 3, 4, 5, 6] rfl rfl hl.1 rfl (Nat.le_of_ble_eq_true rfl) (rok (by decide)) dX3_obey_41 (fun H locs h => ?_)
    refine lv_if_ne (tgt := 49) hx hb dX3_obey_44 rfl (fun c9 => ?_) (fun c9 => ?_)
    · replace hf := ifn c9 hf
      refine lv_aload_n hx hb dX3_obey_49 rfl (lv_at hl 1 rfl) ?_
      refine lv_iload_n hx hb dX3_obey_50 rfl (lv_at hl 2 rfl) ?_
      refine lv_iconst (v := (1 : Int32)) hx hb dX3_obey_51 rfl ?_
      replace hf := bd2_inv hf
      obtain ⟨r10, y11, hc12, hf⟩ := hf
      refine r_ciV (ws' := [(h_a0, ob 6 [.ref h_a0_off, .int x_a0_watch, .int x_a0_score, .int y11]), (h_a0_off, ia G 6 f_a0_off), (h_this, ob 3 [.ref h_this_kinds, .ref h_this_trims, .ref h_this_lanes, .ref h_this_lights, .ref h_this_currents, .ref h_this_buoys, .ref h_this_now, .ref h_this_rules, .ref h_this_reports, .int x_this_count, .int x_this_end, .int x_this_z]), (h_this_buoys, ia G 6 f_this_buoys), (h_this_kinds, ia G 6 f_this_kinds), (h_this_lanes, ia G 6 f_this_lanes), (h_this_lights, ia G 16 f_this_lights), (h_this_rules, ob 5 [.ref h_this_rules_kinds, .ref h_this_rules_deeds, .ref h_this_rules_begins, .ref h_this_rules_steps, .ref h_this_rules_lefts, .ref h_this_rules_rights, .ref h_this_rules_facts, .int x_this_rules_count, .int x_this_rules_size]), (h_this_rules_begins, ia G 9 f_this_rules_begins), (h_this_rules_deeds, ia G 8 f_this_rules_deeds), (h_this_rules_facts, ia G 5 g2), (h_this_rules_kinds, ia G 8 f_this_rules_kinds), (h_this_rules_lefts, ia G 200 f_this_rules_lefts), (h_this_rules_rights, ia G 200 f_this_rules_rights), (h_this_rules_steps, ia G 200 f_this_rules_steps), (h_this_trims, ia G 6 f_this_trims)]) C h (c_X6_bring hc12) mv_X3_89 rfl 0 rfl [0] rfl rfl rfl rfl rfl hl.1 rfl (Nat.le_of_ble_eq_true rfl) (rok (by decide)) dX3_obey_52 (fun H locs h => ?_)
      refine lv_pop hx hb dX3_obey_55 rfl ?_
      refine lv_bipush (v := (6 : Int32)) hx hb dX3_obey_56 rfl ?_
      refine lv_aload_n hx hb dX3_obey_58 rfl (lv_at hl 0 rfl) ?_
      refine r_get C h fk_X3_15 2 rfl rfl dX3_obey_59 ?_
      refine lv_iload_n hx hb dX3_obey_62 rfl (lv_at hl 2 rfl) ?_
      replace hf := chkI_inv hf
      obtain ⟨hi13, hf⟩ := hf
      refine r_iald C h 15 rfl hi13 dX3_obey_63 ?_
      refine lv_iadd hx hb dX3_obey_64 ?_
      cases hf
      exact r_iret C h hr hlk rfl dX3_obey_65
    · replace hf := ifp c9 hf
      refine lv_iconst (v := (0 : Int32)) hx hb dX3_obey_47 rfl ?_
      cases hf
      exact r_iret C h hr hlk rfl dX3_obey_48
  · replace hf := ifn c4 hf
    by_cases c5 : r1 = (2 : Int32)
    · replace hf := ifp c5 hf
      refine r_lk (tgt := 66) C dX3_obey_6 (by decide) (2 : Int32) c5 rfl rfl ?_
      refine lv_aload_n hx hb dX3_obey_66 rfl (lv_at hl 1 rfl) ?_
      refine r_get C h fk_X3_86 0 rfl rfl dX3_obey_67 ?_
      refine lv_iload_n hx hb dX3_obey_70 rfl (lv_at hl 2 rfl) ?_
      refine lv_bipush (v := (99 : Int32)) hx hb dX3_obey_71 rfl ?_
      refine lv_aload_n hx hb dX3_obey_73 rfl (lv_at hl 1 rfl) ?_
      refine r_get C h fk_X3_86 0 rfl rfl dX3_obey_74 ?_
      refine lv_iload_n hx hb dX3_obey_77 rfl (lv_at hl 2 rfl) ?_
      replace hf := chkI_inv hf
      obtain ⟨hi14, hf⟩ := hf
      refine r_iald C h 1 rfl hi14 dX3_obey_78 ?_
      refine lv_bipush (v := (12 : Int32)) hx hb dX3_obey_79 rfl ?_
      refine lv_iadd hx hb dX3_obey_81 ?_
      refine r_imin C mi_X3_168 hl.1 (Nat.le_of_ble_eq_true rfl) (Nat.le_of_ble_eq_true rfl) dX3_obey_82 ?_
      refine lv_topi (fun t15 et15 => ?_)
      replace hf := lt1_inv et15 hf
      replace hf := chkI_inv hf
      obtain ⟨hi16, hf⟩ := hf
      refine r_iast (ws' := [(h_a0, ob 6 [.ref h_a0_off, .int x_a0_watch, .int x_a0_score, .int x_a0_home]), (h_a0_off, ia G 6 (upd f_a0_off p1.toNatClampNeg t15)), (h_this, ob 3 [.ref h_this_kinds, .ref h_this_trims, .ref h_this_lanes, .ref h_this_lights, .ref h_this_currents, .ref h_this_buoys, .ref h_this_now, .ref h_this_rules, .ref h_this_reports, .int x_this_count, .int x_this_end, .int x_this_z]), (h_this_buoys, ia G 6 f_this_buoys), (h_this_kinds, ia G 6 f_this_kinds), (h_this_lanes, ia G 6 f_this_lanes), (h_this_lights, ia G 16 f_this_lights), (h_this_rules, ob 5 [.ref h_this_rules_kinds, .ref h_this_rules_deeds, .ref h_this_rules_begins, .ref h_this_rules_steps, .ref h_this_rules_lefts, .ref h_this_rules_rights, .ref h_this_rules_facts, .int x_this_rules_count, .int x_this_rules_size]), (h_this_rules_begins, ia G 9 f_this_rules_begins), (h_this_rules_deeds, ia G 8 f_this_rules_deeds), (h_this_rules_facts, ia G 5 g2), (h_this_rules_kinds, ia G 8 f_this_rules_kinds), (h_this_rules_lefts, ia G 200 f_this_rules_lefts), (h_this_rules_rights, ia G 200 f_this_rules_rights), (h_this_rules_steps, ia G 200 f_this_rules_steps), (h_this_trims, ia G 6 f_this_trims)]) C h 1 rfl hi16 dX3_obey_85 rfl (fun H locs h => ?_)
      refine lv_aload_n hx hb dX3_obey_86 rfl (lv_at hl 0 rfl) ?_
      refine lv_aload_n hx hb dX3_obey_87 rfl (lv_at hl 1 rfl) ?_
      refine r_get C h fk_X3_83 0 rfl rfl dX3_obey_88 ?_
      replace hf := bd1_inv hf
      obtain ⟨r17, hc18, hf⟩ := hf
      refine r_ciV0 C h (c_X3_lightAt hc18) mv_X3_97 rfl 2 rfl [2, 6] rfl rfl hl.1 rfl (Nat.le_of_ble_eq_true rfl) (rok (by decide)) dX3_obey_91 (fun H locs h => ?_)
      refine lv_iconst (v := (3 : Int32)) hx hb dX3_obey_94 rfl ?_
      refine lv_iand hx hb dX3_obey_95 ?_
      refine lv_iconst (v := (1 : Int32)) hx hb dX3_obey_96 rfl ?_
      refine lv_icmp_le (tgt := 104) hx hb dX3_obey_97 rfl (fun c19 => ?_) (fun c19 => ?_)
      · replace hf := ifp c19 hf
        refine lv_iconst (v := (0 : Int32)) hx hb dX3_obey_104 rfl ?_
        cases hf
        exact r_iret C h hr hlk rfl dX3_obey_105
      · replace hf := ifn c19 hf
        refine lv_iconst (v := (1 : Int32)) hx hb dX3_obey_100 rfl ?_
        refine lv_goto (tgt := 105) hx hb dX3_obey_101 rfl ?_
        cases hf
        exact r_iret C h hr hlk rfl dX3_obey_105
    · replace hf := ifn c5 hf
      refine r_lkD (tgt := 106) C dX3_obey_6 (by decide) [(0 : Int32), (2 : Int32)] (by decide) (nel_c c4 (nel_c c5 nel_0)) rfl ?_
      refine lv_iconst (v := (0 : Int32)) hx hb dX3_obey_106 rfl ?_
      cases hf
      exact r_iret C h hr hlk rfl dX3_obey_107
def f_J6_bitCount_0f7a4 (p0 : Int32) : Option (Int32) := lt1 (p0 - ((iushr p0 (1 : Int32)) &&& (1431655765 : Int32))) (fun (t1 : Int32) => lt1 ((t1 &&& (858993459 : Int32)) + ((iushr t1 (2 : Int32)) &&& (858993459 : Int32))) (fun (t2 : Int32) => lt1 ((t2 + (iushr t2 (4 : Int32))) &&& (252645135 : Int32)) (fun (t3 : Int32) => lt1 (t3 + (iushr t3 (8 : Int32))) (fun (t4 : Int32) => lt1 (t4 + (iushr t4 (16 : Int32))) (fun (t5 : Int32) => some (t5 &&& (63 : Int32)))))))
set_option maxRecDepth 100000 in
set_option maxHeartbeats 4000000 in
theorem c_J6_bitCount_0f7a4 {l : Launch} {G : Gt} {p0 : Int32} {r : Int32} (hf : f_J6_bitCount_0f7a4 p0 = some r) : mFi l G yJ6_bitCount_0f7a4 cJ6_bitCount_0f7a4 1 .int 0 [.int p0] ([] : va_W) r ([] : va_W) := by
  refine mFi.of (by decide +kernel) (Nat.le_of_ble_eq_true rfl) ?_
  intro p e s m below meth c A C hr hlk h ls hl
  obtain ⟨hx, hb, hml, hown, hts⟩ := id C
  replace hl : lv_has ls 1 [(0, .int p0)] := hl
  unfold f_J6_bitCount_0f7a4 at hf
  refine lv_iload_n hx hb dJ6_bitCount_0f7a4_0 rfl (lv_at hl 0 rfl) ?_
  refine lv_iload_n hx hb dJ6_bitCount_0f7a4_1 rfl (lv_at hl 0 rfl) ?_
  refine lv_iconst (v := (1 : Int32)) hx hb dJ6_bitCount_0f7a4_2 rfl ?_
  refine lv_iushr (v := iushr p0 (1 : Int32)) hx hb dJ6_bitCount_0f7a4_3 rfl ?_
  refine lv_ldcw hx hb hown (hts _ cw_J6_265) dJ6_bitCount_0f7a4_4 ?_
  refine lv_iand hx hb dJ6_bitCount_0f7a4_7 ?_
  refine lv_isub hx hb dJ6_bitCount_0f7a4_8 ?_
  refine lv_topi (fun t1 et1 => ?_)
  replace hf := lt1_inv et1 hf
  refine lv_istore_n (lv' := [(0, .int t1)]) hx hb dJ6_bitCount_0f7a4_9 rfl hl (by decide) rfl (fun ls hl => ?_)
  refine lv_iload_n hx hb dJ6_bitCount_0f7a4_10 rfl (lv_at hl 0 rfl) ?_
  refine lv_ldcw hx hb hown (hts _ cw_J6_266) dJ6_bitCount_0f7a4_11 ?_
  refine lv_iand hx hb dJ6_bitCount_0f7a4_14 ?_
  refine lv_iload_n hx hb dJ6_bitCount_0f7a4_15 rfl (lv_at hl 0 rfl) ?_
  refine lv_iconst (v := (2 : Int32)) hx hb dJ6_bitCount_0f7a4_16 rfl ?_
  refine lv_iushr (v := iushr t1 (2 : Int32)) hx hb dJ6_bitCount_0f7a4_17 rfl ?_
  refine lv_ldcw hx hb hown (hts _ cw_J6_266) dJ6_bitCount_0f7a4_18 ?_
  refine lv_iand hx hb dJ6_bitCount_0f7a4_21 ?_
  refine lv_iadd hx hb dJ6_bitCount_0f7a4_22 ?_
  refine lv_topi (fun t2 et2 => ?_)
  replace hf := lt1_inv et2 hf
  refine lv_istore_n (lv' := [(0, .int t2)]) hx hb dJ6_bitCount_0f7a4_23 rfl hl (by decide) rfl (fun ls hl => ?_)
  refine lv_iload_n hx hb dJ6_bitCount_0f7a4_24 rfl (lv_at hl 0 rfl) ?_
  refine lv_iload_n hx hb dJ6_bitCount_0f7a4_25 rfl (lv_at hl 0 rfl) ?_
  refine lv_iconst (v := (4 : Int32)) hx hb dJ6_bitCount_0f7a4_26 rfl ?_
  refine lv_iushr (v := iushr t2 (4 : Int32)) hx hb dJ6_bitCount_0f7a4_27 rfl ?_
  refine lv_iadd hx hb dJ6_bitCount_0f7a4_28 ?_
  refine lv_ldcw hx hb hown (hts _ cw_J6_267) dJ6_bitCount_0f7a4_29 ?_
  refine lv_iand hx hb dJ6_bitCount_0f7a4_32 ?_
  refine lv_topi (fun t3 et3 => ?_)
  replace hf := lt1_inv et3 hf
  refine lv_istore_n (lv' := [(0, .int t3)]) hx hb dJ6_bitCount_0f7a4_33 rfl hl (by decide) rfl (fun ls hl => ?_)
  refine lv_iload_n hx hb dJ6_bitCount_0f7a4_34 rfl (lv_at hl 0 rfl) ?_
  refine lv_iload_n hx hb dJ6_bitCount_0f7a4_35 rfl (lv_at hl 0 rfl) ?_
  refine lv_bipush (v := (8 : Int32)) hx hb dJ6_bitCount_0f7a4_36 rfl ?_
  refine lv_iushr (v := iushr t3 (8 : Int32)) hx hb dJ6_bitCount_0f7a4_38 rfl ?_
  refine lv_iadd hx hb dJ6_bitCount_0f7a4_39 ?_
  refine lv_topi (fun t4 et4 => ?_)
  replace hf := lt1_inv et4 hf
  refine lv_istore_n (lv' := [(0, .int t4)]) hx hb dJ6_bitCount_0f7a4_40 rfl hl (by decide) rfl (fun ls hl => ?_)
  refine lv_iload_n hx hb dJ6_bitCount_0f7a4_41 rfl (lv_at hl 0 rfl) ?_
  refine lv_iload_n hx hb dJ6_bitCount_0f7a4_42 rfl (lv_at hl 0 rfl) ?_
  refine lv_bipush (v := (16 : Int32)) hx hb dJ6_bitCount_0f7a4_43 rfl ?_
  refine lv_iushr (v := iushr t4 (16 : Int32)) hx hb dJ6_bitCount_0f7a4_45 rfl ?_
  refine lv_iadd hx hb dJ6_bitCount_0f7a4_46 ?_
  refine lv_topi (fun t5 et5 => ?_)
  replace hf := lt1_inv et5 hf
  refine lv_istore_n (lv' := [(0, .int t5)]) hx hb dJ6_bitCount_0f7a4_47 rfl hl (by decide) rfl (fun ls hl => ?_)
  refine lv_iload_n hx hb dJ6_bitCount_0f7a4_48 rfl (lv_at hl 0 rfl) ?_
  refine lv_bipush (v := (63 : Int32)) hx hb dJ6_bitCount_0f7a4_49 rfl ?_
  refine lv_iand hx hb dJ6_bitCount_0f7a4_51 ?_
  cases hf
  exact r_iret C h hr hlk rfl dJ6_bitCount_0f7a4_52
def f_X3_pass_b86 (x_a0_watch : Int32) (x_a0_score : Int32) (x_this_count : Int32) (v3 : Int32) (y_a0_home : Int32) (g_a0_off : Nat → Int32) (g_this_rules_facts : Nat → Int32) : Option (Int32 × Int32 × Int32 × Int32 × (Nat → Int32) × (Nat → Int32)) := bd1 (f_J6_bitCount_0f7a4 y_a0_home) (fun r5 => bd1 (f_X3_stranded y_a0_home g_a0_off x_this_count) (fun r7 => lt1 (v3 + (imax (0 : Int32) (r5 - r7))) (fun (t9 : Int32) => lt1 (x_a0_watch + (1 : Int32)) (fun (t10 : Int32) => lt1 (x_a0_score + t9) (fun (t11 : Int32) => some (t9, t10, t11, y_a0_home, g_a0_off, g_this_rules_facts))))))
def f_X3_pass_L36 (x_a0_watch : Int32) (x_a0_score : Int32) (x_this_count : Int32) (f_this_currents : Nat → Int32) (f_this_kinds : Nat → Int32) (f_this_lanes : Nat → Int32) (f_this_lights : Nat → Int32) : Nat → Int32 → Int32 → Int32 → (Nat → Int32) → (Nat → Int32) → Option (Int32 × Int32 × Int32 × Int32 × (Nat → Int32) × (Nat → Int32))
  | 0, _, _, _, _, _ => none
  | n + 1, v3, v4, y_a0_home, g_a0_off, g_this_rules_facts => (if x_this_count ≤ v4 then f_X3_pass_b86 x_a0_watch x_a0_score x_this_count v3 y_a0_home g_a0_off g_this_rules_facts else bd1 (f_X6_isHome v4 y_a0_home) (fun r12 => (if r12 = 0 then chkI v4 6 (bd1 (f_X3_nears v4 x_a0_watch y_a0_home x_this_count f_this_currents f_this_kinds f_this_lanes f_this_lights) (fun r17 => lt1 (imax (0 : Int32) ((g_a0_off v4.toNatClampNeg) - r17)) (fun (t19 : Int32) => chkI v4 6 (lt1 (v4 + (1 : Int32)) (fun (t21 : Int32) => (f_X3_pass_L36 x_a0_watch x_a0_score x_this_count f_this_currents f_this_kinds f_this_lanes f_this_lights n) v3 t21 y_a0_home (upd g_a0_off v4.toNatClampNeg t19) g_this_rules_facts))))) else lt1 (v4 + (1 : Int32)) (fun (t15 : Int32) => (f_X3_pass_L36 x_a0_watch x_a0_score x_this_count f_this_currents f_this_kinds f_this_lanes f_this_lights n) v3 t15 y_a0_home g_a0_off g_this_rules_facts))))
def f_X3_pass_b32 (x_a0_watch : Int32) (x_a0_score : Int32) (x_this_count : Int32) (f_this_currents : Nat → Int32) (f_this_kinds : Nat → Int32) (f_this_lanes : Nat → Int32) (f_this_lights : Nat → Int32) (s0 : Int32) (y_a0_home : Int32) (g_a0_off : Nat → Int32) (g_this_rules_facts : Nat → Int32) : Option (Int32 × Int32 × Int32 × Int32 × (Nat → Int32) × (Nat → Int32)) := f_X3_pass_L36 x_a0_watch x_a0_score x_this_count f_this_currents f_this_kinds f_this_lanes f_this_lights 1000 s0 (0 : Int32) y_a0_home g_a0_off g_this_rules_facts
def f_X3_pass_b31 (x_a0_watch : Int32) (x_a0_score : Int32) (x_a0_home : Int32) (f_a0_off : Nat → Int32) (x_this_count : Int32) (f_this_currents : Nat → Int32) (f_this_kinds : Nat → Int32) (f_this_lanes : Nat → Int32) (f_this_lights : Nat → Int32) (f_this_rules_facts : Nat → Int32) : Option (Int32 × Int32 × Int32 × Int32 × (Nat → Int32) × (Nat → Int32)) := f_X3_pass_b32 x_a0_watch x_a0_score x_this_count f_this_currents f_this_kinds f_this_lanes f_this_lights (0 : Int32) x_a0_home f_a0_off f_this_rules_facts
def f_X3_pass (p1 : Int32) (x_a0_watch : Int32) (x_a0_score : Int32) (x_a0_home : Int32) (f_a0_off : Nat → Int32) (x_this_count : Int32) (f_this_buoys : Nat → Int32) (f_this_currents : Nat → Int32) (f_this_kinds : Nat → Int32) (f_this_lanes : Nat → Int32) (f_this_lights : Nat → Int32) (x_this_rules_count : Int32) (f_this_rules_begins : Nat → Int32) (f_this_rules_deeds : Nat → Int32) (f_this_rules_facts : Nat → Int32) (f_this_rules_kinds : Nat → Int32) (f_this_rules_lefts : Nat → Int32) (f_this_rules_rights : Nat → Int32) (f_this_rules_steps : Nat → Int32) (f_this_trims : Nat → Int32) : Option (Int32 × Int32 × Int32 × Int32 × (Nat → Int32) × (Nat → Int32)) := bd1 (f_X3_has (p1 - (1 : Int32)) x_this_count) (fun r1 => (if r1 = 0 then f_X3_pass_b31 x_a0_watch x_a0_score x_a0_home f_a0_off x_this_count f_this_currents f_this_kinds f_this_lanes f_this_lights f_this_rules_facts else bd1 (f_X6_isHome (p1 - (1 : Int32)) x_a0_home) (fun r22 => (if r22 = 0 then bd4 (f_X3_obey (p1 - (1 : Int32)) x_a0_watch x_a0_home f_a0_off f_this_buoys f_this_kinds f_this_lanes f_this_lights x_this_rules_count f_this_rules_begins f_this_rules_deeds f_this_rules_facts f_this_rules_kinds f_this_rules_lefts f_this_rules_rights f_this_rules_steps f_this_trims) (fun r25 y26 g27 g28 => f_X3_pass_b32 x_a0_watch x_a0_score x_this_count f_this_currents f_this_kinds f_this_lanes f_this_lights r25 y26 g27 g28) else f_X3_pass_b31 x_a0_watch x_a0_score x_a0_home f_a0_off x_this_count f_this_currents f_this_kinds f_this_lanes f_this_lights f_this_rules_facts))))
set_option maxRecDepth 100000 in
set_option maxHeartbeats 4000000 in
theorem c_X3_pass {l : Launch} {G : Gt} {h_a0 h_a0_off h_this h_this_kinds h_this_trims h_this_lanes h_this_lights h_this_currents h_this_buoys h_this_now h_this_rules h_this_reports h_this_rules_kinds h_this_rules_deeds h_this_rules_begins h_this_rules_steps h_this_rules_lefts h_this_rules_rights h_this_rules_facts : Nat} {p1 : Int32} {x_a0_watch : Int32} {x_a0_score : Int32} {x_a0_home : Int32} {f_a0_off : Nat → Int32} {x_this_count : Int32} {x_this_end : Int32} {x_this_z : Int32} {f_this_buoys : Nat → Int32} {f_this_currents : Nat → Int32} {f_this_kinds : Nat → Int32} {f_this_lanes : Nat → Int32} {f_this_lights : Nat → Int32} {x_this_rules_count : Int32} {x_this_rules_size : Int32} {f_this_rules_begins : Nat → Int32} {f_this_rules_deeds : Nat → Int32} {f_this_rules_facts : Nat → Int32} {f_this_rules_kinds : Nat → Int32} {f_this_rules_lefts : Nat → Int32} {f_this_rules_rights : Nat → Int32} {f_this_rules_steps : Nat → Int32} {f_this_trims : Nat → Int32} {r : Int32} {m_a0_watch : Int32} {m_a0_score : Int32} {m_a0_home : Int32} {m_a0_off : Nat → Int32} {m_this_rules_facts : Nat → Int32} (hf : f_X3_pass p1 x_a0_watch x_a0_score x_a0_home f_a0_off x_this_count f_this_buoys f_this_currents f_this_kinds f_this_lanes f_this_lights x_this_rules_count f_this_rules_begins f_this_rules_deeds f_this_rules_facts f_this_rules_kinds f_this_rules_lefts f_this_rules_rights f_this_rules_steps f_this_trims = some (r, m_a0_watch, m_a0_score, m_a0_home, m_a0_off, m_this_rules_facts)) : mFi l G yX3_pass cX3_pass 5 .int 4 [.ref h_this, .ref h_a0, .int p1] [(h_a0, ob 6 [.ref h_a0_off, .int x_a0_watch, .int x_a0_score, .int x_a0_home]), (h_a0_off, ia G 6 f_a0_off), (h_this, ob 3 [.ref h_this_kinds, .ref h_this_trims, .ref h_this_lanes, .ref h_this_lights, .ref h_this_currents, .ref h_this_buoys, .ref h_this_now, .ref h_this_rules, .ref h_this_reports, .int x_this_count, .int x_this_end, .int x_this_z]), (h_this_buoys, ia G 6 f_this_buoys), (h_this_currents, ia G 6 f_this_currents), (h_this_kinds, ia G 6 f_this_kinds), (h_this_lanes, ia G 6 f_this_lanes), (h_this_lights, ia G 16 f_this_lights), (h_this_rules, ob 5 [.ref h_this_rules_kinds, .ref h_this_rules_deeds, .ref h_this_rules_begins, .ref h_this_rules_steps, .ref h_this_rules_lefts, .ref h_this_rules_rights, .ref h_this_rules_facts, .int x_this_rules_count, .int x_this_rules_size]), (h_this_rules_begins, ia G 9 f_this_rules_begins), (h_this_rules_deeds, ia G 8 f_this_rules_deeds), (h_this_rules_facts, ia G 5 f_this_rules_facts), (h_this_rules_kinds, ia G 8 f_this_rules_kinds), (h_this_rules_lefts, ia G 200 f_this_rules_lefts), (h_this_rules_rights, ia G 200 f_this_rules_rights), (h_this_rules_steps, ia G 200 f_this_rules_steps), (h_this_trims, ia G 6 f_this_trims)] r [(h_a0, ob 6 [.ref h_a0_off, .int m_a0_watch, .int m_a0_score, .int m_a0_home]), (h_a0_off, ia G 6 m_a0_off), (h_this, ob 3 [.ref h_this_kinds, .ref h_this_trims, .ref h_this_lanes, .ref h_this_lights, .ref h_this_currents, .ref h_this_buoys, .ref h_this_now, .ref h_this_rules, .ref h_this_reports, .int x_this_count, .int x_this_end, .int x_this_z]), (h_this_buoys, ia G 6 f_this_buoys), (h_this_currents, ia G 6 f_this_currents), (h_this_kinds, ia G 6 f_this_kinds), (h_this_lanes, ia G 6 f_this_lanes), (h_this_lights, ia G 16 f_this_lights), (h_this_rules, ob 5 [.ref h_this_rules_kinds, .ref h_this_rules_deeds, .ref h_this_rules_begins, .ref h_this_rules_steps, .ref h_this_rules_lefts, .ref h_this_rules_rights, .ref h_this_rules_facts, .int x_this_rules_count, .int x_this_rules_size]), (h_this_rules_begins, ia G 9 f_this_rules_begins), (h_this_rules_deeds, ia G 8 f_this_rules_deeds), (h_this_rules_facts, ia G 5 m_this_rules_facts), (h_this_rules_kinds, ia G 8 f_this_rules_kinds), (h_this_rules_lefts, ia G 200 f_this_rules_lefts), (h_this_rules_rights, ia G 200 f_this_rules_rights), (h_this_rules_steps, ia G 200 f_this_rules_steps), (h_this_trims, ia G 6 f_this_trims)] := by
  refine mFi.of (by decide +kernel) (Nat.le_of_ble_eq_true rfl) ?_
  intro p e s m below meth c A C hr hlk h ls hl
  obtain ⟨hx, hb, hml, hown, hts⟩ := id C
  replace hl : lv_has ls 5 [(0, .ref h_this), (1, .ref h_a0), (2, .int p1)] := hl
  unfold f_X3_pass at hf
  refine with_K G A 5 (fun K hK1 hK2 => ?_)
  have B86 : ∀ (v3 : Int32) (y_a0_home : Int32) (g_a0_off : Nat → Int32) (g_this_rules_facts : Nat → Int32), f_X3_pass_b86 x_a0_watch x_a0_score x_this_count v3 y_a0_home g_a0_off g_this_rules_facts = some (r, m_a0_watch, m_a0_score, m_a0_home, m_a0_off, m_this_rules_facts) → K 86 ([] : List Value) [(h_a0, ob 6 [.ref h_a0_off, .int x_a0_watch, .int x_a0_score, .int y_a0_home]), (h_a0_off, ia G 6 g_a0_off), (h_this, ob 3 [.ref h_this_kinds, .ref h_this_trims, .ref h_this_lanes, .ref h_this_lights, .ref h_this_currents, .ref h_this_buoys, .ref h_this_now, .ref h_this_rules, .ref h_this_reports, .int x_this_count, .int x_this_end, .int x_this_z]), (h_this_buoys, ia G 6 f_this_buoys), (h_this_currents, ia G 6 f_this_currents), (h_this_kinds, ia G 6 f_this_kinds), (h_this_lanes, ia G 6 f_this_lanes), (h_this_lights, ia G 16 f_this_lights), (h_this_rules, ob 5 [.ref h_this_rules_kinds, .ref h_this_rules_deeds, .ref h_this_rules_begins, .ref h_this_rules_steps, .ref h_this_rules_lefts, .ref h_this_rules_rights, .ref h_this_rules_facts, .int x_this_rules_count, .int x_this_rules_size]), (h_this_rules_begins, ia G 9 f_this_rules_begins), (h_this_rules_deeds, ia G 8 f_this_rules_deeds), (h_this_rules_facts, ia G 5 g_this_rules_facts), (h_this_rules_kinds, ia G 8 f_this_rules_kinds), (h_this_rules_lefts, ia G 200 f_this_rules_lefts), (h_this_rules_rights, ia G 200 f_this_rules_rights), (h_this_rules_steps, ia G 200 f_this_rules_steps), (h_this_trims, ia G 6 f_this_trims)] [(0, .ref h_this), (1, .ref h_a0), (3, .int v3)] := by
    intro v3 y_a0_home g_a0_off g_this_rules_facts hf
    unfold f_X3_pass_b86 at hf
    refine hK1 _ _ _ _ (fun H locs ls h hl => ?_)
    refine lv_iload_n hx hb dX3_pass_86 rfl (lv_at hl 2 rfl) ?_
    refine lv_iconst (v := (0 : Int32)) hx hb dX3_pass_87 rfl ?_
    refine lv_aload_n hx hb dX3_pass_88 rfl (lv_at hl 1 rfl) ?_
    refine r_get C h fk_X3_153 0 rfl rfl dX3_pass_89 ?_
    replace hf := bd1_inv hf
    obtain ⟨r5, hc6, hf⟩ := hf
    refine r_ciS0 C h (c_J6_bitCount_0f7a4 hc6) ms_X3_156 rfl [] rfl rfl hl.1 rfl (Nat.le_of_ble_eq_true rfl) (rok (by decide)) dX3_pass_92 (fun H locs h => ?_)
    refine lv_aload_n hx hb dX3_pass_95 rfl (lv_at hl 0 rfl) ?_
    refine lv_aload_n hx hb dX3_pass_96 rfl (lv_at hl 1 rfl) ?_
    replace hf := bd1_inv hf
    obtain ⟨r7, hc8, hf⟩ := hf
    refine r_ciV0 C h (c_X3_stranded hc8) mv_X3_161 rfl 2 rfl [0, 1, 2] rfl rfl hl.1 rfl (Nat.le_of_ble_eq_true rfl) (rok (by decide)) dX3_pass_97 (fun H locs h => ?_)
    refine lv_isub hx hb dX3_pass_100 ?_
    refine r_imax C mx_X3_108 hl.1 (Nat.le_of_ble_eq_true rfl) (Nat.le_of_ble_eq_true rfl) dX3_pass_101 ?_
    refine lv_iadd hx hb dX3_pass_104 ?_
    refine lv_topi (fun t9 et9 => ?_)
    replace hf := lt1_inv et9 hf
    refine lv_istore_n (lv' := [(3, .int t9), (0, .ref h_this), (1, .ref h_a0)]) hx hb dX3_pass_105 rfl hl (by decide) rfl (fun ls hl => ?_)
    refine lv_aload_n hx hb dX3_pass_106 rfl (lv_at hl 2 rfl) ?_
    refine lv_dup hx hb dX3_pass_107 rfl ?_
    refine r_get C h fk_X3_83 0 rfl rfl dX3_pass_108 ?_
    refine lv_iconst (v := (1 : Int32)) hx hb dX3_pass_111 rfl ?_
    refine lv_iadd hx hb dX3_pass_112 ?_
    refine lv_topi (fun t10 et10 => ?_)
    replace hf := lt1_inv et10 hf
    refine r_put (ws' := [(h_a0, ob 6 [.ref h_a0_off, .int t10, .int x_a0_score, .int y_a0_home]), (h_a0_off, ia G 6 g_a0_off), (h_this, ob 3 [.ref h_this_kinds, .ref h_this_trims, .ref h_this_lanes, .ref h_this_lights, .ref h_this_currents, .ref h_this_buoys, .ref h_this_now, .ref h_this_rules, .ref h_this_reports, .int x_this_count, .int x_this_end, .int x_this_z]), (h_this_buoys, ia G 6 f_this_buoys), (h_this_currents, ia G 6 f_this_currents), (h_this_kinds, ia G 6 f_this_kinds), (h_this_lanes, ia G 6 f_this_lanes), (h_this_lights, ia G 16 f_this_lights), (h_this_rules, ob 5 [.ref h_this_rules_kinds, .ref h_this_rules_deeds, .ref h_this_rules_begins, .ref h_this_rules_steps, .ref h_this_rules_lefts, .ref h_this_rules_rights, .ref h_this_rules_facts, .int x_this_rules_count, .int x_this_rules_size]), (h_this_rules_begins, ia G 9 f_this_rules_begins), (h_this_rules_deeds, ia G 8 f_this_rules_deeds), (h_this_rules_facts, ia G 5 g_this_rules_facts), (h_this_rules_kinds, ia G 8 f_this_rules_kinds), (h_this_rules_lefts, ia G 200 f_this_rules_lefts), (h_this_rules_rights, ia G 200 f_this_rules_rights), (h_this_rules_steps, ia G 200 f_this_rules_steps), (h_this_trims, ia G 6 f_this_trims)]) C h fw_X3_83 0 rfl rfl rfl (Nat.le_of_ble_eq_true rfl) dX3_pass_113 rfl (fun H locs h => ?_)
    refine lv_aload_n hx hb dX3_pass_116 rfl (lv_at hl 2 rfl) ?_
    refine lv_dup hx hb dX3_pass_117 rfl ?_
    refine r_get C h fk_X3_165 0 rfl rfl dX3_pass_118 ?_
    refine lv_iload_n hx hb dX3_pass_121 rfl (lv_at hl 0 rfl) ?_
    refine lv_iadd hx hb dX3_pass_122 ?_
    refine lv_topi (fun t11 et11 => ?_)
    replace hf := lt1_inv et11 hf
    refine r_put (ws' := [(h_a0, ob 6 [.ref h_a0_off, .int t10, .int t11, .int y_a0_home]), (h_a0_off, ia G 6 g_a0_off), (h_this, ob 3 [.ref h_this_kinds, .ref h_this_trims, .ref h_this_lanes, .ref h_this_lights, .ref h_this_currents, .ref h_this_buoys, .ref h_this_now, .ref h_this_rules, .ref h_this_reports, .int x_this_count, .int x_this_end, .int x_this_z]), (h_this_buoys, ia G 6 f_this_buoys), (h_this_currents, ia G 6 f_this_currents), (h_this_kinds, ia G 6 f_this_kinds), (h_this_lanes, ia G 6 f_this_lanes), (h_this_lights, ia G 16 f_this_lights), (h_this_rules, ob 5 [.ref h_this_rules_kinds, .ref h_this_rules_deeds, .ref h_this_rules_begins, .ref h_this_rules_steps, .ref h_this_rules_lefts, .ref h_this_rules_rights, .ref h_this_rules_facts, .int x_this_rules_count, .int x_this_rules_size]), (h_this_rules_begins, ia G 9 f_this_rules_begins), (h_this_rules_deeds, ia G 8 f_this_rules_deeds), (h_this_rules_facts, ia G 5 g_this_rules_facts), (h_this_rules_kinds, ia G 8 f_this_rules_kinds), (h_this_rules_lefts, ia G 200 f_this_rules_lefts), (h_this_rules_rights, ia G 200 f_this_rules_rights), (h_this_rules_steps, ia G 200 f_this_rules_steps), (h_this_trims, ia G 6 f_this_trims)]) C h fw_X3_165 0 rfl rfl rfl (Nat.le_of_ble_eq_true rfl) dX3_pass_123 rfl (fun H locs h => ?_)
    refine lv_iload_n hx hb dX3_pass_126 rfl (lv_at hl 0 rfl) ?_
    cases hf
    exact r_iret C h hr hlk rfl dX3_pass_127
  have L36 : ∀ (n : Nat) (v3 : Int32) (v4 : Int32) (y_a0_home : Int32) (g_a0_off : Nat → Int32) (g_this_rules_facts : Nat → Int32), f_X3_pass_L36 x_a0_watch x_a0_score x_this_count f_this_currents f_this_kinds f_this_lanes f_this_lights n v3 v4 y_a0_home g_a0_off g_this_rules_facts = some (r, m_a0_watch, m_a0_score, m_a0_home, m_a0_off, m_this_rules_facts) → K 36 ([] : List Value) [(h_a0, ob 6 [.ref h_a0_off, .int x_a0_watch, .int x_a0_score, .int y_a0_home]), (h_a0_off, ia G 6 g_a0_off), (h_this, ob 3 [.ref h_this_kinds, .ref h_this_trims, .ref h_this_lanes, .ref h_this_lights, .ref h_this_currents, .ref h_this_buoys, .ref h_this_now, .ref h_this_rules, .ref h_this_reports, .int x_this_count, .int x_this_end, .int x_this_z]), (h_this_buoys, ia G 6 f_this_buoys), (h_this_currents, ia G 6 f_this_currents), (h_this_kinds, ia G 6 f_this_kinds), (h_this_lanes, ia G 6 f_this_lanes), (h_this_lights, ia G 16 f_this_lights), (h_this_rules, ob 5 [.ref h_this_rules_kinds, .ref h_this_rules_deeds, .ref h_this_rules_begins, .ref h_this_rules_steps, .ref h_this_rules_lefts, .ref h_this_rules_rights, .ref h_this_rules_facts, .int x_this_rules_count, .int x_this_rules_size]), (h_this_rules_begins, ia G 9 f_this_rules_begins), (h_this_rules_deeds, ia G 8 f_this_rules_deeds), (h_this_rules_facts, ia G 5 g_this_rules_facts), (h_this_rules_kinds, ia G 8 f_this_rules_kinds), (h_this_rules_lefts, ia G 200 f_this_rules_lefts), (h_this_rules_rights, ia G 200 f_this_rules_rights), (h_this_rules_steps, ia G 200 f_this_rules_steps), (h_this_trims, ia G 6 f_this_trims)] [(0, .ref h_this), (1, .ref h_a0), (3, .int v3), (4, .int v4)] := by
    intro n
    induction n with
    | zero =>
      intro v3 v4 y_a0_home g_a0_off g_this_rules_facts hf
      replace hf : (none : Option _) = some _ := hf
      cases hf
    | succ n ih =>
      intro v3 v4 y_a0_home g_a0_off g_this_rules_facts hf
      rw [f_X3_pass_L36] at hf
      refine hK1 _ _ _ _ (fun H locs ls h hl => ?_)
      refine lv_iload hx hb dX3_pass_36 (lv_at hl 3 rfl) ?_
      refine lv_aload_n hx hb dX3_pass_38 rfl (lv_at hl 0 rfl) ?_
      refine r_get C h fk_X3_51 2 rfl rfl dX3_pass_39 ?_
      refine lv_icmp_ge (tgt := 86) hx hb dX3_pass_42 rfl (fun c4 => ?_) (fun c4 => ?_)
      · replace hf := ifp c4 hf
        exact hK2 _ _ _ _ (B86 v3 y_a0_home g_a0_off g_this_rules_facts hf) _ _ _ h (lv_sub hl [0, 1, 2] rfl)
      · replace hf := ifn c4 hf
        refine lv_aload_n hx hb dX3_pass_45 rfl (lv_at hl 1 rfl) ?_
        refine lv_iload hx hb dX3_pass_46 (lv_at hl 3 rfl) ?_
        replace hf := bd1_inv hf
        obtain ⟨r12, hc13, hf⟩ := hf
        refine r_ciV0 C h (c_X6_isHome hc13) mv_X3_105 rfl 0 rfl [0] rfl rfl hl.1 rfl (Nat.le_of_ble_eq_true rfl) (rok (by decide)) dX3_pass_48 (fun H locs h => ?_)
        refine lv_if_ne (tgt := 80) hx hb dX3_pass_51 rfl (fun c14 => ?_) (fun c14 => ?_)
        · replace hf := ifn c14 hf
          obtain ⟨t15, et15⟩ : ∃ y : Int32, y = v4 + (1 : Int32) := ⟨_, rfl⟩
          replace hf := lt1_inv et15 hf
          refine lv_iinc (v := t15) (lv' := [(4, .int t15), (0, .ref h_this), (1, .ref h_a0), (3, .int v3)]) hx hb dX3_pass_80 hl (k := 3) rfl (by rw [et15]; rfl) (by decide) rfl (fun ls hl => ?_)
          refine lv_goto (tgt := 36) hx hb dX3_pass_83 rfl ?_
          exact hK2 _ _ _ _ (ih v3 t15 y_a0_home g_a0_off g_this_rules_facts hf) _ _ _ h (lv_sub hl [1, 2, 3, 0] rfl)
        · replace hf := ifp c14 hf
          refine lv_aload_n hx hb dX3_pass_54 rfl (lv_at hl 1 rfl) ?_
          refine r_get C h fk_X3_86 0 rfl rfl dX3_pass_55 ?_
          refine lv_iload hx hb dX3_pass_58 (lv_at hl 3 rfl) ?_
          refine lv_iconst (v := (0 : Int32)) hx hb dX3_pass_60 rfl ?_
          refine lv_aload_n hx hb dX3_pass_61 rfl (lv_at hl 1 rfl) ?_
          refine r_get C h fk_X3_86 0 rfl rfl dX3_pass_62 ?_
          refine lv_iload hx hb dX3_pass_65 (lv_at hl 3 rfl) ?_
          replace hf := chkI_inv hf
          obtain ⟨hi16, hf⟩ := hf
          refine r_iald C h 1 rfl hi16 dX3_pass_67 ?_
          refine lv_aload_n hx hb dX3_pass_68 rfl (lv_at hl 0 rfl) ?_
          refine lv_aload_n hx hb dX3_pass_69 rfl (lv_at hl 1 rfl) ?_
          refine lv_iload hx hb dX3_pass_70 (lv_at hl 3 rfl) ?_
          replace hf := bd1_inv hf
          obtain ⟨r17, hc18, hf⟩ := hf
          refine r_ciV0 C h (c_X3_nears hc18) mv_X3_150 rfl 2 rfl [0, 2, 4, 5, 6, 7] rfl rfl hl.1 rfl (Nat.le_of_ble_eq_true rfl) (rok (by decide)) dX3_pass_72 (fun H locs h => ?_)
          refine lv_isub hx hb dX3_pass_75 ?_
          refine r_imax C mx_X3_108 hl.1 (Nat.le_of_ble_eq_true rfl) (Nat.le_of_ble_eq_true rfl) dX3_pass_76 ?_
          refine lv_topi (fun t19 et19 => ?_)
          replace hf := lt1_inv et19 hf
          replace hf := chkI_inv hf
          obtain ⟨hi20, hf⟩ := hf
          refine r_iast (ws' := [(h_a0, ob 6 [.ref h_a0_off, .int x_a0_watch, .int x_a0_score, .int y_a0_home]), (h_a0_off, ia G 6 (upd g_a0_off v4.toNatClampNeg t19)), (h_this, ob 3 [.ref h_this_kinds, .ref h_this_trims, .ref h_this_lanes, .ref h_this_lights, .ref h_this_currents, .ref h_this_buoys, .ref h_this_now, .ref h_this_rules, .ref h_this_reports, .int x_this_count, .int x_this_end, .int x_this_z]), (h_this_buoys, ia G 6 f_this_buoys), (h_this_currents, ia G 6 f_this_currents), (h_this_kinds, ia G 6 f_this_kinds), (h_this_lanes, ia G 6 f_this_lanes), (h_this_lights, ia G 16 f_this_lights), (h_this_rules, ob 5 [.ref h_this_rules_kinds, .ref h_this_rules_deeds, .ref h_this_rules_begins, .ref h_this_rules_steps, .ref h_this_rules_lefts, .ref h_this_rules_rights, .ref h_this_rules_facts, .int x_this_rules_count, .int x_this_rules_size]), (h_this_rules_begins, ia G 9 f_this_rules_begins), (h_this_rules_deeds, ia G 8 f_this_rules_deeds), (h_this_rules_facts, ia G 5 g_this_rules_facts), (h_this_rules_kinds, ia G 8 f_this_rules_kinds), (h_this_rules_lefts, ia G 200 f_this_rules_lefts), (h_this_rules_rights, ia G 200 f_this_rules_rights), (h_this_rules_steps, ia G 200 f_this_rules_steps), (h_this_trims, ia G 6 f_this_trims)]) C h 1 rfl hi20 dX3_pass_79 rfl (fun H locs h => ?_)
          obtain ⟨t21, et21⟩ : ∃ y : Int32, y = v4 + (1 : Int32) := ⟨_, rfl⟩
          replace hf := lt1_inv et21 hf
          refine lv_iinc (v := t21) (lv' := [(4, .int t21), (0, .ref h_this), (1, .ref h_a0), (3, .int v3)]) hx hb dX3_pass_80 hl (k := 3) rfl (by rw [et21]; rfl) (by decide) rfl (fun ls hl => ?_)
          refine lv_goto (tgt := 36) hx hb dX3_pass_83 rfl ?_
          exact hK2 _ _ _ _ (ih v3 t21 y_a0_home (upd g_a0_off v4.toNatClampNeg t19) g_this_rules_facts hf) _ _ _ h (lv_sub hl [1, 2, 3, 0] rfl)
  have B32 : ∀ (s0 : Int32) (y_a0_home : Int32) (g_a0_off : Nat → Int32) (g_this_rules_facts : Nat → Int32), f_X3_pass_b32 x_a0_watch x_a0_score x_this_count f_this_currents f_this_kinds f_this_lanes f_this_lights s0 y_a0_home g_a0_off g_this_rules_facts = some (r, m_a0_watch, m_a0_score, m_a0_home, m_a0_off, m_this_rules_facts) → K 32 [.int s0] [(h_a0, ob 6 [.ref h_a0_off, .int x_a0_watch, .int x_a0_score, .int y_a0_home]), (h_a0_off, ia G 6 g_a0_off), (h_this, ob 3 [.ref h_this_kinds, .ref h_this_trims, .ref h_this_lanes, .ref h_this_lights, .ref h_this_currents, .ref h_this_buoys, .ref h_this_now, .ref h_this_rules, .ref h_this_reports, .int x_this_count, .int x_this_end, .int x_this_z]), (h_this_buoys, ia G 6 f_this_buoys), (h_this_currents, ia G 6 f_this_currents), (h_this_kinds, ia G 6 f_this_kinds), (h_this_lanes, ia G 6 f_this_lanes), (h_this_lights, ia G 16 f_this_lights), (h_this_rules, ob 5 [.ref h_this_rules_kinds, .ref h_this_rules_deeds, .ref h_this_rules_begins, .ref h_this_rules_steps, .ref h_this_rules_lefts, .ref h_this_rules_rights, .ref h_this_rules_facts, .int x_this_rules_count, .int x_this_rules_size]), (h_this_rules_begins, ia G 9 f_this_rules_begins), (h_this_rules_deeds, ia G 8 f_this_rules_deeds), (h_this_rules_facts, ia G 5 g_this_rules_facts), (h_this_rules_kinds, ia G 8 f_this_rules_kinds), (h_this_rules_lefts, ia G 200 f_this_rules_lefts), (h_this_rules_rights, ia G 200 f_this_rules_rights), (h_this_rules_steps, ia G 200 f_this_rules_steps), (h_this_trims, ia G 6 f_this_trims)] [(0, .ref h_this), (1, .ref h_a0)] := by
    intro s0 y_a0_home g_a0_off g_this_rules_facts hf
    unfold f_X3_pass_b32 at hf
    refine hK1 _ _ _ _ (fun H locs ls h hl => ?_)
    refine lv_istore_n (lv' := [(3, .int s0), (0, .ref h_this), (1, .ref h_a0)]) hx hb dX3_pass_32 rfl hl (by decide) rfl (fun ls hl => ?_)
    refine lv_iconst (v := (0 : Int32)) hx hb dX3_pass_33 rfl ?_
    refine lv_istore (lv' := [(4, .int (0 : Int32)), (3, .int s0), (0, .ref h_this), (1, .ref h_a0)]) hx hb dX3_pass_34 hl (by decide) rfl (fun ls hl => ?_)
    exact hK2 _ _ _ _ (L36 1000 s0 (0 : Int32) y_a0_home g_a0_off g_this_rules_facts hf) _ _ _ h (lv_sub hl [2, 3, 1, 0] rfl)
  have B31 : f_X3_pass_b31 x_a0_watch x_a0_score x_a0_home f_a0_off x_this_count f_this_currents f_this_kinds f_this_lanes f_this_lights f_this_rules_facts = some (r, m_a0_watch, m_a0_score, m_a0_home, m_a0_off, m_this_rules_facts) → K 31 ([] : List Value) [(h_a0, ob 6 [.ref h_a0_off, .int x_a0_watch, .int x_a0_score, .int x_a0_home]), (h_a0_off, ia G 6 f_a0_off), (h_this, ob 3 [.ref h_this_kinds, .ref h_this_trims, .ref h_this_lanes, .ref h_this_lights, .ref h_this_currents, .ref h_this_buoys, .ref h_this_now, .ref h_this_rules, .ref h_this_reports, .int x_this_count, .int x_this_end, .int x_this_z]), (h_this_buoys, ia G 6 f_this_buoys), (h_this_currents, ia G 6 f_this_currents), (h_this_kinds, ia G 6 f_this_kinds), (h_this_lanes, ia G 6 f_this_lanes), (h_this_lights, ia G 16 f_this_lights), (h_this_rules, ob 5 [.ref h_this_rules_kinds, .ref h_this_rules_deeds, .ref h_this_rules_begins, .ref h_this_rules_steps, .ref h_this_rules_lefts, .ref h_this_rules_rights, .ref h_this_rules_facts, .int x_this_rules_count, .int x_this_rules_size]), (h_this_rules_begins, ia G 9 f_this_rules_begins), (h_this_rules_deeds, ia G 8 f_this_rules_deeds), (h_this_rules_facts, ia G 5 f_this_rules_facts), (h_this_rules_kinds, ia G 8 f_this_rules_kinds), (h_this_rules_lefts, ia G 200 f_this_rules_lefts), (h_this_rules_rights, ia G 200 f_this_rules_rights), (h_this_rules_steps, ia G 200 f_this_rules_steps), (h_this_trims, ia G 6 f_this_trims)] [(0, .ref h_this), (1, .ref h_a0)] := by
    intro hf
    unfold f_X3_pass_b31 at hf
    refine hK1 _ _ _ _ (fun H locs ls h hl => ?_)
    refine lv_iconst (v := (0 : Int32)) hx hb dX3_pass_31 rfl ?_
    exact hK2 _ _ _ _ (B32 (0 : Int32) x_a0_home f_a0_off f_this_rules_facts hf) _ _ _ h (lv_sub hl [0, 1] rfl)
  refine lv_aload_n hx hb dX3_pass_0 rfl (lv_at hl 0 rfl) ?_
  refine lv_iload_n hx hb dX3_pass_1 rfl (lv_at hl 2 rfl) ?_
  refine lv_iconst (v := (1 : Int32)) hx hb dX3_pass_2 rfl ?_
  refine lv_isub hx hb dX3_pass_3 ?_
  replace hf := bd1_inv hf
  obtain ⟨r1, hc2, hf⟩ := hf
  refine r_ciV0 C h (c_X3_has hc2) mv_X3_144 rfl 2 rfl [2] rfl rfl hl.1 rfl (Nat.le_of_ble_eq_true rfl) (rok (by decide)) dX3_pass_4 (fun H locs h => ?_)
  refine lv_if_eq (tgt := 31) hx hb dX3_pass_7 rfl (fun c3 => ?_) (fun c3 => ?_)
  · replace hf := ifp c3 hf
    exact hK2 _ _ _ _ (B31 hf) _ _ _ h (lv_sub hl [0, 1] rfl)
  · replace hf := ifn c3 hf
    refine lv_aload_n hx hb dX3_pass_10 rfl (lv_at hl 1 rfl) ?_
    refine lv_iload_n hx hb dX3_pass_11 rfl (lv_at hl 2 rfl) ?_
    refine lv_iconst (v := (1 : Int32)) hx hb dX3_pass_12 rfl ?_
    refine lv_isub hx hb dX3_pass_13 ?_
    replace hf := bd1_inv hf
    obtain ⟨r22, hc23, hf⟩ := hf
    refine r_ciV0 C h (c_X6_isHome hc23) mv_X3_105 rfl 0 rfl [0] rfl rfl hl.1 rfl (Nat.le_of_ble_eq_true rfl) (rok (by decide)) dX3_pass_14 (fun H locs h => ?_)
    refine lv_if_ne (tgt := 31) hx hb dX3_pass_17 rfl (fun c24 => ?_) (fun c24 => ?_)
    · replace hf := ifn c24 hf
      exact hK2 _ _ _ _ (B31 hf) _ _ _ h (lv_sub hl [0, 1] rfl)
    · replace hf := ifp c24 hf
      refine lv_aload_n hx hb dX3_pass_20 rfl (lv_at hl 0 rfl) ?_
      refine lv_aload_n hx hb dX3_pass_21 rfl (lv_at hl 1 rfl) ?_
      refine lv_iload_n hx hb dX3_pass_22 rfl (lv_at hl 2 rfl) ?_
      refine lv_iconst (v := (1 : Int32)) hx hb dX3_pass_23 rfl ?_
      refine lv_isub hx hb dX3_pass_24 ?_
      replace hf := bd4_inv hf
      obtain ⟨r25, y26, g27, g28, hc29, hf⟩ := hf
      refine r_ciV (ws' := [(h_a0, ob 6 [.ref h_a0_off, .int x_a0_watch, .int x_a0_score, .int y26]), (h_a0_off, ia G 6 g27), (h_this, ob 3 [.ref h_this_kinds, .ref h_this_trims, .ref h_this_lanes, .ref h_this_lights, .ref h_this_currents, .ref h_this_buoys, .ref h_this_now, .ref h_this_rules, .ref h_this_reports, .int x_this_count, .int x_this_end, .int x_this_z]), (h_this_buoys, ia G 6 f_this_buoys), (h_this_currents, ia G 6 f_this_currents), (h_this_kinds, ia G 6 f_this_kinds), (h_this_lanes, ia G 6 f_this_lanes), (h_this_lights, ia G 16 f_this_lights), (h_this_rules, ob 5 [.ref h_this_rules_kinds, .ref h_this_rules_deeds, .ref h_this_rules_begins, .ref h_this_rules_steps, .ref h_this_rules_lefts, .ref h_this_rules_rights, .ref h_this_rules_facts, .int x_this_rules_count, .int x_this_rules_size]), (h_this_rules_begins, ia G 9 f_this_rules_begins), (h_this_rules_deeds, ia G 8 f_this_rules_deeds), (h_this_rules_facts, ia G 5 g28), (h_this_rules_kinds, ia G 8 f_this_rules_kinds), (h_this_rules_lefts, ia G 200 f_this_rules_lefts), (h_this_rules_rights, ia G 200 f_this_rules_rights), (h_this_rules_steps, ia G 200 f_this_rules_steps), (h_this_trims, ia G 6 f_this_trims)]) C h (c_X3_obey hc29) mv_X3_147 rfl 2 rfl [0, 1, 2, 3, 5, 6, 7, 8, 9, 10, 11, 12, 13, 14, 15, 16] rfl rfl rfl rfl rfl hl.1 rfl (Nat.le_of_ble_eq_true rfl) (rok (by decide)) dX3_pass_25 (fun H locs h => ?_)
      refine lv_goto (tgt := 32) hx hb dX3_pass_28 rfl ?_
      exact hK2 _ _ _ _ (B32 r25 y26 g27 g28 hf) _ _ _ h (lv_sub hl [0, 1] rfl)
def f_X3_passRest (x_a0_watch : Int32) (x_a0_score : Int32) (x_a0_home : Int32) (f_a0_off : Nat → Int32) (x_this_count : Int32) (f_this_buoys : Nat → Int32) (f_this_currents : Nat → Int32) (f_this_kinds : Nat → Int32) (f_this_lanes : Nat → Int32) (f_this_lights : Nat → Int32) (x_this_rules_count : Int32) (f_this_rules_begins : Nat → Int32) (f_this_rules_deeds : Nat → Int32) (f_this_rules_facts : Nat → Int32) (f_this_rules_kinds : Nat → Int32) (f_this_rules_lefts : Nat → Int32) (f_this_rules_rights : Nat → Int32) (f_this_rules_steps : Nat → Int32) (f_this_trims : Nat → Int32) : Option (Int32 × Int32 × Int32 × Int32 × (Nat → Int32) × (Nat → Int32)) := bd2 (f_X3_leastThatMayEnter x_a0_watch x_a0_home f_a0_off x_this_count f_this_buoys f_this_kinds f_this_lanes f_this_lights x_this_rules_count f_this_rules_begins f_this_rules_deeds f_this_rules_facts f_this_rules_kinds f_this_rules_lefts f_this_rules_rights f_this_rules_steps f_this_trims) (fun r1 g2 => (if r1 = (-3 : Int32) then bd6 (f_X3_pass (0 : Int32) x_a0_watch x_a0_score x_a0_home f_a0_off x_this_count f_this_buoys f_this_currents f_this_kinds f_this_lanes f_this_lights x_this_rules_count f_this_rules_begins f_this_rules_deeds g2 f_this_rules_kinds f_this_rules_lefts f_this_rules_rights f_this_rules_steps f_this_trims) (fun r12 y13 y14 y15 g16 g17 => some (r12, y13, y14, y15, g16, g17)) else bd6 (f_X3_pass (r1 + (1 : Int32)) x_a0_watch x_a0_score x_a0_home f_a0_off x_this_count f_this_buoys f_this_currents f_this_kinds f_this_lanes f_this_lights x_this_rules_count f_this_rules_begins f_this_rules_deeds g2 f_this_rules_kinds f_this_rules_lefts f_this_rules_rights f_this_rules_steps f_this_trims) (fun r5 y6 y7 y8 g9 g10 => some (r5, y6, y7, y8, g9, g10))))
set_option maxRecDepth 100000 in
set_option maxHeartbeats 4000000 in
theorem c_X3_passRest {l : Launch} {G : Gt} {h_a0 h_a0_off h_this h_this_kinds h_this_trims h_this_lanes h_this_lights h_this_currents h_this_buoys h_this_now h_this_rules h_this_reports h_this_rules_kinds h_this_rules_deeds h_this_rules_begins h_this_rules_steps h_this_rules_lefts h_this_rules_rights h_this_rules_facts : Nat} {x_a0_watch : Int32} {x_a0_score : Int32} {x_a0_home : Int32} {f_a0_off : Nat → Int32} {x_this_count : Int32} {x_this_end : Int32} {x_this_z : Int32} {f_this_buoys : Nat → Int32} {f_this_currents : Nat → Int32} {f_this_kinds : Nat → Int32} {f_this_lanes : Nat → Int32} {f_this_lights : Nat → Int32} {x_this_rules_count : Int32} {x_this_rules_size : Int32} {f_this_rules_begins : Nat → Int32} {f_this_rules_deeds : Nat → Int32} {f_this_rules_facts : Nat → Int32} {f_this_rules_kinds : Nat → Int32} {f_this_rules_lefts : Nat → Int32} {f_this_rules_rights : Nat → Int32} {f_this_rules_steps : Nat → Int32} {f_this_trims : Nat → Int32} {r : Int32} {m_a0_watch : Int32} {m_a0_score : Int32} {m_a0_home : Int32} {m_a0_off : Nat → Int32} {m_this_rules_facts : Nat → Int32} (hf : f_X3_passRest x_a0_watch x_a0_score x_a0_home f_a0_off x_this_count f_this_buoys f_this_currents f_this_kinds f_this_lanes f_this_lights x_this_rules_count f_this_rules_begins f_this_rules_deeds f_this_rules_facts f_this_rules_kinds f_this_rules_lefts f_this_rules_rights f_this_rules_steps f_this_trims = some (r, m_a0_watch, m_a0_score, m_a0_home, m_a0_off, m_this_rules_facts)) : mFi l G yX3_passRest cX3_passRest 3 .int 5 [.ref h_this, .ref h_a0] [(h_a0, ob 6 [.ref h_a0_off, .int x_a0_watch, .int x_a0_score, .int x_a0_home]), (h_a0_off, ia G 6 f_a0_off), (h_this, ob 3 [.ref h_this_kinds, .ref h_this_trims, .ref h_this_lanes, .ref h_this_lights, .ref h_this_currents, .ref h_this_buoys, .ref h_this_now, .ref h_this_rules, .ref h_this_reports, .int x_this_count, .int x_this_end, .int x_this_z]), (h_this_buoys, ia G 6 f_this_buoys), (h_this_currents, ia G 6 f_this_currents), (h_this_kinds, ia G 6 f_this_kinds), (h_this_lanes, ia G 6 f_this_lanes), (h_this_lights, ia G 16 f_this_lights), (h_this_rules, ob 5 [.ref h_this_rules_kinds, .ref h_this_rules_deeds, .ref h_this_rules_begins, .ref h_this_rules_steps, .ref h_this_rules_lefts, .ref h_this_rules_rights, .ref h_this_rules_facts, .int x_this_rules_count, .int x_this_rules_size]), (h_this_rules_begins, ia G 9 f_this_rules_begins), (h_this_rules_deeds, ia G 8 f_this_rules_deeds), (h_this_rules_facts, ia G 5 f_this_rules_facts), (h_this_rules_kinds, ia G 8 f_this_rules_kinds), (h_this_rules_lefts, ia G 200 f_this_rules_lefts), (h_this_rules_rights, ia G 200 f_this_rules_rights), (h_this_rules_steps, ia G 200 f_this_rules_steps), (h_this_trims, ia G 6 f_this_trims)] r [(h_a0, ob 6 [.ref h_a0_off, .int m_a0_watch, .int m_a0_score, .int m_a0_home]), (h_a0_off, ia G 6 m_a0_off), (h_this, ob 3 [.ref h_this_kinds, .ref h_this_trims, .ref h_this_lanes, .ref h_this_lights, .ref h_this_currents, .ref h_this_buoys, .ref h_this_now, .ref h_this_rules, .ref h_this_reports, .int x_this_count, .int x_this_end, .int x_this_z]), (h_this_buoys, ia G 6 f_this_buoys), (h_this_currents, ia G 6 f_this_currents), (h_this_kinds, ia G 6 f_this_kinds), (h_this_lanes, ia G 6 f_this_lanes), (h_this_lights, ia G 16 f_this_lights), (h_this_rules, ob 5 [.ref h_this_rules_kinds, .ref h_this_rules_deeds, .ref h_this_rules_begins, .ref h_this_rules_steps, .ref h_this_rules_lefts, .ref h_this_rules_rights, .ref h_this_rules_facts, .int x_this_rules_count, .int x_this_rules_size]), (h_this_rules_begins, ia G 9 f_this_rules_begins), (h_this_rules_deeds, ia G 8 f_this_rules_deeds), (h_this_rules_facts, ia G 5 m_this_rules_facts), (h_this_rules_kinds, ia G 8 f_this_rules_kinds), (h_this_rules_lefts, ia G 200 f_this_rules_lefts), (h_this_rules_rights, ia G 200 f_this_rules_rights), (h_this_rules_steps, ia G 200 f_this_rules_steps), (h_this_trims, ia G 6 f_this_trims)] := by
  refine mFi.of (by decide +kernel) (Nat.le_of_ble_eq_true rfl) ?_
  intro p e s m below meth c A C hr hlk h ls hl
  obtain ⟨hx, hb, hml, hown, hts⟩ := id C
  replace hl : lv_has ls 3 [(0, .ref h_this), (1, .ref h_a0)] := hl
  unfold f_X3_passRest at hf
  refine lv_aload_n hx hb dX3_passRest_0 rfl (lv_at hl 0 rfl) ?_
  refine lv_aload_n hx hb dX3_passRest_1 rfl (lv_at hl 1 rfl) ?_
  replace hf := bd2_inv hf
  obtain ⟨r1, g2, hc3, hf⟩ := hf
  refine r_ciV (ws' := [(h_a0, ob 6 [.ref h_a0_off, .int x_a0_watch, .int x_a0_score, .int x_a0_home]), (h_a0_off, ia G 6 f_a0_off), (h_this, ob 3 [.ref h_this_kinds, .ref h_this_trims, .ref h_this_lanes, .ref h_this_lights, .ref h_this_currents, .ref h_this_buoys, .ref h_this_now, .ref h_this_rules, .ref h_this_reports, .int x_this_count, .int x_this_end, .int x_this_z]), (h_this_buoys, ia G 6 f_this_buoys), (h_this_currents, ia G 6 f_this_currents), (h_this_kinds, ia G 6 f_this_kinds), (h_this_lanes, ia G 6 f_this_lanes), (h_this_lights, ia G 16 f_this_lights), (h_this_rules, ob 5 [.ref h_this_rules_kinds, .ref h_this_rules_deeds, .ref h_this_rules_begins, .ref h_this_rules_steps, .ref h_this_rules_lefts, .ref h_this_rules_rights, .ref h_this_rules_facts, .int x_this_rules_count, .int x_this_rules_size]), (h_this_rules_begins, ia G 9 f_this_rules_begins), (h_this_rules_deeds, ia G 8 f_this_rules_deeds), (h_this_rules_facts, ia G 5 g2), (h_this_rules_kinds, ia G 8 f_this_rules_kinds), (h_this_rules_lefts, ia G 200 f_this_rules_lefts), (h_this_rules_rights, ia G 200 f_this_rules_rights), (h_this_rules_steps, ia G 200 f_this_rules_steps), (h_this_trims, ia G 6 f_this_trims)]) C h (c_X3_leastThatMayEnter hc3) mv_X3_171 rfl 2 rfl [0, 1, 2, 3, 5, 6, 7, 8, 9, 10, 11, 12, 13, 14, 15, 16] rfl rfl rfl rfl rfl hl.1 rfl (Nat.le_of_ble_eq_true rfl) (rok (by decide)) dX3_passRest_2 (fun H locs h => ?_)
  refine lv_istore_n (lv' := [(2, .int r1), (0, .ref h_this), (1, .ref h_a0)]) hx hb dX3_passRest_5 rfl hl (by decide) rfl (fun ls hl => ?_)
  refine lv_aload_n hx hb dX3_passRest_6 rfl (lv_at hl 1 rfl) ?_
  refine lv_aload_n hx hb dX3_passRest_7 rfl (lv_at hl 2 rfl) ?_
  refine lv_iload_n hx hb dX3_passRest_8 rfl (lv_at hl 0 rfl) ?_
  refine lv_bipush (v := (-3 : Int32)) hx hb dX3_passRest_9 rfl ?_
  refine lv_icmp_ne (tgt := 18) hx hb dX3_passRest_11 rfl (fun c4 => ?_) (fun c4 => ?_)
  · replace hf := ifn c4 hf
    refine lv_iload_n hx hb dX3_passRest_18 rfl (lv_at hl 0 rfl) ?_
    refine lv_iconst (v := (1 : Int32)) hx hb dX3_passRest_19 rfl ?_
    refine lv_iadd hx hb dX3_passRest_20 ?_
    replace hf := bd6_inv hf
    obtain ⟨r5, y6, y7, y8, g9, g10, hc11, hf⟩ := hf
    refine r_ciV (ws' := [(h_a0, ob 6 [.ref h_a0_off, .int y6, .int y7, .int y8]), (h_a0_off, ia G 6 g9), (h_this, ob 3 [.ref h_this_kinds, .ref h_this_trims, .ref h_this_lanes, .ref h_this_lights, .ref h_this_currents, .ref h_this_buoys, .ref h_this_now, .ref h_this_rules, .ref h_this_reports, .int x_this_count, .int x_this_end, .int x_this_z]), (h_this_buoys, ia G 6 f_this_buoys), (h_this_currents, ia G 6 f_this_currents), (h_this_kinds, ia G 6 f_this_kinds), (h_this_lanes, ia G 6 f_this_lanes), (h_this_lights, ia G 16 f_this_lights), (h_this_rules, ob 5 [.ref h_this_rules_kinds, .ref h_this_rules_deeds, .ref h_this_rules_begins, .ref h_this_rules_steps, .ref h_this_rules_lefts, .ref h_this_rules_rights, .ref h_this_rules_facts, .int x_this_rules_count, .int x_this_rules_size]), (h_this_rules_begins, ia G 9 f_this_rules_begins), (h_this_rules_deeds, ia G 8 f_this_rules_deeds), (h_this_rules_facts, ia G 5 g10), (h_this_rules_kinds, ia G 8 f_this_rules_kinds), (h_this_rules_lefts, ia G 200 f_this_rules_lefts), (h_this_rules_rights, ia G 200 f_this_rules_rights), (h_this_rules_steps, ia G 200 f_this_rules_steps), (h_this_trims, ia G 6 f_this_trims)]) C h (c_X3_pass hc11) mv_X3_174 rfl 2 rfl [0, 1, 2, 3, 4, 5, 6, 7, 8, 9, 10, 11, 12, 13, 14, 15, 16] rfl rfl rfl rfl rfl hl.1 rfl (Nat.le_of_ble_eq_true rfl) (rok (by decide)) dX3_passRest_21 (fun H locs h => ?_)
    cases hf
    exact r_iret C h hr hlk rfl dX3_passRest_24
  · replace hf := ifp c4 hf
    refine lv_iconst (v := (0 : Int32)) hx hb dX3_passRest_14 rfl ?_
    refine lv_goto (tgt := 21) hx hb dX3_passRest_15 rfl ?_
    replace hf := bd6_inv hf
    obtain ⟨r12, y13, y14, y15, g16, g17, hc18, hf⟩ := hf
    refine r_ciV (ws' := [(h_a0, ob 6 [.ref h_a0_off, .int y13, .int y14, .int y15]), (h_a0_off, ia G 6 g16), (h_this, ob 3 [.ref h_this_kinds, .ref h_this_trims, .ref h_this_lanes, .ref h_this_lights, .ref h_this_currents, .ref h_this_buoys, .ref h_this_now, .ref h_this_rules, .ref h_this_reports, .int x_this_count, .int x_this_end, .int x_this_z]), (h_this_buoys, ia G 6 f_this_buoys), (h_this_currents, ia G 6 f_this_currents), (h_this_kinds, ia G 6 f_this_kinds), (h_this_lanes, ia G 6 f_this_lanes), (h_this_lights, ia G 16 f_this_lights), (h_this_rules, ob 5 [.ref h_this_rules_kinds, .ref h_this_rules_deeds, .ref h_this_rules_begins, .ref h_this_rules_steps, .ref h_this_rules_lefts, .ref h_this_rules_rights, .ref h_this_rules_facts, .int x_this_rules_count, .int x_this_rules_size]), (h_this_rules_begins, ia G 9 f_this_rules_begins), (h_this_rules_deeds, ia G 8 f_this_rules_deeds), (h_this_rules_facts, ia G 5 g17), (h_this_rules_kinds, ia G 8 f_this_rules_kinds), (h_this_rules_lefts, ia G 200 f_this_rules_lefts), (h_this_rules_rights, ia G 200 f_this_rules_rights), (h_this_rules_steps, ia G 200 f_this_rules_steps), (h_this_trims, ia G 6 f_this_trims)]) C h (c_X3_pass hc18) mv_X3_174 rfl 2 rfl [0, 1, 2, 3, 4, 5, 6, 7, 8, 9, 10, 11, 12, 13, 14, 15, 16] rfl rfl rfl rfl rfl hl.1 rfl (Nat.le_of_ble_eq_true rfl) (rok (by decide)) dX3_passRest_21 (fun H locs h => ?_)
    cases hf
    exact r_iret C h hr hlk rfl dX3_passRest_24
def f_X8_watch (x_this_rock_count : Int32) (x_this_rock_end : Int32) (f_this_rock_buoys : Nat → Int32) (f_this_rock_currents : Nat → Int32) (f_this_rock_kinds : Nat → Int32) (f_this_rock_lanes : Nat → Int32) (f_this_rock_lights : Nat → Int32) (x_this_rock_now_watch : Int32) (x_this_rock_now_score : Int32) (x_this_rock_now_home : Int32) (f_this_rock_now_off : Nat → Int32) (x_this_rock_rules_count : Int32) (f_this_rock_rules_begins : Nat → Int32) (f_this_rock_rules_deeds : Nat → Int32) (f_this_rock_rules_facts : Nat → Int32) (f_this_rock_rules_kinds : Nat → Int32) (f_this_rock_rules_lefts : Nat → Int32) (f_this_rock_rules_rights : Nat → Int32) (f_this_rock_rules_steps : Nat → Int32) (f_this_rock_trims : Nat → Int32) : Option (Int32 × Int32 × Int32 × Int32 × (Nat → Int32) × (Nat → Int32)) := bd1 (f_X3_isOver x_this_rock_now_watch x_this_rock_end) (fun r1 => (if r1 = 0 then bd6 (f_X3_passRest x_this_rock_now_watch x_this_rock_now_score x_this_rock_now_home f_this_rock_now_off x_this_rock_count f_this_rock_buoys f_this_rock_currents f_this_rock_kinds f_this_rock_lanes f_this_rock_lights x_this_rock_rules_count f_this_rock_rules_begins f_this_rock_rules_deeds f_this_rock_rules_facts f_this_rock_rules_kinds f_this_rock_rules_lefts f_this_rock_rules_rights f_this_rock_rules_steps f_this_rock_trims) (fun r4 y5 y6 y7 g8 g9 => some (r4, y5, y6, y7, g8, g9)) else some ((-4 : Int32), x_this_rock_now_watch, x_this_rock_now_score, x_this_rock_now_home, f_this_rock_now_off, f_this_rock_rules_facts)))
set_option maxRecDepth 100000 in
set_option maxHeartbeats 4000000 in
theorem c_X8_watch {l : Launch} {G : Gt} {h_this h_this_rock h_this_kept h_this_trial h_this_planner h_this_reader h_this_draft h_this_host h_this_thing h_this_tape h_this_rows h_this_rock_kinds h_this_rock_trims h_this_rock_lanes h_this_rock_lights h_this_rock_currents h_this_rock_buoys h_this_rock_now h_this_rock_rules h_this_rock_reports h_this_rock_now_off h_this_rock_rules_kinds h_this_rock_rules_deeds h_this_rock_rules_begins h_this_rock_rules_steps h_this_rock_rules_lefts h_this_rock_rules_rights h_this_rock_rules_facts : Nat} {x_this_tapeCount : Int32} {x_this_rowCount : Int32} {x_this_isKept : Int32} {x_this_rock_count : Int32} {x_this_rock_end : Int32} {x_this_rock_z : Int32} {f_this_rock_buoys : Nat → Int32} {f_this_rock_currents : Nat → Int32} {f_this_rock_kinds : Nat → Int32} {f_this_rock_lanes : Nat → Int32} {f_this_rock_lights : Nat → Int32} {x_this_rock_now_watch : Int32} {x_this_rock_now_score : Int32} {x_this_rock_now_home : Int32} {f_this_rock_now_off : Nat → Int32} {x_this_rock_rules_count : Int32} {x_this_rock_rules_size : Int32} {f_this_rock_rules_begins : Nat → Int32} {f_this_rock_rules_deeds : Nat → Int32} {f_this_rock_rules_facts : Nat → Int32} {f_this_rock_rules_kinds : Nat → Int32} {f_this_rock_rules_lefts : Nat → Int32} {f_this_rock_rules_rights : Nat → Int32} {f_this_rock_rules_steps : Nat → Int32} {f_this_rock_trims : Nat → Int32} {r : Int32} {m_this_rock_now_watch : Int32} {m_this_rock_now_score : Int32} {m_this_rock_now_home : Int32} {m_this_rock_now_off : Nat → Int32} {m_this_rock_rules_facts : Nat → Int32} (hf : f_X8_watch x_this_rock_count x_this_rock_end f_this_rock_buoys f_this_rock_currents f_this_rock_kinds f_this_rock_lanes f_this_rock_lights x_this_rock_now_watch x_this_rock_now_score x_this_rock_now_home f_this_rock_now_off x_this_rock_rules_count f_this_rock_rules_begins f_this_rock_rules_deeds f_this_rock_rules_facts f_this_rock_rules_kinds f_this_rock_rules_lefts f_this_rock_rules_rights f_this_rock_rules_steps f_this_rock_trims = some (r, m_this_rock_now_watch, m_this_rock_now_score, m_this_rock_now_home, m_this_rock_now_off, m_this_rock_rules_facts)) : mFi l G yX8_watch cX8_watch 1 .int 6 [.ref h_this] [(h_this, ob 8 [.ref h_this_rock, .ref h_this_kept, .ref h_this_trial, .ref h_this_planner, .ref h_this_reader, .ref h_this_draft, .ref h_this_host, .ref h_this_thing, .ref h_this_tape, .ref h_this_rows, .int x_this_tapeCount, .int x_this_rowCount, .int x_this_isKept]), (h_this_rock, ob 3 [.ref h_this_rock_kinds, .ref h_this_rock_trims, .ref h_this_rock_lanes, .ref h_this_rock_lights, .ref h_this_rock_currents, .ref h_this_rock_buoys, .ref h_this_rock_now, .ref h_this_rock_rules, .ref h_this_rock_reports, .int x_this_rock_count, .int x_this_rock_end, .int x_this_rock_z]), (h_this_rock_buoys, ia G 6 f_this_rock_buoys), (h_this_rock_currents, ia G 6 f_this_rock_currents), (h_this_rock_kinds, ia G 6 f_this_rock_kinds), (h_this_rock_lanes, ia G 6 f_this_rock_lanes), (h_this_rock_lights, ia G 16 f_this_rock_lights), (h_this_rock_now, ob 6 [.ref h_this_rock_now_off, .int x_this_rock_now_watch, .int x_this_rock_now_score, .int x_this_rock_now_home]), (h_this_rock_now_off, ia G 6 f_this_rock_now_off), (h_this_rock_rules, ob 5 [.ref h_this_rock_rules_kinds, .ref h_this_rock_rules_deeds, .ref h_this_rock_rules_begins, .ref h_this_rock_rules_steps, .ref h_this_rock_rules_lefts, .ref h_this_rock_rules_rights, .ref h_this_rock_rules_facts, .int x_this_rock_rules_count, .int x_this_rock_rules_size]), (h_this_rock_rules_begins, ia G 9 f_this_rock_rules_begins), (h_this_rock_rules_deeds, ia G 8 f_this_rock_rules_deeds), (h_this_rock_rules_facts, ia G 5 f_this_rock_rules_facts), (h_this_rock_rules_kinds, ia G 8 f_this_rock_rules_kinds), (h_this_rock_rules_lefts, ia G 200 f_this_rock_rules_lefts), (h_this_rock_rules_rights, ia G 200 f_this_rock_rules_rights), (h_this_rock_rules_steps, ia G 200 f_this_rock_rules_steps), (h_this_rock_trims, ia G 6 f_this_rock_trims)] r [(h_this, ob 8 [.ref h_this_rock, .ref h_this_kept, .ref h_this_trial, .ref h_this_planner, .ref h_this_reader, .ref h_this_draft, .ref h_this_host, .ref h_this_thing, .ref h_this_tape, .ref h_this_rows, .int x_this_tapeCount, .int x_this_rowCount, .int x_this_isKept]), (h_this_rock, ob 3 [.ref h_this_rock_kinds, .ref h_this_rock_trims, .ref h_this_rock_lanes, .ref h_this_rock_lights, .ref h_this_rock_currents, .ref h_this_rock_buoys, .ref h_this_rock_now, .ref h_this_rock_rules, .ref h_this_rock_reports, .int x_this_rock_count, .int x_this_rock_end, .int x_this_rock_z]), (h_this_rock_buoys, ia G 6 f_this_rock_buoys), (h_this_rock_currents, ia G 6 f_this_rock_currents), (h_this_rock_kinds, ia G 6 f_this_rock_kinds), (h_this_rock_lanes, ia G 6 f_this_rock_lanes), (h_this_rock_lights, ia G 16 f_this_rock_lights), (h_this_rock_now, ob 6 [.ref h_this_rock_now_off, .int m_this_rock_now_watch, .int m_this_rock_now_score, .int m_this_rock_now_home]), (h_this_rock_now_off, ia G 6 m_this_rock_now_off), (h_this_rock_rules, ob 5 [.ref h_this_rock_rules_kinds, .ref h_this_rock_rules_deeds, .ref h_this_rock_rules_begins, .ref h_this_rock_rules_steps, .ref h_this_rock_rules_lefts, .ref h_this_rock_rules_rights, .ref h_this_rock_rules_facts, .int x_this_rock_rules_count, .int x_this_rock_rules_size]), (h_this_rock_rules_begins, ia G 9 f_this_rock_rules_begins), (h_this_rock_rules_deeds, ia G 8 f_this_rock_rules_deeds), (h_this_rock_rules_facts, ia G 5 m_this_rock_rules_facts), (h_this_rock_rules_kinds, ia G 8 f_this_rock_rules_kinds), (h_this_rock_rules_lefts, ia G 200 f_this_rock_rules_lefts), (h_this_rock_rules_rights, ia G 200 f_this_rock_rules_rights), (h_this_rock_rules_steps, ia G 200 f_this_rock_rules_steps), (h_this_rock_trims, ia G 6 f_this_rock_trims)] := by
  refine mFi.of (by decide +kernel) (Nat.le_of_ble_eq_true rfl) ?_
  intro p e s m below meth c A C hr hlk h ls hl
  obtain ⟨hx, hb, hml, hown, hts⟩ := id C
  replace hl : lv_has ls 1 [(0, .ref h_this)] := hl
  unfold f_X8_watch at hf
  refine lv_aload_n hx hb dX8_watch_0 rfl (lv_at hl 0 rfl) ?_
  refine r_get C h fk_X8_10 0 rfl rfl dX8_watch_1 ?_
  refine lv_aload_n hx hb dX8_watch_4 rfl (lv_at hl 0 rfl) ?_
  refine r_get C h fk_X8_10 0 rfl rfl dX8_watch_5 ?_
  refine r_get C h fk_X8_94 1 rfl rfl dX8_watch_8 ?_
  replace hf := bd1_inv hf
  obtain ⟨r1, hc2, hf⟩ := hf
  refine r_ciV0 C h (c_X3_isOver hc2) mv_X8_159 rfl 1 rfl [7, 1] rfl rfl hl.1 rfl (Nat.le_of_ble_eq_true rfl) (rok (by decide)) dX8_watch_11 (fun H locs h => ?_)
  refine lv_if_eq (tgt := 22) hx hb dX8_watch_14 rfl (fun c3 => ?_) (fun c3 => ?_)
  · replace hf := ifp c3 hf
    refine lv_aload_n hx hb dX8_watch_22 rfl (lv_at hl 0 rfl) ?_
    refine r_get C h fk_X8_10 0 rfl rfl dX8_watch_23 ?_
    refine lv_aload_n hx hb dX8_watch_26 rfl (lv_at hl 0 rfl) ?_
    refine r_get C h fk_X8_10 0 rfl rfl dX8_watch_27 ?_
    refine r_get C h fk_X8_94 1 rfl rfl dX8_watch_30 ?_
    replace hf := bd6_inv hf
    obtain ⟨r4, y5, y6, y7, g8, g9, hc10, hf⟩ := hf
    refine r_ciV (ws' := [(h_this, ob 8 [.ref h_this_rock, .ref h_this_kept, .ref h_this_trial, .ref h_this_planner, .ref h_this_reader, .ref h_this_draft, .ref h_this_host, .ref h_this_thing, .ref h_this_tape, .ref h_this_rows, .int x_this_tapeCount, .int x_this_rowCount, .int x_this_isKept]), (h_this_rock, ob 3 [.ref h_this_rock_kinds, .ref h_this_rock_trims, .ref h_this_rock_lanes, .ref h_this_rock_lights, .ref h_this_rock_currents, .ref h_this_rock_buoys, .ref h_this_rock_now, .ref h_this_rock_rules, .ref h_this_rock_reports, .int x_this_rock_count, .int x_this_rock_end, .int x_this_rock_z]), (h_this_rock_buoys, ia G 6 f_this_rock_buoys), (h_this_rock_currents, ia G 6 f_this_rock_currents), (h_this_rock_kinds, ia G 6 f_this_rock_kinds), (h_this_rock_lanes, ia G 6 f_this_rock_lanes), (h_this_rock_lights, ia G 16 f_this_rock_lights), (h_this_rock_now, ob 6 [.ref h_this_rock_now_off, .int y5, .int y6, .int y7]), (h_this_rock_now_off, ia G 6 g8), (h_this_rock_rules, ob 5 [.ref h_this_rock_rules_kinds, .ref h_this_rock_rules_deeds, .ref h_this_rock_rules_begins, .ref h_this_rock_rules_steps, .ref h_this_rock_rules_lefts, .ref h_this_rock_rules_rights, .ref h_this_rock_rules_facts, .int x_this_rock_rules_count, .int x_this_rock_rules_size]), (h_this_rock_rules_begins, ia G 9 f_this_rock_rules_begins), (h_this_rock_rules_deeds, ia G 8 f_this_rock_rules_deeds), (h_this_rock_rules_facts, ia G 5 g9), (h_this_rock_rules_kinds, ia G 8 f_this_rock_rules_kinds), (h_this_rock_rules_lefts, ia G 200 f_this_rock_rules_lefts), (h_this_rock_rules_rights, ia G 200 f_this_rock_rules_rights), (h_this_rock_rules_steps, ia G 200 f_this_rock_rules_steps), (h_this_rock_trims, ia G 6 f_this_rock_trims)]) C h (c_X3_passRest hc10) mv_X8_183 rfl 1 rfl [7, 8, 1, 2, 3, 4, 5, 6, 9, 10, 11, 12, 13, 14, 15, 16, 17] rfl rfl rfl rfl rfl hl.1 rfl (Nat.le_of_ble_eq_true rfl) (rok (by decide)) dX8_watch_33 (fun H locs h => ?_)
    cases hf
    exact r_iret C h hr hlk rfl dX8_watch_36
  · replace hf := ifn c3 hf
    refine lv_bipush (v := (-4 : Int32)) hx hb dX8_watch_17 rfl ?_
    refine lv_goto (tgt := 36) hx hb dX8_watch_19 rfl ?_
    cases hf
    exact r_iret C h hr hlk rfl dX8_watch_36
def f_X6_become (x_a0_watch : Int32) (x_a0_score : Int32) (x_a0_home : Int32) (f_a0_off : Nat → Int32) (f_this_off : Nat → Int32) : Option (Int32 × Int32 × Int32 × (Nat → Int32)) := chkC (0 : Int32) (0 : Int32) (6 : Int32) 6 6 (some (x_a0_watch, x_a0_score, x_a0_home, va_cpy f_a0_off f_this_off (0 : Int32).toNatClampNeg (0 : Int32).toNatClampNeg (6 : Int32).toNatClampNeg))
set_option maxRecDepth 100000 in
set_option maxHeartbeats 4000000 in
theorem c_X6_become {l : Launch} {G : Gt} {h_a0 h_a0_off h_this h_this_off : Nat} {x_a0_watch : Int32} {x_a0_score : Int32} {x_a0_home : Int32} {f_a0_off : Nat → Int32} {x_this_watch : Int32} {x_this_score : Int32} {x_this_home : Int32} {f_this_off : Nat → Int32} {m_this_watch : Int32} {m_this_score : Int32} {m_this_home : Int32} {m_this_off : Nat → Int32} (hf : f_X6_become x_a0_watch x_a0_score x_a0_home f_a0_off f_this_off = some (m_this_watch, m_this_score, m_this_home, m_this_off)) : mFv l G yX6_become cX6_become 2 1 [.ref h_this, .ref h_a0] [(h_a0, ob 6 [.ref h_a0_off, .int x_a0_watch, .int x_a0_score, .int x_a0_home]), (h_a0_off, ia G 6 f_a0_off), (h_this, ob 6 [.ref h_this_off, .int x_this_watch, .int x_this_score, .int x_this_home]), (h_this_off, ia G 6 f_this_off)] [(h_a0, ob 6 [.ref h_a0_off, .int x_a0_watch, .int x_a0_score, .int x_a0_home]), (h_a0_off, ia G 6 f_a0_off), (h_this, ob 6 [.ref h_this_off, .int m_this_watch, .int m_this_score, .int m_this_home]), (h_this_off, ia G 6 m_this_off)] := by
  refine mFv.of (by decide +kernel) (Nat.le_of_ble_eq_true rfl) ?_
  intro p e s m below meth c A C hr hlk h ls hl
  obtain ⟨hx, hb, hml, hown, hts⟩ := id C
  replace hl : lv_has ls 2 [(0, .ref h_this), (1, .ref h_a0)] := hl
  unfold f_X6_become at hf
  refine lv_aload_n hx hb dX6_become_0 rfl (lv_at hl 1 rfl) ?_
  refine r_get C h fk_X6_9 0 rfl rfl dX6_become_1 ?_
  refine lv_iconst (v := (0 : Int32)) hx hb dX6_become_4 rfl ?_
  refine lv_aload_n hx hb dX6_become_5 rfl (lv_at hl 0 rfl) ?_
  refine r_get C h fk_X6_9 2 rfl rfl dX6_become_6 ?_
  refine lv_iconst (v := (0 : Int32)) hx hb dX6_become_9 rfl ?_
  refine lv_bipush (v := (6 : Int32)) hx hb dX6_become_10 rfl ?_
  replace hf := chkC_inv hf
  obtain ⟨ha1, hf⟩ := hf
  refine r_copy (ws' := [(h_a0, ob 6 [.ref h_a0_off, .int x_a0_watch, .int x_a0_score, .int x_a0_home]), (h_a0_off, ia G 6 f_a0_off), (h_this, ob 6 [.ref h_this_off, .int x_this_watch, .int x_this_score, .int x_this_home]), (h_this_off, ia G 6 (va_cpy f_a0_off f_this_off (0 : Int32).toNatClampNeg (0 : Int32).toNatClampNeg (6 : Int32).toNatClampNeg))]) C h ac_X6_25 1 3 rfl rfl ha1 hl.1 (Nat.le_of_ble_eq_true rfl) (Nat.le_of_ble_eq_true rfl) dX6_become_12 rfl (fun H locs h => ?_)
  refine lv_aload_n hx hb dX6_become_15 rfl (lv_at hl 0 rfl) ?_
  refine lv_aload_n hx hb dX6_become_16 rfl (lv_at hl 1 rfl) ?_
  refine r_get C h fk_X6_15 0 rfl rfl dX6_become_17 ?_
  refine r_put (ws' := [(h_a0, ob 6 [.ref h_a0_off, .int x_a0_watch, .int x_a0_score, .int x_a0_home]), (h_a0_off, ia G 6 f_a0_off), (h_this, ob 6 [.ref h_this_off, .int x_a0_watch, .int x_this_score, .int x_this_home]), (h_this_off, ia G 6 (va_cpy f_a0_off f_this_off (0 : Int32).toNatClampNeg (0 : Int32).toNatClampNeg (6 : Int32).toNatClampNeg))]) C h fw_X6_15 2 rfl rfl rfl (Nat.le_of_ble_eq_true rfl) dX6_become_20 rfl (fun H locs h => ?_)
  refine lv_aload_n hx hb dX6_become_23 rfl (lv_at hl 0 rfl) ?_
  refine lv_aload_n hx hb dX6_become_24 rfl (lv_at hl 1 rfl) ?_
  refine r_get C h fk_X6_19 0 rfl rfl dX6_become_25 ?_
  refine r_put (ws' := [(h_a0, ob 6 [.ref h_a0_off, .int x_a0_watch, .int x_a0_score, .int x_a0_home]), (h_a0_off, ia G 6 f_a0_off), (h_this, ob 6 [.ref h_this_off, .int x_a0_watch, .int x_a0_score, .int x_this_home]), (h_this_off, ia G 6 (va_cpy f_a0_off f_this_off (0 : Int32).toNatClampNeg (0 : Int32).toNatClampNeg (6 : Int32).toNatClampNeg))]) C h fw_X6_19 2 rfl rfl rfl (Nat.le_of_ble_eq_true rfl) dX6_become_28 rfl (fun H locs h => ?_)
  refine lv_aload_n hx hb dX6_become_31 rfl (lv_at hl 0 rfl) ?_
  refine lv_aload_n hx hb dX6_become_32 rfl (lv_at hl 1 rfl) ?_
  refine r_get C h fk_X6_22 0 rfl rfl dX6_become_33 ?_
  refine r_put (ws' := [(h_a0, ob 6 [.ref h_a0_off, .int x_a0_watch, .int x_a0_score, .int x_a0_home]), (h_a0_off, ia G 6 f_a0_off), (h_this, ob 6 [.ref h_this_off, .int x_a0_watch, .int x_a0_score, .int x_a0_home]), (h_this_off, ia G 6 (va_cpy f_a0_off f_this_off (0 : Int32).toNatClampNeg (0 : Int32).toNatClampNeg (6 : Int32).toNatClampNeg))]) C h fw_X6_22 2 rfl rfl rfl (Nat.le_of_ble_eq_true rfl) dX6_become_36 rfl (fun H locs h => ?_)
  cases hf
  exact r_vret C h hr hlk dX6_become_39
def f_X8_worthOfRest_b53 (x_this_rock_now_score : Int32) (g_this_rock_rules_facts : Nat → Int32) (y_this_trial_watch : Int32) (y_this_trial_score : Int32) (y_this_trial_home : Int32) (g_this_trial_off : Nat → Int32) : Option (Int32 × (Nat → Int32) × Int32 × Int32 × Int32 × (Nat → Int32)) := some (y_this_trial_score - x_this_rock_now_score, g_this_rock_rules_facts, y_this_trial_watch, y_this_trial_score, y_this_trial_home, g_this_trial_off)
def f_X8_worthOfRest_L16 (p0 : Int32) (x_this_rock_count : Int32) (x_this_rock_end : Int32) (f_this_rock_buoys : Nat → Int32) (f_this_rock_currents : Nat → Int32) (f_this_rock_kinds : Nat → Int32) (f_this_rock_lanes : Nat → Int32) (f_this_rock_lights : Nat → Int32) (x_this_rock_now_score : Int32) (x_this_rock_rules_count : Int32) (f_this_rock_rules_begins : Nat → Int32) (f_this_rock_rules_deeds : Nat → Int32) (f_this_rock_rules_kinds : Nat → Int32) (f_this_rock_rules_lefts : Nat → Int32) (f_this_rock_rules_rights : Nat → Int32) (f_this_rock_rules_steps : Nat → Int32) (f_this_rock_trims : Nat → Int32) : Nat → Int32 → (Nat → Int32) → Int32 → Int32 → Int32 → (Nat → Int32) → Option (Int32 × (Nat → Int32) × Int32 × Int32 × Int32 × (Nat → Int32))
  | 0, _, _, _, _, _, _ => none
  | n + 1, v2, g_this_rock_rules_facts, y_this_trial_watch, y_this_trial_score, y_this_trial_home, g_this_trial_off => (if p0 ≤ v2 then f_X8_worthOfRest_b53 x_this_rock_now_score g_this_rock_rules_facts y_this_trial_watch y_this_trial_score y_this_trial_home g_this_trial_off else bd1 (f_X3_isOver y_this_trial_watch x_this_rock_end) (fun r7 => (if r7 = 0 then bd6 (f_X3_passRest y_this_trial_watch y_this_trial_score y_this_trial_home g_this_trial_off x_this_rock_count f_this_rock_buoys f_this_rock_currents f_this_rock_kinds f_this_rock_lanes f_this_rock_lights x_this_rock_rules_count f_this_rock_rules_begins f_this_rock_rules_deeds g_this_rock_rules_facts f_this_rock_rules_kinds f_this_rock_rules_lefts f_this_rock_rules_rights f_this_rock_rules_steps f_this_rock_trims) (fun r10 y11 y12 y13 g14 g15 => lt1 (v2 + (1 : Int32)) (fun (t17 : Int32) => (f_X8_worthOfRest_L16 p0 x_this_rock_count x_this_rock_end f_this_rock_buoys f_this_rock_currents f_this_rock_kinds f_this_rock_lanes f_this_rock_lights x_this_rock_now_score x_this_rock_rules_count f_this_rock_rules_begins f_this_rock_rules_deeds f_this_rock_rules_kinds f_this_rock_rules_lefts f_this_rock_rules_rights f_this_rock_rules_steps f_this_rock_trims n) t17 g15 y11 y12 y13 g14)) else f_X8_worthOfRest_b53 x_this_rock_now_score g_this_rock_rules_facts y_this_trial_watch y_this_trial_score y_this_trial_home g_this_trial_off)))
def f_X8_worthOfRest (p0 : Int32) (x_this_rock_count : Int32) (x_this_rock_end : Int32) (f_this_rock_buoys : Nat → Int32) (f_this_rock_currents : Nat → Int32) (f_this_rock_kinds : Nat → Int32) (f_this_rock_lanes : Nat → Int32) (f_this_rock_lights : Nat → Int32) (x_this_rock_now_watch : Int32) (x_this_rock_now_score : Int32) (x_this_rock_now_home : Int32) (f_this_rock_now_off : Nat → Int32) (x_this_rock_rules_count : Int32) (f_this_rock_rules_begins : Nat → Int32) (f_this_rock_rules_deeds : Nat → Int32) (f_this_rock_rules_facts : Nat → Int32) (f_this_rock_rules_kinds : Nat → Int32) (f_this_rock_rules_lefts : Nat → Int32) (f_this_rock_rules_rights : Nat → Int32) (f_this_rock_rules_steps : Nat → Int32) (f_this_rock_trims : Nat → Int32) (f_this_trial_off : Nat → Int32) : Option (Int32 × (Nat → Int32) × Int32 × Int32 × Int32 × (Nat → Int32)) := bd4 (f_X6_become x_this_rock_now_watch x_this_rock_now_score x_this_rock_now_home f_this_rock_now_off f_this_trial_off) (fun y1 y2 y3 g4 => f_X8_worthOfRest_L16 p0 x_this_rock_count x_this_rock_end f_this_rock_buoys f_this_rock_currents f_this_rock_kinds f_this_rock_lanes f_this_rock_lights x_this_rock_now_score x_this_rock_rules_count f_this_rock_rules_begins f_this_rock_rules_deeds f_this_rock_rules_kinds f_this_rock_rules_lefts f_this_rock_rules_rights f_this_rock_rules_steps f_this_rock_trims 1000 (0 : Int32) f_this_rock_rules_facts y1 y2 y3 g4)
set_option maxRecDepth 100000 in
set_option maxHeartbeats 4000000 in
theorem c_X8_worthOfRest {l : Launch} {G : Gt} {h_this h_this_rock h_this_kept h_this_trial h_this_planner h_this_reader h_this_draft h_this_host h_this_thing h_this_tape h_this_rows h_this_rock_kinds h_this_rock_trims h_this_rock_lanes h_this_rock_lights h_this_rock_currents h_this_rock_buoys h_this_rock_now h_this_rock_rules h_this_rock_reports h_this_rock_now_off h_this_rock_rules_kinds h_this_rock_rules_deeds h_this_rock_rules_begins h_this_rock_rules_steps h_this_rock_rules_lefts h_this_rock_rules_rights h_this_rock_rules_facts h_this_trial_off : Nat} {p0 : Int32} {x_this_tapeCount : Int32} {x_this_rowCount : Int32} {x_this_isKept : Int32} {x_this_rock_count : Int32} {x_this_rock_end : Int32} {x_this_rock_z : Int32} {f_this_rock_buoys : Nat → Int32} {f_this_rock_currents : Nat → Int32} {f_this_rock_kinds : Nat → Int32} {f_this_rock_lanes : Nat → Int32} {f_this_rock_lights : Nat → Int32} {x_this_rock_now_watch : Int32} {x_this_rock_now_score : Int32} {x_this_rock_now_home : Int32} {f_this_rock_now_off : Nat → Int32} {x_this_rock_rules_count : Int32} {x_this_rock_rules_size : Int32} {f_this_rock_rules_begins : Nat → Int32} {f_this_rock_rules_deeds : Nat → Int32} {f_this_rock_rules_facts : Nat → Int32} {f_this_rock_rules_kinds : Nat → Int32} {f_this_rock_rules_lefts : Nat → Int32} {f_this_rock_rules_rights : Nat → Int32} {f_this_rock_rules_steps : Nat → Int32} {f_this_rock_trims : Nat → Int32} {x_this_trial_watch : Int32} {x_this_trial_score : Int32} {x_this_trial_home : Int32} {f_this_trial_off : Nat → Int32} {r : Int32} {m_this_rock_rules_facts : Nat → Int32} {m_this_trial_watch : Int32} {m_this_trial_score : Int32} {m_this_trial_home : Int32} {m_this_trial_off : Nat → Int32} (hf : f_X8_worthOfRest p0 x_this_rock_count x_this_rock_end f_this_rock_buoys f_this_rock_currents f_this_rock_kinds f_this_rock_lanes f_this_rock_lights x_this_rock_now_watch x_this_rock_now_score x_this_rock_now_home f_this_rock_now_off x_this_rock_rules_count f_this_rock_rules_begins f_this_rock_rules_deeds f_this_rock_rules_facts f_this_rock_rules_kinds f_this_rock_rules_lefts f_this_rock_rules_rights f_this_rock_rules_steps f_this_rock_trims f_this_trial_off = some (r, m_this_rock_rules_facts, m_this_trial_watch, m_this_trial_score, m_this_trial_home, m_this_trial_off)) : mFi l G yX8_worthOfRest cX8_worthOfRest 3 .int 6 [.ref h_this, .int p0] [(h_this, ob 8 [.ref h_this_rock, .ref h_this_kept, .ref h_this_trial, .ref h_this_planner, .ref h_this_reader, .ref h_this_draft, .ref h_this_host, .ref h_this_thing, .ref h_this_tape, .ref h_this_rows, .int x_this_tapeCount, .int x_this_rowCount, .int x_this_isKept]), (h_this_rock, ob 3 [.ref h_this_rock_kinds, .ref h_this_rock_trims, .ref h_this_rock_lanes, .ref h_this_rock_lights, .ref h_this_rock_currents, .ref h_this_rock_buoys, .ref h_this_rock_now, .ref h_this_rock_rules, .ref h_this_rock_reports, .int x_this_rock_count, .int x_this_rock_end, .int x_this_rock_z]), (h_this_rock_buoys, ia G 6 f_this_rock_buoys), (h_this_rock_currents, ia G 6 f_this_rock_currents), (h_this_rock_kinds, ia G 6 f_this_rock_kinds), (h_this_rock_lanes, ia G 6 f_this_rock_lanes), (h_this_rock_lights, ia G 16 f_this_rock_lights), (h_this_rock_now, ob 6 [.ref h_this_rock_now_off, .int x_this_rock_now_watch, .int x_this_rock_now_score, .int x_this_rock_now_home]), (h_this_rock_now_off, ia G 6 f_this_rock_now_off), (h_this_rock_rules, ob 5 [.ref h_this_rock_rules_kinds, .ref h_this_rock_rules_deeds, .ref h_this_rock_rules_begins, .ref h_this_rock_rules_steps, .ref h_this_rock_rules_lefts, .ref h_this_rock_rules_rights, .ref h_this_rock_rules_facts, .int x_this_rock_rules_count, .int x_this_rock_rules_size]), (h_this_rock_rules_begins, ia G 9 f_this_rock_rules_begins), (h_this_rock_rules_deeds, ia G 8 f_this_rock_rules_deeds), (h_this_rock_rules_facts, ia G 5 f_this_rock_rules_facts), (h_this_rock_rules_kinds, ia G 8 f_this_rock_rules_kinds), (h_this_rock_rules_lefts, ia G 200 f_this_rock_rules_lefts), (h_this_rock_rules_rights, ia G 200 f_this_rock_rules_rights), (h_this_rock_rules_steps, ia G 200 f_this_rock_rules_steps), (h_this_rock_trims, ia G 6 f_this_rock_trims), (h_this_trial, ob 6 [.ref h_this_trial_off, .int x_this_trial_watch, .int x_this_trial_score, .int x_this_trial_home]), (h_this_trial_off, ia G 6 f_this_trial_off)] r [(h_this, ob 8 [.ref h_this_rock, .ref h_this_kept, .ref h_this_trial, .ref h_this_planner, .ref h_this_reader, .ref h_this_draft, .ref h_this_host, .ref h_this_thing, .ref h_this_tape, .ref h_this_rows, .int x_this_tapeCount, .int x_this_rowCount, .int x_this_isKept]), (h_this_rock, ob 3 [.ref h_this_rock_kinds, .ref h_this_rock_trims, .ref h_this_rock_lanes, .ref h_this_rock_lights, .ref h_this_rock_currents, .ref h_this_rock_buoys, .ref h_this_rock_now, .ref h_this_rock_rules, .ref h_this_rock_reports, .int x_this_rock_count, .int x_this_rock_end, .int x_this_rock_z]), (h_this_rock_buoys, ia G 6 f_this_rock_buoys), (h_this_rock_currents, ia G 6 f_this_rock_currents), (h_this_rock_kinds, ia G 6 f_this_rock_kinds), (h_this_rock_lanes, ia G 6 f_this_rock_lanes), (h_this_rock_lights, ia G 16 f_this_rock_lights), (h_this_rock_now, ob 6 [.ref h_this_rock_now_off, .int x_this_rock_now_watch, .int x_this_rock_now_score, .int x_this_rock_now_home]), (h_this_rock_now_off, ia G 6 f_this_rock_now_off), (h_this_rock_rules, ob 5 [.ref h_this_rock_rules_kinds, .ref h_this_rock_rules_deeds, .ref h_this_rock_rules_begins, .ref h_this_rock_rules_steps, .ref h_this_rock_rules_lefts, .ref h_this_rock_rules_rights, .ref h_this_rock_rules_facts, .int x_this_rock_rules_count, .int x_this_rock_rules_size]), (h_this_rock_rules_begins, ia G 9 f_this_rock_rules_begins), (h_this_rock_rules_deeds, ia G 8 f_this_rock_rules_deeds), (h_this_rock_rules_facts, ia G 5 m_this_rock_rules_facts), (h_this_rock_rules_kinds, ia G 8 f_this_rock_rules_kinds), (h_this_rock_rules_lefts, ia G 200 f_this_rock_rules_lefts), (h_this_rock_rules_rights, ia G 200 f_this_rock_rules_rights), (h_this_rock_rules_steps, ia G 200 f_this_rock_rules_steps), (h_this_rock_trims, ia G 6 f_this_rock_trims), (h_this_trial, ob 6 [.ref h_this_trial_off, .int m_this_trial_watch, .int m_this_trial_score, .int m_this_trial_home]), (h_this_trial_off, ia G 6 m_this_trial_off)] := by
  refine mFi.of (by decide +kernel) (Nat.le_of_ble_eq_true rfl) ?_
  intro p e s m below meth c A C hr hlk h ls hl
  obtain ⟨hx, hb, hml, hown, hts⟩ := id C
  replace hl : lv_has ls 3 [(0, .ref h_this), (1, .int p0)] := hl
  unfold f_X8_worthOfRest at hf
  refine with_K G A 3 (fun K hK1 hK2 => ?_)
  have B53 : ∀ (g_this_rock_rules_facts : Nat → Int32) (y_this_trial_watch : Int32) (y_this_trial_score : Int32) (y_this_trial_home : Int32) (g_this_trial_off : Nat → Int32), f_X8_worthOfRest_b53 x_this_rock_now_score g_this_rock_rules_facts y_this_trial_watch y_this_trial_score y_this_trial_home g_this_trial_off = some (r, m_this_rock_rules_facts, m_this_trial_watch, m_this_trial_score, m_this_trial_home, m_this_trial_off) → K 53 ([] : List Value) [(h_this, ob 8 [.ref h_this_rock, .ref h_this_kept, .ref h_this_trial, .ref h_this_planner, .ref h_this_reader, .ref h_this_draft, .ref h_this_host, .ref h_this_thing, .ref h_this_tape, .ref h_this_rows, .int x_this_tapeCount, .int x_this_rowCount, .int x_this_isKept]), (h_this_rock, ob 3 [.ref h_this_rock_kinds, .ref h_this_rock_trims, .ref h_this_rock_lanes, .ref h_this_rock_lights, .ref h_this_rock_currents, .ref h_this_rock_buoys, .ref h_this_rock_now, .ref h_this_rock_rules, .ref h_this_rock_reports, .int x_this_rock_count, .int x_this_rock_end, .int x_this_rock_z]), (h_this_rock_buoys, ia G 6 f_this_rock_buoys), (h_this_rock_currents, ia G 6 f_this_rock_currents), (h_this_rock_kinds, ia G 6 f_this_rock_kinds), (h_this_rock_lanes, ia G 6 f_this_rock_lanes), (h_this_rock_lights, ia G 16 f_this_rock_lights), (h_this_rock_now, ob 6 [.ref h_this_rock_now_off, .int x_this_rock_now_watch, .int x_this_rock_now_score, .int x_this_rock_now_home]), (h_this_rock_now_off, ia G 6 f_this_rock_now_off), (h_this_rock_rules, ob 5 [.ref h_this_rock_rules_kinds, .ref h_this_rock_rules_deeds, .ref h_this_rock_rules_begins, .ref h_this_rock_rules_steps, .ref h_this_rock_rules_lefts, .ref h_this_rock_rules_rights, .ref h_this_rock_rules_facts, .int x_this_rock_rules_count, .int x_this_rock_rules_size]), (h_this_rock_rules_begins, ia G 9 f_this_rock_rules_begins), (h_this_rock_rules_deeds, ia G 8 f_this_rock_rules_deeds), (h_this_rock_rules_facts, ia G 5 g_this_rock_rules_facts), (h_this_rock_rules_kinds, ia G 8 f_this_rock_rules_kinds), (h_this_rock_rules_lefts, ia G 200 f_this_rock_rules_lefts), (h_this_rock_rules_rights, ia G 200 f_this_rock_rules_rights), (h_this_rock_rules_steps, ia G 200 f_this_rock_rules_steps), (h_this_rock_trims, ia G 6 f_this_rock_trims), (h_this_trial, ob 6 [.ref h_this_trial_off, .int y_this_trial_watch, .int y_this_trial_score, .int y_this_trial_home]), (h_this_trial_off, ia G 6 g_this_trial_off)] [(0, .ref h_this)] := by
    intro g_this_rock_rules_facts y_this_trial_watch y_this_trial_score y_this_trial_home g_this_trial_off hf
    unfold f_X8_worthOfRest_b53 at hf
    refine hK1 _ _ _ _ (fun H locs ls h hl => ?_)
    refine lv_aload_n hx hb dX8_worthOfRest_53 rfl (lv_at hl 0 rfl) ?_
    refine r_get C h fk_X8_22 0 rfl rfl dX8_worthOfRest_54 ?_
    refine r_get C h fk_X8_153 18 rfl rfl dX8_worthOfRest_57 ?_
    refine lv_aload_n hx hb dX8_worthOfRest_60 rfl (lv_at hl 0 rfl) ?_
    refine r_get C h fk_X8_10 0 rfl rfl dX8_worthOfRest_61 ?_
    refine r_get C h fk_X8_94 1 rfl rfl dX8_worthOfRest_64 ?_
    refine r_get C h fk_X8_153 7 rfl rfl dX8_worthOfRest_67 ?_
    refine lv_isub hx hb dX8_worthOfRest_70 ?_
    cases hf
    exact r_iret C h hr hlk rfl dX8_worthOfRest_71
  have L16 : ∀ (n : Nat) (v2 : Int32) (g_this_rock_rules_facts : Nat → Int32) (y_this_trial_watch : Int32) (y_this_trial_score : Int32) (y_this_trial_home : Int32) (g_this_trial_off : Nat → Int32), f_X8_worthOfRest_L16 p0 x_this_rock_count x_this_rock_end f_this_rock_buoys f_this_rock_currents f_this_rock_kinds f_this_rock_lanes f_this_rock_lights x_this_rock_now_score x_this_rock_rules_count f_this_rock_rules_begins f_this_rock_rules_deeds f_this_rock_rules_kinds f_this_rock_rules_lefts f_this_rock_rules_rights f_this_rock_rules_steps f_this_rock_trims n v2 g_this_rock_rules_facts y_this_trial_watch y_this_trial_score y_this_trial_home g_this_trial_off = some (r, m_this_rock_rules_facts, m_this_trial_watch, m_this_trial_score, m_this_trial_home, m_this_trial_off) → K 16 ([] : List Value) [(h_this, ob 8 [.ref h_this_rock, .ref h_this_kept, .ref h_this_trial, .ref h_this_planner, .ref h_this_reader, .ref h_this_draft, .ref h_this_host, .ref h_this_thing, .ref h_this_tape, .ref h_this_rows, .int x_this_tapeCount, .int x_this_rowCount, .int x_this_isKept]), (h_this_rock, ob 3 [.ref h_this_rock_kinds, .ref h_this_rock_trims, .ref h_this_rock_lanes, .ref h_this_rock_lights, .ref h_this_rock_currents, .ref h_this_rock_buoys, .ref h_this_rock_now, .ref h_this_rock_rules, .ref h_this_rock_reports, .int x_this_rock_count, .int x_this_rock_end, .int x_this_rock_z]), (h_this_rock_buoys, ia G 6 f_this_rock_buoys), (h_this_rock_currents, ia G 6 f_this_rock_currents), (h_this_rock_kinds, ia G 6 f_this_rock_kinds), (h_this_rock_lanes, ia G 6 f_this_rock_lanes), (h_this_rock_lights, ia G 16 f_this_rock_lights), (h_this_rock_now, ob 6 [.ref h_this_rock_now_off, .int x_this_rock_now_watch, .int x_this_rock_now_score, .int x_this_rock_now_home]), (h_this_rock_now_off, ia G 6 f_this_rock_now_off), (h_this_rock_rules, ob 5 [.ref h_this_rock_rules_kinds, .ref h_this_rock_rules_deeds, .ref h_this_rock_rules_begins, .ref h_this_rock_rules_steps, .ref h_this_rock_rules_lefts, .ref h_this_rock_rules_rights, .ref h_this_rock_rules_facts, .int x_this_rock_rules_count, .int x_this_rock_rules_size]), (h_this_rock_rules_begins, ia G 9 f_this_rock_rules_begins), (h_this_rock_rules_deeds, ia G 8 f_this_rock_rules_deeds), (h_this_rock_rules_facts, ia G 5 g_this_rock_rules_facts), (h_this_rock_rules_kinds, ia G 8 f_this_rock_rules_kinds), (h_this_rock_rules_lefts, ia G 200 f_this_rock_rules_lefts), (h_this_rock_rules_rights, ia G 200 f_this_rock_rules_rights), (h_this_rock_rules_steps, ia G 200 f_this_rock_rules_steps), (h_this_rock_trims, ia G 6 f_this_rock_trims), (h_this_trial, ob 6 [.ref h_this_trial_off, .int y_this_trial_watch, .int y_this_trial_score, .int y_this_trial_home]), (h_this_trial_off, ia G 6 g_this_trial_off)] [(0, .ref h_this), (1, .int p0), (2, .int v2)] := by
    intro n
    induction n with
    | zero =>
      intro v2 g_this_rock_rules_facts y_this_trial_watch y_this_trial_score y_this_trial_home g_this_trial_off hf
      replace hf : (none : Option _) = some _ := hf
      cases hf
    | succ n ih =>
      intro v2 g_this_rock_rules_facts y_this_trial_watch y_this_trial_score y_this_trial_home g_this_trial_off hf
      rw [f_X8_worthOfRest_L16] at hf
      refine hK1 _ _ _ _ (fun H locs ls h hl => ?_)
      refine lv_iload_n hx hb dX8_worthOfRest_16 rfl (lv_at hl 2 rfl) ?_
      refine lv_iload_n hx hb dX8_worthOfRest_17 rfl (lv_at hl 1 rfl) ?_
      refine lv_icmp_ge (tgt := 53) hx hb dX8_worthOfRest_18 rfl (fun c6 => ?_) (fun c6 => ?_)
      · replace hf := ifp c6 hf
        exact hK2 _ _ _ _ (B53 g_this_rock_rules_facts y_this_trial_watch y_this_trial_score y_this_trial_home g_this_trial_off hf) _ _ _ h (lv_sub hl [0] rfl)
      · replace hf := ifn c6 hf
        refine lv_aload_n hx hb dX8_worthOfRest_21 rfl (lv_at hl 0 rfl) ?_
        refine r_get C h fk_X8_10 0 rfl rfl dX8_worthOfRest_22 ?_
        refine lv_aload_n hx hb dX8_worthOfRest_25 rfl (lv_at hl 0 rfl) ?_
        refine r_get C h fk_X8_22 0 rfl rfl dX8_worthOfRest_26 ?_
        replace hf := bd1_inv hf
        obtain ⟨r7, hc8, hf⟩ := hf
        refine r_ciV0 C h (c_X3_isOver hc8) mv_X8_159 rfl 1 rfl [18, 1] rfl rfl hl.1 rfl (Nat.le_of_ble_eq_true rfl) (rok (by decide)) dX8_worthOfRest_29 (fun H locs h => ?_)
        refine lv_if_ne (tgt := 53) hx hb dX8_worthOfRest_32 rfl (fun c9 => ?_) (fun c9 => ?_)
        · replace hf := ifn c9 hf
          exact hK2 _ _ _ _ (B53 g_this_rock_rules_facts y_this_trial_watch y_this_trial_score y_this_trial_home g_this_trial_off hf) _ _ _ h (lv_sub hl [0] rfl)
        · replace hf := ifp c9 hf
          refine lv_aload_n hx hb dX8_worthOfRest_35 rfl (lv_at hl 0 rfl) ?_
          refine r_get C h fk_X8_10 0 rfl rfl dX8_worthOfRest_36 ?_
          refine lv_aload_n hx hb dX8_worthOfRest_39 rfl (lv_at hl 0 rfl) ?_
          refine r_get C h fk_X8_22 0 rfl rfl dX8_worthOfRest_40 ?_
          replace hf := bd6_inv hf
          obtain ⟨r10, y11, y12, y13, g14, g15, hc16, hf⟩ := hf
          refine r_ciV (ws' := [(h_this, ob 8 [.ref h_this_rock, .ref h_this_kept, .ref h_this_trial, .ref h_this_planner, .ref h_this_reader, .ref h_this_draft, .ref h_this_host, .ref h_this_thing, .ref h_this_tape, .ref h_this_rows, .int x_this_tapeCount, .int x_this_rowCount, .int x_this_isKept]), (h_this_rock, ob 3 [.ref h_this_rock_kinds, .ref h_this_rock_trims, .ref h_this_rock_lanes, .ref h_this_rock_lights, .ref h_this_rock_currents, .ref h_this_rock_buoys, .ref h_this_rock_now, .ref h_this_rock_rules, .ref h_this_rock_reports, .int x_this_rock_count, .int x_this_rock_end, .int x_this_rock_z]), (h_this_rock_buoys, ia G 6 f_this_rock_buoys), (h_this_rock_currents, ia G 6 f_this_rock_currents), (h_this_rock_kinds, ia G 6 f_this_rock_kinds), (h_this_rock_lanes, ia G 6 f_this_rock_lanes), (h_this_rock_lights, ia G 16 f_this_rock_lights), (h_this_rock_now, ob 6 [.ref h_this_rock_now_off, .int x_this_rock_now_watch, .int x_this_rock_now_score, .int x_this_rock_now_home]), (h_this_rock_now_off, ia G 6 f_this_rock_now_off), (h_this_rock_rules, ob 5 [.ref h_this_rock_rules_kinds, .ref h_this_rock_rules_deeds, .ref h_this_rock_rules_begins, .ref h_this_rock_rules_steps, .ref h_this_rock_rules_lefts, .ref h_this_rock_rules_rights, .ref h_this_rock_rules_facts, .int x_this_rock_rules_count, .int x_this_rock_rules_size]), (h_this_rock_rules_begins, ia G 9 f_this_rock_rules_begins), (h_this_rock_rules_deeds, ia G 8 f_this_rock_rules_deeds), (h_this_rock_rules_facts, ia G 5 g15), (h_this_rock_rules_kinds, ia G 8 f_this_rock_rules_kinds), (h_this_rock_rules_lefts, ia G 200 f_this_rock_rules_lefts), (h_this_rock_rules_rights, ia G 200 f_this_rock_rules_rights), (h_this_rock_rules_steps, ia G 200 f_this_rock_rules_steps), (h_this_rock_trims, ia G 6 f_this_rock_trims), (h_this_trial, ob 6 [.ref h_this_trial_off, .int y11, .int y12, .int y13]), (h_this_trial_off, ia G 6 g14)]) C h (c_X3_passRest hc16) mv_X8_183 rfl 1 rfl [18, 19, 1, 2, 3, 4, 5, 6, 9, 10, 11, 12, 13, 14, 15, 16, 17] rfl rfl rfl rfl rfl hl.1 rfl (Nat.le_of_ble_eq_true rfl) (rok (by decide)) dX8_worthOfRest_43 (fun H locs h => ?_)
          refine lv_pop hx hb dX8_worthOfRest_46 rfl ?_
          obtain ⟨t17, et17⟩ : ∃ y : Int32, y = v2 + (1 : Int32) := ⟨_, rfl⟩
          replace hf := lt1_inv et17 hf
          refine lv_iinc (v := t17) (lv' := [(2, .int t17), (0, .ref h_this), (1, .int p0)]) hx hb dX8_worthOfRest_47 hl (k := 2) rfl (by rw [et17]; rfl) (by decide) rfl (fun ls hl => ?_)
          refine lv_goto (tgt := 16) hx hb dX8_worthOfRest_50 rfl ?_
          exact hK2 _ _ _ _ (ih t17 g15 y11 y12 y13 g14 hf) _ _ _ h (lv_sub hl [1, 2, 0] rfl)
  refine lv_aload_n hx hb dX8_worthOfRest_0 rfl (lv_at hl 0 rfl) ?_
  refine r_get C h fk_X8_22 0 rfl rfl dX8_worthOfRest_1 ?_
  refine lv_aload_n hx hb dX8_worthOfRest_4 rfl (lv_at hl 0 rfl) ?_
  refine r_get C h fk_X8_10 0 rfl rfl dX8_worthOfRest_5 ?_
  refine r_get C h fk_X8_94 1 rfl rfl dX8_worthOfRest_8 ?_
  replace hf := bd4_inv hf
  obtain ⟨y1, y2, y3, g4, hc5, hf⟩ := hf
  refine r_cvV (ws' := [(h_this, ob 8 [.ref h_this_rock, .ref h_this_kept, .ref h_this_trial, .ref h_this_planner, .ref h_this_reader, .ref h_this_draft, .ref h_this_host, .ref h_this_thing, .ref h_this_tape, .ref h_this_rows, .int x_this_tapeCount, .int x_this_rowCount, .int x_this_isKept]), (h_this_rock, ob 3 [.ref h_this_rock_kinds, .ref h_this_rock_trims, .ref h_this_rock_lanes, .ref h_this_rock_lights, .ref h_this_rock_currents, .ref h_this_rock_buoys, .ref h_this_rock_now, .ref h_this_rock_rules, .ref h_this_rock_reports, .int x_this_rock_count, .int x_this_rock_end, .int x_this_rock_z]), (h_this_rock_buoys, ia G 6 f_this_rock_buoys), (h_this_rock_currents, ia G 6 f_this_rock_currents), (h_this_rock_kinds, ia G 6 f_this_rock_kinds), (h_this_rock_lanes, ia G 6 f_this_rock_lanes), (h_this_rock_lights, ia G 16 f_this_rock_lights), (h_this_rock_now, ob 6 [.ref h_this_rock_now_off, .int x_this_rock_now_watch, .int x_this_rock_now_score, .int x_this_rock_now_home]), (h_this_rock_now_off, ia G 6 f_this_rock_now_off), (h_this_rock_rules, ob 5 [.ref h_this_rock_rules_kinds, .ref h_this_rock_rules_deeds, .ref h_this_rock_rules_begins, .ref h_this_rock_rules_steps, .ref h_this_rock_rules_lefts, .ref h_this_rock_rules_rights, .ref h_this_rock_rules_facts, .int x_this_rock_rules_count, .int x_this_rock_rules_size]), (h_this_rock_rules_begins, ia G 9 f_this_rock_rules_begins), (h_this_rock_rules_deeds, ia G 8 f_this_rock_rules_deeds), (h_this_rock_rules_facts, ia G 5 f_this_rock_rules_facts), (h_this_rock_rules_kinds, ia G 8 f_this_rock_rules_kinds), (h_this_rock_rules_lefts, ia G 200 f_this_rock_rules_lefts), (h_this_rock_rules_rights, ia G 200 f_this_rock_rules_rights), (h_this_rock_rules_steps, ia G 200 f_this_rock_rules_steps), (h_this_rock_trims, ia G 6 f_this_rock_trims), (h_this_trial, ob 6 [.ref h_this_trial_off, .int y1, .int y2, .int y3]), (h_this_trial_off, ia G 6 g4)]) C h (c_X6_become hc5) mv_X8_189 rfl 18 rfl [7, 8, 18, 19] rfl rfl rfl rfl rfl hl.1 rfl (Nat.le_of_ble_eq_true rfl) (rok (by decide)) dX8_worthOfRest_11 (fun H locs h => ?_)
  refine lv_iconst (v := (0 : Int32)) hx hb dX8_worthOfRest_14 rfl ?_
  refine lv_istore_n (lv' := [(2, .int (0 : Int32)), (0, .ref h_this), (1, .int p0)]) hx hb dX8_worthOfRest_15 rfl hl (by decide) rfl (fun ls hl => ?_)
  exact hK2 _ _ _ _ (L16 1000 (0 : Int32) f_this_rock_rules_facts y1 y2 y3 g4 hf) _ _ _ h (lv_sub hl [1, 2, 0] rfl)
def f_X8_on (p0 : Int32) (x_this_rock_count : Int32) (x_this_rock_end : Int32) (f_this_rock_buoys : Nat → Int32) (f_this_rock_currents : Nat → Int32) (f_this_rock_kinds : Nat → Int32) (f_this_rock_lanes : Nat → Int32) (f_this_rock_lights : Nat → Int32) (x_this_rock_now_watch : Int32) (x_this_rock_now_score : Int32) (x_this_rock_now_home : Int32) (f_this_rock_now_off : Nat → Int32) (x_this_rock_rules_count : Int32) (f_this_rock_rules_begins : Nat → Int32) (f_this_rock_rules_deeds : Nat → Int32) (f_this_rock_rules_facts : Nat → Int32) (f_this_rock_rules_kinds : Nat → Int32) (f_this_rock_rules_lefts : Nat → Int32) (f_this_rock_rules_rights : Nat → Int32) (f_this_rock_rules_steps : Nat → Int32) (f_this_rock_trims : Nat → Int32) (x_this_trial_watch : Int32) (x_this_trial_score : Int32) (x_this_trial_home : Int32) (f_this_trial_off : Nat → Int32) : Option (Int32 × (Nat → Int32) × Int32 × Int32 × Int32 × (Nat → Int32)) := bd1 (f_X8_within p0 (0 : Int32) (16 : Int32)) (fun r1 => (if r1 = 0 then some ((-1 : Int32), f_this_rock_rules_facts, x_this_trial_watch, x_this_trial_score, x_this_trial_home, f_this_trial_off) else bd6 (f_X8_worthOfRest p0 x_this_rock_count x_this_rock_end f_this_rock_buoys f_this_rock_currents f_this_rock_kinds f_this_rock_lanes f_this_rock_lights x_this_rock_now_watch x_this_rock_now_score x_this_rock_now_home f_this_rock_now_off x_this_rock_rules_count f_this_rock_rules_begins f_this_rock_rules_deeds f_this_rock_rules_facts f_this_rock_rules_kinds f_this_rock_rules_lefts f_this_rock_rules_rights f_this_rock_rules_steps f_this_rock_trims f_this_trial_off) (fun r4 g5 y6 y7 y8 g9 => some (r4, g5, y6, y7, y8, g9))))
set_option maxRecDepth 100000 in
set_option maxHeartbeats 4000000 in
theorem c_X8_on {l : Launch} {G : Gt} {h_this h_this_rock h_this_kept h_this_trial h_this_planner h_this_reader h_this_draft h_this_host h_this_thing h_this_tape h_this_rows h_this_rock_kinds h_this_rock_trims h_this_rock_lanes h_this_rock_lights h_this_rock_currents h_this_rock_buoys h_this_rock_now h_this_rock_rules h_this_rock_reports h_this_rock_now_off h_this_rock_rules_kinds h_this_rock_rules_deeds h_this_rock_rules_begins h_this_rock_rules_steps h_this_rock_rules_lefts h_this_rock_rules_rights h_this_rock_rules_facts h_this_trial_off : Nat} {p0 : Int32} {x_this_tapeCount : Int32} {x_this_rowCount : Int32} {x_this_isKept : Int32} {x_this_rock_count : Int32} {x_this_rock_end : Int32} {x_this_rock_z : Int32} {f_this_rock_buoys : Nat → Int32} {f_this_rock_currents : Nat → Int32} {f_this_rock_kinds : Nat → Int32} {f_this_rock_lanes : Nat → Int32} {f_this_rock_lights : Nat → Int32} {x_this_rock_now_watch : Int32} {x_this_rock_now_score : Int32} {x_this_rock_now_home : Int32} {f_this_rock_now_off : Nat → Int32} {x_this_rock_rules_count : Int32} {x_this_rock_rules_size : Int32} {f_this_rock_rules_begins : Nat → Int32} {f_this_rock_rules_deeds : Nat → Int32} {f_this_rock_rules_facts : Nat → Int32} {f_this_rock_rules_kinds : Nat → Int32} {f_this_rock_rules_lefts : Nat → Int32} {f_this_rock_rules_rights : Nat → Int32} {f_this_rock_rules_steps : Nat → Int32} {f_this_rock_trims : Nat → Int32} {x_this_trial_watch : Int32} {x_this_trial_score : Int32} {x_this_trial_home : Int32} {f_this_trial_off : Nat → Int32} {r : Int32} {m_this_rock_rules_facts : Nat → Int32} {m_this_trial_watch : Int32} {m_this_trial_score : Int32} {m_this_trial_home : Int32} {m_this_trial_off : Nat → Int32} (hf : f_X8_on p0 x_this_rock_count x_this_rock_end f_this_rock_buoys f_this_rock_currents f_this_rock_kinds f_this_rock_lanes f_this_rock_lights x_this_rock_now_watch x_this_rock_now_score x_this_rock_now_home f_this_rock_now_off x_this_rock_rules_count f_this_rock_rules_begins f_this_rock_rules_deeds f_this_rock_rules_facts f_this_rock_rules_kinds f_this_rock_rules_lefts f_this_rock_rules_rights f_this_rock_rules_steps f_this_rock_trims x_this_trial_watch x_this_trial_score x_this_trial_home f_this_trial_off = some (r, m_this_rock_rules_facts, m_this_trial_watch, m_this_trial_score, m_this_trial_home, m_this_trial_off)) : mFi l G yX8_on cX8_on 2 .int 7 [.ref h_this, .int p0] [(h_this, ob 8 [.ref h_this_rock, .ref h_this_kept, .ref h_this_trial, .ref h_this_planner, .ref h_this_reader, .ref h_this_draft, .ref h_this_host, .ref h_this_thing, .ref h_this_tape, .ref h_this_rows, .int x_this_tapeCount, .int x_this_rowCount, .int x_this_isKept]), (h_this_rock, ob 3 [.ref h_this_rock_kinds, .ref h_this_rock_trims, .ref h_this_rock_lanes, .ref h_this_rock_lights, .ref h_this_rock_currents, .ref h_this_rock_buoys, .ref h_this_rock_now, .ref h_this_rock_rules, .ref h_this_rock_reports, .int x_this_rock_count, .int x_this_rock_end, .int x_this_rock_z]), (h_this_rock_buoys, ia G 6 f_this_rock_buoys), (h_this_rock_currents, ia G 6 f_this_rock_currents), (h_this_rock_kinds, ia G 6 f_this_rock_kinds), (h_this_rock_lanes, ia G 6 f_this_rock_lanes), (h_this_rock_lights, ia G 16 f_this_rock_lights), (h_this_rock_now, ob 6 [.ref h_this_rock_now_off, .int x_this_rock_now_watch, .int x_this_rock_now_score, .int x_this_rock_now_home]), (h_this_rock_now_off, ia G 6 f_this_rock_now_off), (h_this_rock_rules, ob 5 [.ref h_this_rock_rules_kinds, .ref h_this_rock_rules_deeds, .ref h_this_rock_rules_begins, .ref h_this_rock_rules_steps, .ref h_this_rock_rules_lefts, .ref h_this_rock_rules_rights, .ref h_this_rock_rules_facts, .int x_this_rock_rules_count, .int x_this_rock_rules_size]), (h_this_rock_rules_begins, ia G 9 f_this_rock_rules_begins), (h_this_rock_rules_deeds, ia G 8 f_this_rock_rules_deeds), (h_this_rock_rules_facts, ia G 5 f_this_rock_rules_facts), (h_this_rock_rules_kinds, ia G 8 f_this_rock_rules_kinds), (h_this_rock_rules_lefts, ia G 200 f_this_rock_rules_lefts), (h_this_rock_rules_rights, ia G 200 f_this_rock_rules_rights), (h_this_rock_rules_steps, ia G 200 f_this_rock_rules_steps), (h_this_rock_trims, ia G 6 f_this_rock_trims), (h_this_trial, ob 6 [.ref h_this_trial_off, .int x_this_trial_watch, .int x_this_trial_score, .int x_this_trial_home]), (h_this_trial_off, ia G 6 f_this_trial_off)] r [(h_this, ob 8 [.ref h_this_rock, .ref h_this_kept, .ref h_this_trial, .ref h_this_planner, .ref h_this_reader, .ref h_this_draft, .ref h_this_host, .ref h_this_thing, .ref h_this_tape, .ref h_this_rows, .int x_this_tapeCount, .int x_this_rowCount, .int x_this_isKept]), (h_this_rock, ob 3 [.ref h_this_rock_kinds, .ref h_this_rock_trims, .ref h_this_rock_lanes, .ref h_this_rock_lights, .ref h_this_rock_currents, .ref h_this_rock_buoys, .ref h_this_rock_now, .ref h_this_rock_rules, .ref h_this_rock_reports, .int x_this_rock_count, .int x_this_rock_end, .int x_this_rock_z]), (h_this_rock_buoys, ia G 6 f_this_rock_buoys), (h_this_rock_currents, ia G 6 f_this_rock_currents), (h_this_rock_kinds, ia G 6 f_this_rock_kinds), (h_this_rock_lanes, ia G 6 f_this_rock_lanes), (h_this_rock_lights, ia G 16 f_this_rock_lights), (h_this_rock_now, ob 6 [.ref h_this_rock_now_off, .int x_this_rock_now_watch, .int x_this_rock_now_score, .int x_this_rock_now_home]), (h_this_rock_now_off, ia G 6 f_this_rock_now_off), (h_this_rock_rules, ob 5 [.ref h_this_rock_rules_kinds, .ref h_this_rock_rules_deeds, .ref h_this_rock_rules_begins, .ref h_this_rock_rules_steps, .ref h_this_rock_rules_lefts, .ref h_this_rock_rules_rights, .ref h_this_rock_rules_facts, .int x_this_rock_rules_count, .int x_this_rock_rules_size]), (h_this_rock_rules_begins, ia G 9 f_this_rock_rules_begins), (h_this_rock_rules_deeds, ia G 8 f_this_rock_rules_deeds), (h_this_rock_rules_facts, ia G 5 m_this_rock_rules_facts), (h_this_rock_rules_kinds, ia G 8 f_this_rock_rules_kinds), (h_this_rock_rules_lefts, ia G 200 f_this_rock_rules_lefts), (h_this_rock_rules_rights, ia G 200 f_this_rock_rules_rights), (h_this_rock_rules_steps, ia G 200 f_this_rock_rules_steps), (h_this_rock_trims, ia G 6 f_this_rock_trims), (h_this_trial, ob 6 [.ref h_this_trial_off, .int m_this_trial_watch, .int m_this_trial_score, .int m_this_trial_home]), (h_this_trial_off, ia G 6 m_this_trial_off)] := by
  refine mFi.of (by decide +kernel) (Nat.le_of_ble_eq_true rfl) ?_
  intro p e s m below meth c A C hr hlk h ls hl
  obtain ⟨hx, hb, hml, hown, hts⟩ := id C
  replace hl : lv_has ls 2 [(0, .ref h_this), (1, .int p0)] := hl
  unfold f_X8_on at hf
  refine lv_iload_n hx hb dX8_on_0 rfl (lv_at hl 1 rfl) ?_
  refine lv_iconst (v := (0 : Int32)) hx hb dX8_on_1 rfl ?_
  refine lv_bipush (v := (16 : Int32)) hx hb dX8_on_2 rfl ?_
  replace hf := bd1_inv hf
  obtain ⟨r1, hc2, hf⟩ := hf
  refine r_ciS0 C h (c_X8_within hc2) ms_X8_79 rfl [] rfl rfl hl.1 rfl (Nat.le_of_ble_eq_true rfl) (rok (by decide)) dX8_on_4 (fun H locs h => ?_)
  refine lv_if_eq (tgt := 18) hx hb dX8_on_7 rfl (fun c3 => ?_) (fun c3 => ?_)
  · replace hf := ifp c3 hf
    refine lv_iconst (v := (-1 : Int32)) hx hb dX8_on_18 rfl ?_
    cases hf
    exact r_iret C h hr hlk rfl dX8_on_19
  · replace hf := ifn c3 hf
    refine lv_aload_n hx hb dX8_on_10 rfl (lv_at hl 0 rfl) ?_
    refine lv_iload_n hx hb dX8_on_11 rfl (lv_at hl 1 rfl) ?_
    replace hf := bd6_inv hf
    obtain ⟨r4, g5, y6, y7, y8, g9, hc10, hf⟩ := hf
    refine r_ciV (ws' := [(h_this, ob 8 [.ref h_this_rock, .ref h_this_kept, .ref h_this_trial, .ref h_this_planner, .ref h_this_reader, .ref h_this_draft, .ref h_this_host, .ref h_this_thing, .ref h_this_tape, .ref h_this_rows, .int x_this_tapeCount, .int x_this_rowCount, .int x_this_isKept]), (h_this_rock, ob 3 [.ref h_this_rock_kinds, .ref h_this_rock_trims, .ref h_this_rock_lanes, .ref h_this_rock_lights, .ref h_this_rock_currents, .ref h_this_rock_buoys, .ref h_this_rock_now, .ref h_this_rock_rules, .ref h_this_rock_reports, .int x_this_rock_count, .int x_this_rock_end, .int x_this_rock_z]), (h_this_rock_buoys, ia G 6 f_this_rock_buoys), (h_this_rock_currents, ia G 6 f_this_rock_currents), (h_this_rock_kinds, ia G 6 f_this_rock_kinds), (h_this_rock_lanes, ia G 6 f_this_rock_lanes), (h_this_rock_lights, ia G 16 f_this_rock_lights), (h_this_rock_now, ob 6 [.ref h_this_rock_now_off, .int x_this_rock_now_watch, .int x_this_rock_now_score, .int x_this_rock_now_home]), (h_this_rock_now_off, ia G 6 f_this_rock_now_off), (h_this_rock_rules, ob 5 [.ref h_this_rock_rules_kinds, .ref h_this_rock_rules_deeds, .ref h_this_rock_rules_begins, .ref h_this_rock_rules_steps, .ref h_this_rock_rules_lefts, .ref h_this_rock_rules_rights, .ref h_this_rock_rules_facts, .int x_this_rock_rules_count, .int x_this_rock_rules_size]), (h_this_rock_rules_begins, ia G 9 f_this_rock_rules_begins), (h_this_rock_rules_deeds, ia G 8 f_this_rock_rules_deeds), (h_this_rock_rules_facts, ia G 5 g5), (h_this_rock_rules_kinds, ia G 8 f_this_rock_rules_kinds), (h_this_rock_rules_lefts, ia G 200 f_this_rock_rules_lefts), (h_this_rock_rules_rights, ia G 200 f_this_rock_rules_rights), (h_this_rock_rules_steps, ia G 200 f_this_rock_rules_steps), (h_this_rock_trims, ia G 6 f_this_rock_trims), (h_this_trial, ob 6 [.ref h_this_trial_off, .int y6, .int y7, .int y8]), (h_this_trial_off, ia G 6 g9)]) C h (c_X8_worthOfRest hc10) mv_X8_186 rfl 0 rfl [0, 1, 2, 3, 4, 5, 6, 7, 8, 9, 10, 11, 12, 13, 14, 15, 16, 17, 18, 19] rfl rfl rfl rfl rfl hl.1 rfl (Nat.le_of_ble_eq_true rfl) (rok (by decide)) dX8_on_12 (fun H locs h => ?_)
    refine lv_goto (tgt := 19) hx hb dX8_on_15 rfl ?_
    cases hf
    exact r_iret C h hr hlk rfl dX8_on_19
def f_X8_when_L46 (p0 : Int32) (x_this_rock_count : Int32) (x_this_rock_end : Int32) (f_this_rock_buoys : Nat → Int32) (f_this_rock_currents : Nat → Int32) (f_this_rock_kinds : Nat → Int32) (f_this_rock_lanes : Nat → Int32) (f_this_rock_lights : Nat → Int32) (x_this_rock_rules_count : Int32) (f_this_rock_rules_begins : Nat → Int32) (f_this_rock_rules_deeds : Nat → Int32) (f_this_rock_rules_kinds : Nat → Int32) (f_this_rock_rules_lefts : Nat → Int32) (f_this_rock_rules_rights : Nat → Int32) (f_this_rock_rules_steps : Nat → Int32) (f_this_rock_trims : Nat → Int32) : Nat → Int32 → (Nat → Int32) → Int32 → Int32 → Int32 → (Nat → Int32) → Option (Int32 × (Nat → Int32) × Int32 × Int32 × Int32 × (Nat → Int32))
  | 0, _, _, _, _, _, _ => none
  | n + 1, v2, g_this_rock_rules_facts, y_this_trial_watch, y_this_trial_score, y_this_trial_home, g_this_trial_off => (if (16 : Int32) ≤ v2 then some ((-3 : Int32), g_this_rock_rules_facts, y_this_trial_watch, y_this_trial_score, y_this_trial_home, g_this_trial_off) else bd1 (f_X3_isOver y_this_trial_watch x_this_rock_end) (fun r13 => (if r13 = 0 then bd6 (f_X3_passRest y_this_trial_watch y_this_trial_score y_this_trial_home g_this_trial_off x_this_rock_count f_this_rock_buoys f_this_rock_currents f_this_rock_kinds f_this_rock_lanes f_this_rock_lights x_this_rock_rules_count f_this_rock_rules_begins f_this_rock_rules_deeds g_this_rock_rules_facts f_this_rock_rules_kinds f_this_rock_rules_lefts f_this_rock_rules_rights f_this_rock_rules_steps f_this_rock_trims) (fun r16 y17 y18 y19 g20 g21 => bd1 (f_X6_isHome p0 y19) (fun r23 => (if r23 = 0 then lt1 (v2 + (1 : Int32)) (fun (t26 : Int32) => (f_X8_when_L46 p0 x_this_rock_count x_this_rock_end f_this_rock_buoys f_this_rock_currents f_this_rock_kinds f_this_rock_lanes f_this_rock_lights x_this_rock_rules_count f_this_rock_rules_begins f_this_rock_rules_deeds f_this_rock_rules_kinds f_this_rock_rules_lefts f_this_rock_rules_rights f_this_rock_rules_steps f_this_rock_trims n) t26 g21 y17 y18 y19 g20) else some (y17 - (1 : Int32), g21, y17, y18, y19, g20)))) else some ((-3 : Int32), g_this_rock_rules_facts, y_this_trial_watch, y_this_trial_score, y_this_trial_home, g_this_trial_off))))
def f_X8_when (p0 : Int32) (x_this_rock_count : Int32) (x_this_rock_end : Int32) (f_this_rock_buoys : Nat → Int32) (f_this_rock_currents : Nat → Int32) (f_this_rock_kinds : Nat → Int32) (f_this_rock_lanes : Nat → Int32) (f_this_rock_lights : Nat → Int32) (x_this_rock_now_watch : Int32) (x_this_rock_now_score : Int32) (x_this_rock_now_home : Int32) (f_this_rock_now_off : Nat → Int32) (x_this_rock_rules_count : Int32) (f_this_rock_rules_begins : Nat → Int32) (f_this_rock_rules_deeds : Nat → Int32) (f_this_rock_rules_facts : Nat → Int32) (f_this_rock_rules_kinds : Nat → Int32) (f_this_rock_rules_lefts : Nat → Int32) (f_this_rock_rules_rights : Nat → Int32) (f_this_rock_rules_steps : Nat → Int32) (f_this_rock_trims : Nat → Int32) (x_this_trial_watch : Int32) (x_this_trial_score : Int32) (x_this_trial_home : Int32) (f_this_trial_off : Nat → Int32) : Option (Int32 × (Nat → Int32) × Int32 × Int32 × Int32 × (Nat → Int32)) := bd1 (f_X3_has p0 x_this_rock_count) (fun r1 => (if r1 = 0 then some ((-1 : Int32), f_this_rock_rules_facts, x_this_trial_watch, x_this_trial_score, x_this_trial_home, f_this_trial_off) else bd1 (f_X6_isHome p0 x_this_rock_now_home) (fun r4 => (if r4 = 0 then bd4 (f_X6_become x_this_rock_now_watch x_this_rock_now_score x_this_rock_now_home f_this_rock_now_off f_this_trial_off) (fun y7 y8 y9 g10 => f_X8_when_L46 p0 x_this_rock_count x_this_rock_end f_this_rock_buoys f_this_rock_currents f_this_rock_kinds f_this_rock_lanes f_this_rock_lights x_this_rock_rules_count f_this_rock_rules_begins f_this_rock_rules_deeds f_this_rock_rules_kinds f_this_rock_rules_lefts f_this_rock_rules_rights f_this_rock_rules_steps f_this_rock_trims 1000 (0 : Int32) f_this_rock_rules_facts y7 y8 y9 g10) else some ((-3 : Int32), f_this_rock_rules_facts, x_this_trial_watch, x_this_trial_score, x_this_trial_home, f_this_trial_off)))))
set_option maxRecDepth 100000 in
set_option maxHeartbeats 4000000 in
theorem c_X8_when {l : Launch} {G : Gt} {h_this h_this_rock h_this_kept h_this_trial h_this_planner h_this_reader h_this_draft h_this_host h_this_thing h_this_tape h_this_rows h_this_rock_kinds h_this_rock_trims h_this_rock_lanes h_this_rock_lights h_this_rock_currents h_this_rock_buoys h_this_rock_now h_this_rock_rules h_this_rock_reports h_this_rock_now_off h_this_rock_rules_kinds h_this_rock_rules_deeds h_this_rock_rules_begins h_this_rock_rules_steps h_this_rock_rules_lefts h_this_rock_rules_rights h_this_rock_rules_facts h_this_trial_off : Nat} {p0 : Int32} {x_this_tapeCount : Int32} {x_this_rowCount : Int32} {x_this_isKept : Int32} {x_this_rock_count : Int32} {x_this_rock_end : Int32} {x_this_rock_z : Int32} {f_this_rock_buoys : Nat → Int32} {f_this_rock_currents : Nat → Int32} {f_this_rock_kinds : Nat → Int32} {f_this_rock_lanes : Nat → Int32} {f_this_rock_lights : Nat → Int32} {x_this_rock_now_watch : Int32} {x_this_rock_now_score : Int32} {x_this_rock_now_home : Int32} {f_this_rock_now_off : Nat → Int32} {x_this_rock_rules_count : Int32} {x_this_rock_rules_size : Int32} {f_this_rock_rules_begins : Nat → Int32} {f_this_rock_rules_deeds : Nat → Int32} {f_this_rock_rules_facts : Nat → Int32} {f_this_rock_rules_kinds : Nat → Int32} {f_this_rock_rules_lefts : Nat → Int32} {f_this_rock_rules_rights : Nat → Int32} {f_this_rock_rules_steps : Nat → Int32} {f_this_rock_trims : Nat → Int32} {x_this_trial_watch : Int32} {x_this_trial_score : Int32} {x_this_trial_home : Int32} {f_this_trial_off : Nat → Int32} {r : Int32} {m_this_rock_rules_facts : Nat → Int32} {m_this_trial_watch : Int32} {m_this_trial_score : Int32} {m_this_trial_home : Int32} {m_this_trial_off : Nat → Int32} (hf : f_X8_when p0 x_this_rock_count x_this_rock_end f_this_rock_buoys f_this_rock_currents f_this_rock_kinds f_this_rock_lanes f_this_rock_lights x_this_rock_now_watch x_this_rock_now_score x_this_rock_now_home f_this_rock_now_off x_this_rock_rules_count f_this_rock_rules_begins f_this_rock_rules_deeds f_this_rock_rules_facts f_this_rock_rules_kinds f_this_rock_rules_lefts f_this_rock_rules_rights f_this_rock_rules_steps f_this_rock_trims x_this_trial_watch x_this_trial_score x_this_trial_home f_this_trial_off = some (r, m_this_rock_rules_facts, m_this_trial_watch, m_this_trial_score, m_this_trial_home, m_this_trial_off)) : mFi l G yX8_when cX8_when 3 .int 6 [.ref h_this, .int p0] [(h_this, ob 8 [.ref h_this_rock, .ref h_this_kept, .ref h_this_trial, .ref h_this_planner, .ref h_this_reader, .ref h_this_draft, .ref h_this_host, .ref h_this_thing, .ref h_this_tape, .ref h_this_rows, .int x_this_tapeCount, .int x_this_rowCount, .int x_this_isKept]), (h_this_rock, ob 3 [.ref h_this_rock_kinds, .ref h_this_rock_trims, .ref h_this_rock_lanes, .ref h_this_rock_lights, .ref h_this_rock_currents, .ref h_this_rock_buoys, .ref h_this_rock_now, .ref h_this_rock_rules, .ref h_this_rock_reports, .int x_this_rock_count, .int x_this_rock_end, .int x_this_rock_z]), (h_this_rock_buoys, ia G 6 f_this_rock_buoys), (h_this_rock_currents, ia G 6 f_this_rock_currents), (h_this_rock_kinds, ia G 6 f_this_rock_kinds), (h_this_rock_lanes, ia G 6 f_this_rock_lanes), (h_this_rock_lights, ia G 16 f_this_rock_lights), (h_this_rock_now, ob 6 [.ref h_this_rock_now_off, .int x_this_rock_now_watch, .int x_this_rock_now_score, .int x_this_rock_now_home]), (h_this_rock_now_off, ia G 6 f_this_rock_now_off), (h_this_rock_rules, ob 5 [.ref h_this_rock_rules_kinds, .ref h_this_rock_rules_deeds, .ref h_this_rock_rules_begins, .ref h_this_rock_rules_steps, .ref h_this_rock_rules_lefts, .ref h_this_rock_rules_rights, .ref h_this_rock_rules_facts, .int x_this_rock_rules_count, .int x_this_rock_rules_size]), (h_this_rock_rules_begins, ia G 9 f_this_rock_rules_begins), (h_this_rock_rules_deeds, ia G 8 f_this_rock_rules_deeds), (h_this_rock_rules_facts, ia G 5 f_this_rock_rules_facts), (h_this_rock_rules_kinds, ia G 8 f_this_rock_rules_kinds), (h_this_rock_rules_lefts, ia G 200 f_this_rock_rules_lefts), (h_this_rock_rules_rights, ia G 200 f_this_rock_rules_rights), (h_this_rock_rules_steps, ia G 200 f_this_rock_rules_steps), (h_this_rock_trims, ia G 6 f_this_rock_trims), (h_this_trial, ob 6 [.ref h_this_trial_off, .int x_this_trial_watch, .int x_this_trial_score, .int x_this_trial_home]), (h_this_trial_off, ia G 6 f_this_trial_off)] r [(h_this, ob 8 [.ref h_this_rock, .ref h_this_kept, .ref h_this_trial, .ref h_this_planner, .ref h_this_reader, .ref h_this_draft, .ref h_this_host, .ref h_this_thing, .ref h_this_tape, .ref h_this_rows, .int x_this_tapeCount, .int x_this_rowCount, .int x_this_isKept]), (h_this_rock, ob 3 [.ref h_this_rock_kinds, .ref h_this_rock_trims, .ref h_this_rock_lanes, .ref h_this_rock_lights, .ref h_this_rock_currents, .ref h_this_rock_buoys, .ref h_this_rock_now, .ref h_this_rock_rules, .ref h_this_rock_reports, .int x_this_rock_count, .int x_this_rock_end, .int x_this_rock_z]), (h_this_rock_buoys, ia G 6 f_this_rock_buoys), (h_this_rock_currents, ia G 6 f_this_rock_currents), (h_this_rock_kinds, ia G 6 f_this_rock_kinds), (h_this_rock_lanes, ia G 6 f_this_rock_lanes), (h_this_rock_lights, ia G 16 f_this_rock_lights), (h_this_rock_now, ob 6 [.ref h_this_rock_now_off, .int x_this_rock_now_watch, .int x_this_rock_now_score, .int x_this_rock_now_home]), (h_this_rock_now_off, ia G 6 f_this_rock_now_off), (h_this_rock_rules, ob 5 [.ref h_this_rock_rules_kinds, .ref h_this_rock_rules_deeds, .ref h_this_rock_rules_begins, .ref h_this_rock_rules_steps, .ref h_this_rock_rules_lefts, .ref h_this_rock_rules_rights, .ref h_this_rock_rules_facts, .int x_this_rock_rules_count, .int x_this_rock_rules_size]), (h_this_rock_rules_begins, ia G 9 f_this_rock_rules_begins), (h_this_rock_rules_deeds, ia G 8 f_this_rock_rules_deeds), (h_this_rock_rules_facts, ia G 5 m_this_rock_rules_facts), (h_this_rock_rules_kinds, ia G 8 f_this_rock_rules_kinds), (h_this_rock_rules_lefts, ia G 200 f_this_rock_rules_lefts), (h_this_rock_rules_rights, ia G 200 f_this_rock_rules_rights), (h_this_rock_rules_steps, ia G 200 f_this_rock_rules_steps), (h_this_rock_trims, ia G 6 f_this_rock_trims), (h_this_trial, ob 6 [.ref h_this_trial_off, .int m_this_trial_watch, .int m_this_trial_score, .int m_this_trial_home]), (h_this_trial_off, ia G 6 m_this_trial_off)] := by
  refine mFi.of (by decide +kernel) (Nat.le_of_ble_eq_true rfl) ?_
  intro p e s m below meth c A C hr hlk h ls hl
  obtain ⟨hx, hb, hml, hown, hts⟩ := id C
  replace hl : lv_has ls 3 [(0, .ref h_this), (1, .int p0)] := hl
  unfold f_X8_when at hf
  refine with_K G A 3 (fun K hK1 hK2 => ?_)
  have L46 : ∀ (n : Nat) (v2 : Int32) (g_this_rock_rules_facts : Nat → Int32) (y_this_trial_watch : Int32) (y_this_trial_score : Int32) (y_this_trial_home : Int32) (g_this_trial_off : Nat → Int32), f_X8_when_L46 p0 x_this_rock_count x_this_rock_end f_this_rock_buoys f_this_rock_currents f_this_rock_kinds f_this_rock_lanes f_this_rock_lights x_this_rock_rules_count f_this_rock_rules_begins f_this_rock_rules_deeds f_this_rock_rules_kinds f_this_rock_rules_lefts f_this_rock_rules_rights f_this_rock_rules_steps f_this_rock_trims n v2 g_this_rock_rules_facts y_this_trial_watch y_this_trial_score y_this_trial_home g_this_trial_off = some (r, m_this_rock_rules_facts, m_this_trial_watch, m_this_trial_score, m_this_trial_home, m_this_trial_off) → K 46 ([] : List Value) [(h_this, ob 8 [.ref h_this_rock, .ref h_this_kept, .ref h_this_trial, .ref h_this_planner, .ref h_this_reader, .ref h_this_draft, .ref h_this_host, .ref h_this_thing, .ref h_this_tape, .ref h_this_rows, .int x_this_tapeCount, .int x_this_rowCount, .int x_this_isKept]), (h_this_rock, ob 3 [.ref h_this_rock_kinds, .ref h_this_rock_trims, .ref h_this_rock_lanes, .ref h_this_rock_lights, .ref h_this_rock_currents, .ref h_this_rock_buoys, .ref h_this_rock_now, .ref h_this_rock_rules, .ref h_this_rock_reports, .int x_this_rock_count, .int x_this_rock_end, .int x_this_rock_z]), (h_this_rock_buoys, ia G 6 f_this_rock_buoys), (h_this_rock_currents, ia G 6 f_this_rock_currents), (h_this_rock_kinds, ia G 6 f_this_rock_kinds), (h_this_rock_lanes, ia G 6 f_this_rock_lanes), (h_this_rock_lights, ia G 16 f_this_rock_lights), (h_this_rock_now, ob 6 [.ref h_this_rock_now_off, .int x_this_rock_now_watch, .int x_this_rock_now_score, .int x_this_rock_now_home]), (h_this_rock_now_off, ia G 6 f_this_rock_now_off), (h_this_rock_rules, ob 5 [.ref h_this_rock_rules_kinds, .ref h_this_rock_rules_deeds, .ref h_this_rock_rules_begins, .ref h_this_rock_rules_steps, .ref h_this_rock_rules_lefts, .ref h_this_rock_rules_rights, .ref h_this_rock_rules_facts, .int x_this_rock_rules_count, .int x_this_rock_rules_size]), (h_this_rock_rules_begins, ia G 9 f_this_rock_rules_begins), (h_this_rock_rules_deeds, ia G 8 f_this_rock_rules_deeds), (h_this_rock_rules_facts, ia G 5 g_this_rock_rules_facts), (h_this_rock_rules_kinds, ia G 8 f_this_rock_rules_kinds), (h_this_rock_rules_lefts, ia G 200 f_this_rock_rules_lefts), (h_this_rock_rules_rights, ia G 200 f_this_rock_rules_rights), (h_this_rock_rules_steps, ia G 200 f_this_rock_rules_steps), (h_this_rock_trims, ia G 6 f_this_rock_trims), (h_this_trial, ob 6 [.ref h_this_trial_off, .int y_this_trial_watch, .int y_this_trial_score, .int y_this_trial_home]), (h_this_trial_off, ia G 6 g_this_trial_off)] [(0, .ref h_this), (1, .int p0), (2, .int v2)] := by
    intro n
    induction n with
    | zero =>
      intro v2 g_this_rock_rules_facts y_this_trial_watch y_this_trial_score y_this_trial_home g_this_trial_off hf
      replace hf : (none : Option _) = some _ := hf
      cases hf
    | succ n ih =>
      intro v2 g_this_rock_rules_facts y_this_trial_watch y_this_trial_score y_this_trial_home g_this_trial_off hf
      rw [f_X8_when_L46] at hf
      refine hK1 _ _ _ _ (fun H locs ls h hl => ?_)
      refine lv_iload_n hx hb dX8_when_46 rfl (lv_at hl 2 rfl) ?_
      refine lv_bipush (v := (16 : Int32)) hx hb dX8_when_47 rfl ?_
      refine lv_icmp_ge (tgt := 105) hx hb dX8_when_49 rfl (fun c12 => ?_) (fun c12 => ?_)
      · replace hf := ifp c12 hf
        refine lv_bipush (v := (-3 : Int32)) hx hb dX8_when_105 rfl ?_
        cases hf
        exact r_iret C h hr hlk rfl dX8_when_107
      · replace hf := ifn c12 hf
        refine lv_aload_n hx hb dX8_when_52 rfl (lv_at hl 0 rfl) ?_
        refine r_get C h fk_X8_10 0 rfl rfl dX8_when_53 ?_
        refine lv_aload_n hx hb dX8_when_56 rfl (lv_at hl 0 rfl) ?_
        refine r_get C h fk_X8_22 0 rfl rfl dX8_when_57 ?_
        replace hf := bd1_inv hf
        obtain ⟨r13, hc14, hf⟩ := hf
        refine r_ciV0 C h (c_X3_isOver hc14) mv_X8_159 rfl 1 rfl [18, 1] rfl rfl hl.1 rfl (Nat.le_of_ble_eq_true rfl) (rok (by decide)) dX8_when_60 (fun H locs h => ?_)
        refine lv_if_ne (tgt := 105) hx hb dX8_when_63 rfl (fun c15 => ?_) (fun c15 => ?_)
        · replace hf := ifn c15 hf
          refine lv_bipush (v := (-3 : Int32)) hx hb dX8_when_105 rfl ?_
          cases hf
          exact r_iret C h hr hlk rfl dX8_when_107
        · replace hf := ifp c15 hf
          refine lv_aload_n hx hb dX8_when_66 rfl (lv_at hl 0 rfl) ?_
          refine r_get C h fk_X8_10 0 rfl rfl dX8_when_67 ?_
          refine lv_aload_n hx hb dX8_when_70 rfl (lv_at hl 0 rfl) ?_
          refine r_get C h fk_X8_22 0 rfl rfl dX8_when_71 ?_
          replace hf := bd6_inv hf
          obtain ⟨r16, y17, y18, y19, g20, g21, hc22, hf⟩ := hf
          refine r_ciV (ws' := [(h_this, ob 8 [.ref h_this_rock, .ref h_this_kept, .ref h_this_trial, .ref h_this_planner, .ref h_this_reader, .ref h_this_draft, .ref h_this_host, .ref h_this_thing, .ref h_this_tape, .ref h_this_rows, .int x_this_tapeCount, .int x_this_rowCount, .int x_this_isKept]), (h_this_rock, ob 3 [.ref h_this_rock_kinds, .ref h_this_rock_trims, .ref h_this_rock_lanes, .ref h_this_rock_lights, .ref h_this_rock_currents, .ref h_this_rock_buoys, .ref h_this_rock_now, .ref h_this_rock_rules, .ref h_this_rock_reports, .int x_this_rock_count, .int x_this_rock_end, .int x_this_rock_z]), (h_this_rock_buoys, ia G 6 f_this_rock_buoys), (h_this_rock_currents, ia G 6 f_this_rock_currents), (h_this_rock_kinds, ia G 6 f_this_rock_kinds), (h_this_rock_lanes, ia G 6 f_this_rock_lanes), (h_this_rock_lights, ia G 16 f_this_rock_lights), (h_this_rock_now, ob 6 [.ref h_this_rock_now_off, .int x_this_rock_now_watch, .int x_this_rock_now_score, .int x_this_rock_now_home]), (h_this_rock_now_off, ia G 6 f_this_rock_now_off), (h_this_rock_rules, ob 5 [.ref h_this_rock_rules_kinds, .ref h_this_rock_rules_deeds, .ref h_this_rock_rules_begins, .ref h_this_rock_rules_steps, .ref h_this_rock_rules_lefts, .ref h_this_rock_rules_rights, .ref h_this_rock_rules_facts, .int x_this_rock_rules_count, .int x_this_rock_rules_size]), (h_this_rock_rules_begins, ia G 9 f_this_rock_rules_begins), (h_this_rock_rules_deeds, ia G 8 f_this_rock_rules_deeds), (h_this_rock_rules_facts, ia G 5 g21), (h_this_rock_rules_kinds, ia G 8 f_this_rock_rules_kinds), (h_this_rock_rules_lefts, ia G 200 f_this_rock_rules_lefts), (h_this_rock_rules_rights, ia G 200 f_this_rock_rules_rights), (h_this_rock_rules_steps, ia G 200 f_this_rock_rules_steps), (h_this_rock_trims, ia G 6 f_this_rock_trims), (h_this_trial, ob 6 [.ref h_this_trial_off, .int y17, .int y18, .int y19]), (h_this_trial_off, ia G 6 g20)]) C h (c_X3_passRest hc22) mv_X8_183 rfl 1 rfl [18, 19, 1, 2, 3, 4, 5, 6, 9, 10, 11, 12, 13, 14, 15, 16, 17] rfl rfl rfl rfl rfl hl.1 rfl (Nat.le_of_ble_eq_true rfl) (rok (by decide)) dX8_when_74 (fun H locs h => ?_)
          refine lv_pop hx hb dX8_when_77 rfl ?_
          refine lv_aload_n hx hb dX8_when_78 rfl (lv_at hl 0 rfl) ?_
          refine r_get C h fk_X8_22 0 rfl rfl dX8_when_79 ?_
          refine lv_iload_n hx hb dX8_when_82 rfl (lv_at hl 1 rfl) ?_
          replace hf := bd1_inv hf
          obtain ⟨r23, hc24, hf⟩ := hf
          refine r_ciV0 C h (c_X6_isHome hc24) mv_X8_109 rfl 18 rfl [18] rfl rfl hl.1 rfl (Nat.le_of_ble_eq_true rfl) (rok (by decide)) dX8_when_83 (fun H locs h => ?_)
          refine lv_if_eq (tgt := 99) hx hb dX8_when_86 rfl (fun c25 => ?_) (fun c25 => ?_)
          · replace hf := ifp c25 hf
            obtain ⟨t26, et26⟩ : ∃ y : Int32, y = v2 + (1 : Int32) := ⟨_, rfl⟩
            replace hf := lt1_inv et26 hf
            refine lv_iinc (v := t26) (lv' := [(2, .int t26), (0, .ref h_this), (1, .int p0)]) hx hb dX8_when_99 hl (k := 2) rfl (by rw [et26]; rfl) (by decide) rfl (fun ls hl => ?_)
            refine lv_goto (tgt := 46) hx hb dX8_when_102 rfl ?_
            exact hK2 _ _ _ _ (ih t26 g21 y17 y18 y19 g20 hf) _ _ _ h (lv_sub hl [1, 2, 0] rfl)
          · replace hf := ifn c25 hf
            refine lv_aload_n hx hb dX8_when_89 rfl (lv_at hl 0 rfl) ?_
            refine r_get C h fk_X8_22 0 rfl rfl dX8_when_90 ?_
            refine r_get C h fk_X8_147 18 rfl rfl dX8_when_93 ?_
            refine lv_iconst (v := (1 : Int32)) hx hb dX8_when_96 rfl ?_
            refine lv_isub hx hb dX8_when_97 ?_
            cases hf
            exact r_iret C h hr hlk rfl dX8_when_98
  refine lv_aload_n hx hb dX8_when_0 rfl (lv_at hl 0 rfl) ?_
  refine r_get C h fk_X8_10 0 rfl rfl dX8_when_1 ?_
  refine lv_iload_n hx hb dX8_when_4 rfl (lv_at hl 1 rfl) ?_
  replace hf := bd1_inv hf
  obtain ⟨r1, hc2, hf⟩ := hf
  refine r_ciV0 C h (c_X3_has hc2) mv_X8_90 rfl 1 rfl [1] rfl rfl hl.1 rfl (Nat.le_of_ble_eq_true rfl) (rok (by decide)) dX8_when_5 (fun H locs h => ?_)
  refine lv_if_ne (tgt := 13) hx hb dX8_when_8 rfl (fun c3 => ?_) (fun c3 => ?_)
  · replace hf := ifn c3 hf
    refine lv_aload_n hx hb dX8_when_13 rfl (lv_at hl 0 rfl) ?_
    refine r_get C h fk_X8_10 0 rfl rfl dX8_when_14 ?_
    refine r_get C h fk_X8_94 1 rfl rfl dX8_when_17 ?_
    refine lv_iload_n hx hb dX8_when_20 rfl (lv_at hl 1 rfl) ?_
    replace hf := bd1_inv hf
    obtain ⟨r4, hc5, hf⟩ := hf
    refine r_ciV0 C h (c_X6_isHome hc5) mv_X8_109 rfl 7 rfl [7] rfl rfl hl.1 rfl (Nat.le_of_ble_eq_true rfl) (rok (by decide)) dX8_when_21 (fun H locs h => ?_)
    refine lv_if_eq (tgt := 30) hx hb dX8_when_24 rfl (fun c6 => ?_) (fun c6 => ?_)
    · replace hf := ifp c6 hf
      refine lv_aload_n hx hb dX8_when_30 rfl (lv_at hl 0 rfl) ?_
      refine r_get C h fk_X8_22 0 rfl rfl dX8_when_31 ?_
      refine lv_aload_n hx hb dX8_when_34 rfl (lv_at hl 0 rfl) ?_
      refine r_get C h fk_X8_10 0 rfl rfl dX8_when_35 ?_
      refine r_get C h fk_X8_94 1 rfl rfl dX8_when_38 ?_
      replace hf := bd4_inv hf
      obtain ⟨y7, y8, y9, g10, hc11, hf⟩ := hf
      refine r_cvV (ws' := [(h_this, ob 8 [.ref h_this_rock, .ref h_this_kept, .ref h_this_trial, .ref h_this_planner, .ref h_this_reader, .ref h_this_draft, .ref h_this_host, .ref h_this_thing, .ref h_this_tape, .ref h_this_rows, .int x_this_tapeCount, .int x_this_rowCount, .int x_this_isKept]), (h_this_rock, ob 3 [.ref h_this_rock_kinds, .ref h_this_rock_trims, .ref h_this_rock_lanes, .ref h_this_rock_lights, .ref h_this_rock_currents, .ref h_this_rock_buoys, .ref h_this_rock_now, .ref h_this_rock_rules, .ref h_this_rock_reports, .int x_this_rock_count, .int x_this_rock_end, .int x_this_rock_z]), (h_this_rock_buoys, ia G 6 f_this_rock_buoys), (h_this_rock_currents, ia G 6 f_this_rock_currents), (h_this_rock_kinds, ia G 6 f_this_rock_kinds), (h_this_rock_lanes, ia G 6 f_this_rock_lanes), (h_this_rock_lights, ia G 16 f_this_rock_lights), (h_this_rock_now, ob 6 [.ref h_this_rock_now_off, .int x_this_rock_now_watch, .int x_this_rock_now_score, .int x_this_rock_now_home]), (h_this_rock_now_off, ia G 6 f_this_rock_now_off), (h_this_rock_rules, ob 5 [.ref h_this_rock_rules_kinds, .ref h_this_rock_rules_deeds, .ref h_this_rock_rules_begins, .ref h_this_rock_rules_steps, .ref h_this_rock_rules_lefts, .ref h_this_rock_rules_rights, .ref h_this_rock_rules_facts, .int x_this_rock_rules_count, .int x_this_rock_rules_size]), (h_this_rock_rules_begins, ia G 9 f_this_rock_rules_begins), (h_this_rock_rules_deeds, ia G 8 f_this_rock_rules_deeds), (h_this_rock_rules_facts, ia G 5 f_this_rock_rules_facts), (h_this_rock_rules_kinds, ia G 8 f_this_rock_rules_kinds), (h_this_rock_rules_lefts, ia G 200 f_this_rock_rules_lefts), (h_this_rock_rules_rights, ia G 200 f_this_rock_rules_rights), (h_this_rock_rules_steps, ia G 200 f_this_rock_rules_steps), (h_this_rock_trims, ia G 6 f_this_rock_trims), (h_this_trial, ob 6 [.ref h_this_trial_off, .int y7, .int y8, .int y9]), (h_this_trial_off, ia G 6 g10)]) C h (c_X6_become hc11) mv_X8_189 rfl 18 rfl [7, 8, 18, 19] rfl rfl rfl rfl rfl hl.1 rfl (Nat.le_of_ble_eq_true rfl) (rok (by decide)) dX8_when_41 (fun H locs h => ?_)
      refine lv_iconst (v := (0 : Int32)) hx hb dX8_when_44 rfl ?_
      refine lv_istore_n (lv' := [(2, .int (0 : Int32)), (0, .ref h_this), (1, .int p0)]) hx hb dX8_when_45 rfl hl (by decide) rfl (fun ls hl => ?_)
      exact hK2 _ _ _ _ (L46 1000 (0 : Int32) f_this_rock_rules_facts y7 y8 y9 g10 hf) _ _ _ h (lv_sub hl [1, 2, 0] rfl)
    · replace hf := ifn c6 hf
      refine lv_bipush (v := (-3 : Int32)) hx hb dX8_when_27 rfl ?_
      cases hf
      exact r_iret C h hr hlk rfl dX8_when_29
  · replace hf := ifp c3 hf
    refine lv_iconst (v := (-1 : Int32)) hx hb dX8_when_11 rfl ?_
    cases hf
    exact r_iret C h hr hlk rfl dX8_when_12
def f_X8_leastOfBest_trims_L14 (p1 : Int32) (p2 : Int32) (x_this_rock_count : Int32) (x_this_rock_end : Int32) (f_this_rock_buoys : Nat → Int32) (f_this_rock_currents : Nat → Int32) (f_this_rock_kinds : Nat → Int32) (f_this_rock_lanes : Nat → Int32) (f_this_rock_lights : Nat → Int32) (x_this_rock_now_watch : Int32) (x_this_rock_now_score : Int32) (x_this_rock_now_home : Int32) (f_this_rock_now_off : Nat → Int32) (x_this_rock_rules_count : Int32) (f_this_rock_rules_begins : Nat → Int32) (f_this_rock_rules_deeds : Nat → Int32) (f_this_rock_rules_kinds : Nat → Int32) (f_this_rock_rules_lefts : Nat → Int32) (f_this_rock_rules_rights : Nat → Int32) (f_this_rock_rules_steps : Nat → Int32) : Nat → Int32 → Int32 → Int32 → Int32 → (Nat → Int32) → (Nat → Int32) → Int32 → Int32 → Int32 → (Nat → Int32) → Option (Int32 × (Nat → Int32) × (Nat → Int32) × Int32 × Int32 × Int32 × (Nat → Int32))
  | 0, _, _, _, _, _, _, _, _, _, _ => none
  | n + 1, v4, v5, v6, v7, g_this_rock_rules_facts, g_this_rock_trims, y_this_trial_watch, y_this_trial_score, y_this_trial_home, g_this_trial_off => (if p2 < v7 then chkI p1 6 (some (v5, g_this_rock_rules_facts, upd g_this_rock_trims p1.toNatClampNeg v4, y_this_trial_watch, y_this_trial_score, y_this_trial_home, g_this_trial_off)) else chkI p1 6 (bd6 (f_X8_worthOfRest (16 : Int32) x_this_rock_count x_this_rock_end f_this_rock_buoys f_this_rock_currents f_this_rock_kinds f_this_rock_lanes f_this_rock_lights x_this_rock_now_watch x_this_rock_now_score x_this_rock_now_home f_this_rock_now_off x_this_rock_rules_count f_this_rock_rules_begins f_this_rock_rules_deeds g_this_rock_rules_facts f_this_rock_rules_kinds f_this_rock_rules_lefts f_this_rock_rules_rights f_this_rock_rules_steps (upd g_this_rock_trims p1.toNatClampNeg v7) g_this_trial_off) (fun r6 g7 y8 y9 y10 g11 => (if r6 ≤ v6 then lt1 (v7 + (1 : Int32)) (fun (t14 : Int32) => (f_X8_leastOfBest_trims_L14 p1 p2 x_this_rock_count x_this_rock_end f_this_rock_buoys f_this_rock_currents f_this_rock_kinds f_this_rock_lanes f_this_rock_lights x_this_rock_now_watch x_this_rock_now_score x_this_rock_now_home f_this_rock_now_off x_this_rock_rules_count f_this_rock_rules_begins f_this_rock_rules_deeds f_this_rock_rules_kinds f_this_rock_rules_lefts f_this_rock_rules_rights f_this_rock_rules_steps n) v4 v5 v6 t14 g7 (upd g_this_rock_trims p1.toNatClampNeg v7) y8 y9 y10 g11) else lt1 (v7 + (1 : Int32)) (fun (t15 : Int32) => (f_X8_leastOfBest_trims_L14 p1 p2 x_this_rock_count x_this_rock_end f_this_rock_buoys f_this_rock_currents f_this_rock_kinds f_this_rock_lanes f_this_rock_lights x_this_rock_now_watch x_this_rock_now_score x_this_rock_now_home f_this_rock_now_off x_this_rock_rules_count f_this_rock_rules_begins f_this_rock_rules_deeds f_this_rock_rules_kinds f_this_rock_rules_lefts f_this_rock_rules_rights f_this_rock_rules_steps n) v4 v7 r6 t15 g7 (upd g_this_rock_trims p1.toNatClampNeg v7) y8 y9 y10 g11)))))
def f_X8_leastOfBest_trims (p1 : Int32) (p2 : Int32) (x_this_rock_count : Int32) (x_this_rock_end : Int32) (f_this_rock_buoys : Nat → Int32) (f_this_rock_currents : Nat → Int32) (f_this_rock_kinds : Nat → Int32) (f_this_rock_lanes : Nat → Int32) (f_this_rock_lights : Nat → Int32) (x_this_rock_now_watch : Int32) (x_this_rock_now_score : Int32) (x_this_rock_now_home : Int32) (f_this_rock_now_off : Nat → Int32) (x_this_rock_rules_count : Int32) (f_this_rock_rules_begins : Nat → Int32) (f_this_rock_rules_deeds : Nat → Int32) (f_this_rock_rules_facts : Nat → Int32) (f_this_rock_rules_kinds : Nat → Int32) (f_this_rock_rules_lefts : Nat → Int32) (f_this_rock_rules_rights : Nat → Int32) (f_this_rock_rules_steps : Nat → Int32) (f_this_rock_trims : Nat → Int32) (x_this_trial_watch : Int32) (x_this_trial_score : Int32) (x_this_trial_home : Int32) (f_this_trial_off : Nat → Int32) : Option (Int32 × (Nat → Int32) × (Nat → Int32) × Int32 × Int32 × Int32 × (Nat → Int32)) := chkI p1 6 (lt1 (f_this_rock_trims p1.toNatClampNeg) (fun (t2 : Int32) => f_X8_leastOfBest_trims_L14 p1 p2 x_this_rock_count x_this_rock_end f_this_rock_buoys f_this_rock_currents f_this_rock_kinds f_this_rock_lanes f_this_rock_lights x_this_rock_now_watch x_this_rock_now_score x_this_rock_now_home f_this_rock_now_off x_this_rock_rules_count f_this_rock_rules_begins f_this_rock_rules_deeds f_this_rock_rules_kinds f_this_rock_rules_lefts f_this_rock_rules_rights f_this_rock_rules_steps 1000 t2 (0 : Int32) (-1 : Int32) (0 : Int32) f_this_rock_rules_facts f_this_rock_trims x_this_trial_watch x_this_trial_score x_this_trial_home f_this_trial_off))
set_option maxRecDepth 100000 in
set_option maxHeartbeats 4000000 in
theorem c_X8_leastOfBest_trims {l : Launch} {G : Gt} {h_this h_this_rock h_this_kept h_this_trial h_this_planner h_this_reader h_this_draft h_this_host h_this_thing h_this_tape h_this_rows h_this_rock_kinds h_this_rock_trims h_this_rock_lanes h_this_rock_lights h_this_rock_currents h_this_rock_buoys h_this_rock_now h_this_rock_rules h_this_rock_reports h_this_rock_now_off h_this_rock_rules_kinds h_this_rock_rules_deeds h_this_rock_rules_begins h_this_rock_rules_steps h_this_rock_rules_lefts h_this_rock_rules_rights h_this_rock_rules_facts h_this_trial_off : Nat} {p1 : Int32} {p2 : Int32} {x_this_tapeCount : Int32} {x_this_rowCount : Int32} {x_this_isKept : Int32} {x_this_rock_count : Int32} {x_this_rock_end : Int32} {x_this_rock_z : Int32} {f_this_rock_buoys : Nat → Int32} {f_this_rock_currents : Nat → Int32} {f_this_rock_kinds : Nat → Int32} {f_this_rock_lanes : Nat → Int32} {f_this_rock_lights : Nat → Int32} {x_this_rock_now_watch : Int32} {x_this_rock_now_score : Int32} {x_this_rock_now_home : Int32} {f_this_rock_now_off : Nat → Int32} {x_this_rock_rules_count : Int32} {x_this_rock_rules_size : Int32} {f_this_rock_rules_begins : Nat → Int32} {f_this_rock_rules_deeds : Nat → Int32} {f_this_rock_rules_facts : Nat → Int32} {f_this_rock_rules_kinds : Nat → Int32} {f_this_rock_rules_lefts : Nat → Int32} {f_this_rock_rules_rights : Nat → Int32} {f_this_rock_rules_steps : Nat → Int32} {f_this_rock_trims : Nat → Int32} {x_this_trial_watch : Int32} {x_this_trial_score : Int32} {x_this_trial_home : Int32} {f_this_trial_off : Nat → Int32} {r : Int32} {m_this_rock_rules_facts : Nat → Int32} {m_this_rock_trims : Nat → Int32} {m_this_trial_watch : Int32} {m_this_trial_score : Int32} {m_this_trial_home : Int32} {m_this_trial_off : Nat → Int32} (hf : f_X8_leastOfBest_trims p1 p2 x_this_rock_count x_this_rock_end f_this_rock_buoys f_this_rock_currents f_this_rock_kinds f_this_rock_lanes f_this_rock_lights x_this_rock_now_watch x_this_rock_now_score x_this_rock_now_home f_this_rock_now_off x_this_rock_rules_count f_this_rock_rules_begins f_this_rock_rules_deeds f_this_rock_rules_facts f_this_rock_rules_kinds f_this_rock_rules_lefts f_this_rock_rules_rights f_this_rock_rules_steps f_this_rock_trims x_this_trial_watch x_this_trial_score x_this_trial_home f_this_trial_off = some (r, m_this_rock_rules_facts, m_this_rock_trims, m_this_trial_watch, m_this_trial_score, m_this_trial_home, m_this_trial_off)) : mFi l G yX8_leastOfBest cX8_leastOfBest 9 .int 7 [.ref h_this, .ref h_this_rock_trims, .int p1, .int p2] [(h_this, ob 8 [.ref h_this_rock, .ref h_this_kept, .ref h_this_trial, .ref h_this_planner, .ref h_this_reader, .ref h_this_draft, .ref h_this_host, .ref h_this_thing, .ref h_this_tape, .ref h_this_rows, .int x_this_tapeCount, .int x_this_rowCount, .int x_this_isKept]), (h_this_rock, ob 3 [.ref h_this_rock_kinds, .ref h_this_rock_trims, .ref h_this_rock_lanes, .ref h_this_rock_lights, .ref h_this_rock_currents, .ref h_this_rock_buoys, .ref h_this_rock_now, .ref h_this_rock_rules, .ref h_this_rock_reports, .int x_this_rock_count, .int x_this_rock_end, .int x_this_rock_z]), (h_this_rock_buoys, ia G 6 f_this_rock_buoys), (h_this_rock_currents, ia G 6 f_this_rock_currents), (h_this_rock_kinds, ia G 6 f_this_rock_kinds), (h_this_rock_lanes, ia G 6 f_this_rock_lanes), (h_this_rock_lights, ia G 16 f_this_rock_lights), (h_this_rock_now, ob 6 [.ref h_this_rock_now_off, .int x_this_rock_now_watch, .int x_this_rock_now_score, .int x_this_rock_now_home]), (h_this_rock_now_off, ia G 6 f_this_rock_now_off), (h_this_rock_rules, ob 5 [.ref h_this_rock_rules_kinds, .ref h_this_rock_rules_deeds, .ref h_this_rock_rules_begins, .ref h_this_rock_rules_steps, .ref h_this_rock_rules_lefts, .ref h_this_rock_rules_rights, .ref h_this_rock_rules_facts, .int x_this_rock_rules_count, .int x_this_rock_rules_size]), (h_this_rock_rules_begins, ia G 9 f_this_rock_rules_begins), (h_this_rock_rules_deeds, ia G 8 f_this_rock_rules_deeds), (h_this_rock_rules_facts, ia G 5 f_this_rock_rules_facts), (h_this_rock_rules_kinds, ia G 8 f_this_rock_rules_kinds), (h_this_rock_rules_lefts, ia G 200 f_this_rock_rules_lefts), (h_this_rock_rules_rights, ia G 200 f_this_rock_rules_rights), (h_this_rock_rules_steps, ia G 200 f_this_rock_rules_steps), (h_this_rock_trims, ia G 6 f_this_rock_trims), (h_this_trial, ob 6 [.ref h_this_trial_off, .int x_this_trial_watch, .int x_this_trial_score, .int x_this_trial_home]), (h_this_trial_off, ia G 6 f_this_trial_off)] r [(h_this, ob 8 [.ref h_this_rock, .ref h_this_kept, .ref h_this_trial, .ref h_this_planner, .ref h_this_reader, .ref h_this_draft, .ref h_this_host, .ref h_this_thing, .ref h_this_tape, .ref h_this_rows, .int x_this_tapeCount, .int x_this_rowCount, .int x_this_isKept]), (h_this_rock, ob 3 [.ref h_this_rock_kinds, .ref h_this_rock_trims, .ref h_this_rock_lanes, .ref h_this_rock_lights, .ref h_this_rock_currents, .ref h_this_rock_buoys, .ref h_this_rock_now, .ref h_this_rock_rules, .ref h_this_rock_reports, .int x_this_rock_count, .int x_this_rock_end, .int x_this_rock_z]), (h_this_rock_buoys, ia G 6 f_this_rock_buoys), (h_this_rock_currents, ia G 6 f_this_rock_currents), (h_this_rock_kinds, ia G 6 f_this_rock_kinds), (h_this_rock_lanes, ia G 6 f_this_rock_lanes), (h_this_rock_lights, ia G 16 f_this_rock_lights), (h_this_rock_now, ob 6 [.ref h_this_rock_now_off, .int x_this_rock_now_watch, .int x_this_rock_now_score, .int x_this_rock_now_home]), (h_this_rock_now_off, ia G 6 f_this_rock_now_off), (h_this_rock_rules, ob 5 [.ref h_this_rock_rules_kinds, .ref h_this_rock_rules_deeds, .ref h_this_rock_rules_begins, .ref h_this_rock_rules_steps, .ref h_this_rock_rules_lefts, .ref h_this_rock_rules_rights, .ref h_this_rock_rules_facts, .int x_this_rock_rules_count, .int x_this_rock_rules_size]), (h_this_rock_rules_begins, ia G 9 f_this_rock_rules_begins), (h_this_rock_rules_deeds, ia G 8 f_this_rock_rules_deeds), (h_this_rock_rules_facts, ia G 5 m_this_rock_rules_facts), (h_this_rock_rules_kinds, ia G 8 f_this_rock_rules_kinds), (h_this_rock_rules_lefts, ia G 200 f_this_rock_rules_lefts), (h_this_rock_rules_rights, ia G 200 f_this_rock_rules_rights), (h_this_rock_rules_steps, ia G 200 f_this_rock_rules_steps), (h_this_rock_trims, ia G 6 m_this_rock_trims), (h_this_trial, ob 6 [.ref h_this_trial_off, .int m_this_trial_watch, .int m_this_trial_score, .int m_this_trial_home]), (h_this_trial_off, ia G 6 m_this_trial_off)] := by
  refine mFi.of (by decide +kernel) (Nat.le_of_ble_eq_true rfl) ?_
  intro p e s m below meth c A C hr hlk h ls hl
  obtain ⟨hx, hb, hml, hown, hts⟩ := id C
  replace hl : lv_has ls 9 [(0, .ref h_this), (1, .ref h_this_rock_trims), (2, .int p1), (3, .int p2)] := hl
  unfold f_X8_leastOfBest_trims at hf
  refine with_K G A 9 (fun K hK1 hK2 => ?_)
  have L14 : ∀ (n : Nat) (v4 : Int32) (v5 : Int32) (v6 : Int32) (v7 : Int32) (g_this_rock_rules_facts : Nat → Int32) (g_this_rock_trims : Nat → Int32) (y_this_trial_watch : Int32) (y_this_trial_score : Int32) (y_this_trial_home : Int32) (g_this_trial_off : Nat → Int32), f_X8_leastOfBest_trims_L14 p1 p2 x_this_rock_count x_this_rock_end f_this_rock_buoys f_this_rock_currents f_this_rock_kinds f_this_rock_lanes f_this_rock_lights x_this_rock_now_watch x_this_rock_now_score x_this_rock_now_home f_this_rock_now_off x_this_rock_rules_count f_this_rock_rules_begins f_this_rock_rules_deeds f_this_rock_rules_kinds f_this_rock_rules_lefts f_this_rock_rules_rights f_this_rock_rules_steps n v4 v5 v6 v7 g_this_rock_rules_facts g_this_rock_trims y_this_trial_watch y_this_trial_score y_this_trial_home g_this_trial_off = some (r, m_this_rock_rules_facts, m_this_rock_trims, m_this_trial_watch, m_this_trial_score, m_this_trial_home, m_this_trial_off) → K 14 ([] : List Value) [(h_this, ob 8 [.ref h_this_rock, .ref h_this_kept, .ref h_this_trial, .ref h_this_planner, .ref h_this_reader, .ref h_this_draft, .ref h_this_host, .ref h_this_thing, .ref h_this_tape, .ref h_this_rows, .int x_this_tapeCount, .int x_this_rowCount, .int x_this_isKept]), (h_this_rock, ob 3 [.ref h_this_rock_kinds, .ref h_this_rock_trims, .ref h_this_rock_lanes, .ref h_this_rock_lights, .ref h_this_rock_currents, .ref h_this_rock_buoys, .ref h_this_rock_now, .ref h_this_rock_rules, .ref h_this_rock_reports, .int x_this_rock_count, .int x_this_rock_end, .int x_this_rock_z]), (h_this_rock_buoys, ia G 6 f_this_rock_buoys), (h_this_rock_currents, ia G 6 f_this_rock_currents), (h_this_rock_kinds, ia G 6 f_this_rock_kinds), (h_this_rock_lanes, ia G 6 f_this_rock_lanes), (h_this_rock_lights, ia G 16 f_this_rock_lights), (h_this_rock_now, ob 6 [.ref h_this_rock_now_off, .int x_this_rock_now_watch, .int x_this_rock_now_score, .int x_this_rock_now_home]), (h_this_rock_now_off, ia G 6 f_this_rock_now_off), (h_this_rock_rules, ob 5 [.ref h_this_rock_rules_kinds, .ref h_this_rock_rules_deeds, .ref h_this_rock_rules_begins, .ref h_this_rock_rules_steps, .ref h_this_rock_rules_lefts, .ref h_this_rock_rules_rights, .ref h_this_rock_rules_facts, .int x_this_rock_rules_count, .int x_this_rock_rules_size]), (h_this_rock_rules_begins, ia G 9 f_this_rock_rules_begins), (h_this_rock_rules_deeds, ia G 8 f_this_rock_rules_deeds), (h_this_rock_rules_facts, ia G 5 g_this_rock_rules_facts), (h_this_rock_rules_kinds, ia G 8 f_this_rock_rules_kinds), (h_this_rock_rules_lefts, ia G 200 f_this_rock_rules_lefts), (h_this_rock_rules_rights, ia G 200 f_this_rock_rules_rights), (h_this_rock_rules_steps, ia G 200 f_this_rock_rules_steps), (h_this_rock_trims, ia G 6 g_this_rock_trims), (h_this_trial, ob 6 [.ref h_this_trial_off, .int y_this_trial_watch, .int y_this_trial_score, .int y_this_trial_home]), (h_this_trial_off, ia G 6 g_this_trial_off)] [(0, .ref h_this), (1, .ref h_this_rock_trims), (2, .int p1), (3, .int p2), (4, .int v4), (5, .int v5), (6, .int v6), (7, .int v7)] := by
    intro n
    induction n with
    | zero =>
      intro v4 v5 v6 v7 g_this_rock_rules_facts g_this_rock_trims y_this_trial_watch y_this_trial_score y_this_trial_home g_this_trial_off hf
      replace hf : (none : Option _) = some _ := hf
      cases hf
    | succ n ih =>
      intro v4 v5 v6 v7 g_this_rock_rules_facts g_this_rock_trims y_this_trial_watch y_this_trial_score y_this_trial_home g_this_trial_off hf
      rw [f_X8_leastOfBest_trims_L14] at hf
      refine hK1 _ _ _ _ (fun H locs ls h hl => ?_)
      refine lv_iload hx hb dX8_leastOfBest_14 (lv_at hl 7 rfl) ?_
      refine lv_iload_n hx hb dX8_leastOfBest_16 rfl (lv_at hl 3 rfl) ?_
      refine lv_icmp_gt (tgt := 54) hx hb dX8_leastOfBest_17 rfl (fun c3 => ?_) (fun c3 => ?_)
      · replace hf := ifp c3 hf
        refine lv_aload_n hx hb dX8_leastOfBest_54 rfl (lv_at hl 1 rfl) ?_
        refine lv_iload_n hx hb dX8_leastOfBest_55 rfl (lv_at hl 2 rfl) ?_
        refine lv_iload hx hb dX8_leastOfBest_56 (lv_at hl 4 rfl) ?_
        replace hf := chkI_inv hf
        obtain ⟨hi4, hf⟩ := hf
        refine r_iast (ws' := [(h_this, ob 8 [.ref h_this_rock, .ref h_this_kept, .ref h_this_trial, .ref h_this_planner, .ref h_this_reader, .ref h_this_draft, .ref h_this_host, .ref h_this_thing, .ref h_this_tape, .ref h_this_rows, .int x_this_tapeCount, .int x_this_rowCount, .int x_this_isKept]), (h_this_rock, ob 3 [.ref h_this_rock_kinds, .ref h_this_rock_trims, .ref h_this_rock_lanes, .ref h_this_rock_lights, .ref h_this_rock_currents, .ref h_this_rock_buoys, .ref h_this_rock_now, .ref h_this_rock_rules, .ref h_this_rock_reports, .int x_this_rock_count, .int x_this_rock_end, .int x_this_rock_z]), (h_this_rock_buoys, ia G 6 f_this_rock_buoys), (h_this_rock_currents, ia G 6 f_this_rock_currents), (h_this_rock_kinds, ia G 6 f_this_rock_kinds), (h_this_rock_lanes, ia G 6 f_this_rock_lanes), (h_this_rock_lights, ia G 16 f_this_rock_lights), (h_this_rock_now, ob 6 [.ref h_this_rock_now_off, .int x_this_rock_now_watch, .int x_this_rock_now_score, .int x_this_rock_now_home]), (h_this_rock_now_off, ia G 6 f_this_rock_now_off), (h_this_rock_rules, ob 5 [.ref h_this_rock_rules_kinds, .ref h_this_rock_rules_deeds, .ref h_this_rock_rules_begins, .ref h_this_rock_rules_steps, .ref h_this_rock_rules_lefts, .ref h_this_rock_rules_rights, .ref h_this_rock_rules_facts, .int x_this_rock_rules_count, .int x_this_rock_rules_size]), (h_this_rock_rules_begins, ia G 9 f_this_rock_rules_begins), (h_this_rock_rules_deeds, ia G 8 f_this_rock_rules_deeds), (h_this_rock_rules_facts, ia G 5 g_this_rock_rules_facts), (h_this_rock_rules_kinds, ia G 8 f_this_rock_rules_kinds), (h_this_rock_rules_lefts, ia G 200 f_this_rock_rules_lefts), (h_this_rock_rules_rights, ia G 200 f_this_rock_rules_rights), (h_this_rock_rules_steps, ia G 200 f_this_rock_rules_steps), (h_this_rock_trims, ia G 6 (upd g_this_rock_trims p1.toNatClampNeg v4)), (h_this_trial, ob 6 [.ref h_this_trial_off, .int y_this_trial_watch, .int y_this_trial_score, .int y_this_trial_home]), (h_this_trial_off, ia G 6 g_this_trial_off)]) C h 17 rfl hi4 dX8_leastOfBest_58 rfl (fun H locs h => ?_)
        refine lv_iload hx hb dX8_leastOfBest_59 (lv_at hl 5 rfl) ?_
        cases hf
        exact r_iret C h hr hlk rfl dX8_leastOfBest_61
      · replace hf := ifn c3 hf
        refine lv_aload_n hx hb dX8_leastOfBest_20 rfl (lv_at hl 1 rfl) ?_
        refine lv_iload_n hx hb dX8_leastOfBest_21 rfl (lv_at hl 2 rfl) ?_
        refine lv_iload hx hb dX8_leastOfBest_22 (lv_at hl 7 rfl) ?_
        replace hf := chkI_inv hf
        obtain ⟨hi5, hf⟩ := hf
        refine r_iast (ws' := [(h_this, ob 8 [.ref h_this_rock, .ref h_this_kept, .ref h_this_trial, .ref h_this_planner, .ref h_this_reader, .ref h_this_draft, .ref h_this_host, .ref h_this_thing, .ref h_this_tape, .ref h_this_rows, .int x_this_tapeCount, .int x_this_rowCount, .int x_this_isKept]), (h_this_rock, ob 3 [.ref h_this_rock_kinds, .ref h_this_rock_trims, .ref h_this_rock_lanes, .ref h_this_rock_lights, .ref h_this_rock_currents, .ref h_this_rock_buoys, .ref h_this_rock_now, .ref h_this_rock_rules, .ref h_this_rock_reports, .int x_this_rock_count, .int x_this_rock_end, .int x_this_rock_z]), (h_this_rock_buoys, ia G 6 f_this_rock_buoys), (h_this_rock_currents, ia G 6 f_this_rock_currents), (h_this_rock_kinds, ia G 6 f_this_rock_kinds), (h_this_rock_lanes, ia G 6 f_this_rock_lanes), (h_this_rock_lights, ia G 16 f_this_rock_lights), (h_this_rock_now, ob 6 [.ref h_this_rock_now_off, .int x_this_rock_now_watch, .int x_this_rock_now_score, .int x_this_rock_now_home]), (h_this_rock_now_off, ia G 6 f_this_rock_now_off), (h_this_rock_rules, ob 5 [.ref h_this_rock_rules_kinds, .ref h_this_rock_rules_deeds, .ref h_this_rock_rules_begins, .ref h_this_rock_rules_steps, .ref h_this_rock_rules_lefts, .ref h_this_rock_rules_rights, .ref h_this_rock_rules_facts, .int x_this_rock_rules_count, .int x_this_rock_rules_size]), (h_this_rock_rules_begins, ia G 9 f_this_rock_rules_begins), (h_this_rock_rules_deeds, ia G 8 f_this_rock_rules_deeds), (h_this_rock_rules_facts, ia G 5 g_this_rock_rules_facts), (h_this_rock_rules_kinds, ia G 8 f_this_rock_rules_kinds), (h_this_rock_rules_lefts, ia G 200 f_this_rock_rules_lefts), (h_this_rock_rules_rights, ia G 200 f_this_rock_rules_rights), (h_this_rock_rules_steps, ia G 200 f_this_rock_rules_steps), (h_this_rock_trims, ia G 6 (upd g_this_rock_trims p1.toNatClampNeg v7)), (h_this_trial, ob 6 [.ref h_this_trial_off, .int y_this_trial_watch, .int y_this_trial_score, .int y_this_trial_home]), (h_this_trial_off, ia G 6 g_this_trial_off)]) C h 17 rfl hi5 dX8_leastOfBest_24 rfl (fun H locs h => ?_)
        refine lv_aload_n hx hb dX8_leastOfBest_25 rfl (lv_at hl 0 rfl) ?_
        refine lv_bipush (v := (16 : Int32)) hx hb dX8_leastOfBest_26 rfl ?_
        replace hf := bd6_inv hf
        obtain ⟨r6, g7, y8, y9, y10, g11, hc12, hf⟩ := hf
        refine r_ciV (ws' := [(h_this, ob 8 [.ref h_this_rock, .ref h_this_kept, .ref h_this_trial, .ref h_this_planner, .ref h_this_reader, .ref h_this_draft, .ref h_this_host, .ref h_this_thing, .ref h_this_tape, .ref h_this_rows, .int x_this_tapeCount, .int x_this_rowCount, .int x_this_isKept]), (h_this_rock, ob 3 [.ref h_this_rock_kinds, .ref h_this_rock_trims, .ref h_this_rock_lanes, .ref h_this_rock_lights, .ref h_this_rock_currents, .ref h_this_rock_buoys, .ref h_this_rock_now, .ref h_this_rock_rules, .ref h_this_rock_reports, .int x_this_rock_count, .int x_this_rock_end, .int x_this_rock_z]), (h_this_rock_buoys, ia G 6 f_this_rock_buoys), (h_this_rock_currents, ia G 6 f_this_rock_currents), (h_this_rock_kinds, ia G 6 f_this_rock_kinds), (h_this_rock_lanes, ia G 6 f_this_rock_lanes), (h_this_rock_lights, ia G 16 f_this_rock_lights), (h_this_rock_now, ob 6 [.ref h_this_rock_now_off, .int x_this_rock_now_watch, .int x_this_rock_now_score, .int x_this_rock_now_home]), (h_this_rock_now_off, ia G 6 f_this_rock_now_off), (h_this_rock_rules, ob 5 [.ref h_this_rock_rules_kinds, .ref h_this_rock_rules_deeds, .ref h_this_rock_rules_begins, .ref h_this_rock_rules_steps, .ref h_this_rock_rules_lefts, .ref h_this_rock_rules_rights, .ref h_this_rock_rules_facts, .int x_this_rock_rules_count, .int x_this_rock_rules_size]), (h_this_rock_rules_begins, ia G 9 f_this_rock_rules_begins), (h_this_rock_rules_deeds, ia G 8 f_this_rock_rules_deeds), (h_this_rock_rules_facts, ia G 5 g7), (h_this_rock_rules_kinds, ia G 8 f_this_rock_rules_kinds), (h_this_rock_rules_lefts, ia G 200 f_this_rock_rules_lefts), (h_this_rock_rules_rights, ia G 200 f_this_rock_rules_rights), (h_this_rock_rules_steps, ia G 200 f_this_rock_rules_steps), (h_this_rock_trims, ia G 6 (upd g_this_rock_trims p1.toNatClampNeg v7)), (h_this_trial, ob 6 [.ref h_this_trial_off, .int y8, .int y9, .int y10]), (h_this_trial_off, ia G 6 g11)]) C h (c_X8_worthOfRest hc12) mv_X8_186 rfl 0 rfl [0, 1, 2, 3, 4, 5, 6, 7, 8, 9, 10, 11, 12, 13, 14, 15, 16, 17, 18, 19] rfl rfl rfl rfl rfl hl.1 rfl (Nat.le_of_ble_eq_true rfl) (rok (by decide)) dX8_leastOfBest_28 (fun H locs h => ?_)
        refine lv_istore (lv' := [(8, .int r6), (0, .ref h_this), (1, .ref h_this_rock_trims), (2, .int p1), (3, .int p2), (4, .int v4), (5, .int v5), (6, .int v6), (7, .int v7)]) hx hb dX8_leastOfBest_31 hl (by decide) rfl (fun ls hl => ?_)
        refine lv_iload hx hb dX8_leastOfBest_33 (lv_at hl 0 rfl) ?_
        refine lv_iload hx hb dX8_leastOfBest_35 (lv_at hl 7 rfl) ?_
        refine lv_icmp_le (tgt := 48) hx hb dX8_leastOfBest_37 rfl (fun c13 => ?_) (fun c13 => ?_)
        · replace hf := ifp c13 hf
          obtain ⟨t14, et14⟩ : ∃ y : Int32, y = v7 + (1 : Int32) := ⟨_, rfl⟩
          replace hf := lt1_inv et14 hf
          refine lv_iinc (v := t14) (lv' := [(7, .int t14), (8, .int r6), (0, .ref h_this), (1, .ref h_this_rock_trims), (2, .int p1), (3, .int p2), (4, .int v4), (5, .int v5), (6, .int v6)]) hx hb dX8_leastOfBest_48 hl (k := 8) rfl (by rw [et14]; rfl) (by decide) rfl (fun ls hl => ?_)
          refine lv_goto (tgt := 14) hx hb dX8_leastOfBest_51 rfl ?_
          exact hK2 _ _ _ _ (ih v4 v5 v6 t14 g7 (upd g_this_rock_trims p1.toNatClampNeg v7) y8 y9 y10 g11 hf) _ _ _ h (lv_sub hl [2, 3, 4, 5, 6, 7, 8, 0] rfl)
        · replace hf := ifn c13 hf
          refine lv_iload hx hb dX8_leastOfBest_40 (lv_at hl 0 rfl) ?_
          refine lv_istore (lv' := [(6, .int r6), (8, .int r6), (0, .ref h_this), (1, .ref h_this_rock_trims), (2, .int p1), (3, .int p2), (4, .int v4), (5, .int v5), (7, .int v7)]) hx hb dX8_leastOfBest_42 hl (by decide) rfl (fun ls hl => ?_)
          refine lv_iload hx hb dX8_leastOfBest_44 (lv_at hl 8 rfl) ?_
          refine lv_istore (lv' := [(5, .int v7), (6, .int r6), (8, .int r6), (0, .ref h_this), (1, .ref h_this_rock_trims), (2, .int p1), (3, .int p2), (4, .int v4), (7, .int v7)]) hx hb dX8_leastOfBest_46 hl (by decide) rfl (fun ls hl => ?_)
          obtain ⟨t15, et15⟩ : ∃ y : Int32, y = v7 + (1 : Int32) := ⟨_, rfl⟩
          replace hf := lt1_inv et15 hf
          refine lv_iinc (v := t15) (lv' := [(7, .int t15), (5, .int v7), (6, .int r6), (8, .int r6), (0, .ref h_this), (1, .ref h_this_rock_trims), (2, .int p1), (3, .int p2), (4, .int v4)]) hx hb dX8_leastOfBest_48 hl (k := 8) rfl (by rw [et15]; rfl) (by decide) rfl (fun ls hl => ?_)
          refine lv_goto (tgt := 14) hx hb dX8_leastOfBest_51 rfl ?_
          exact hK2 _ _ _ _ (ih v4 v7 r6 t15 g7 (upd g_this_rock_trims p1.toNatClampNeg v7) y8 y9 y10 g11 hf) _ _ _ h (lv_sub hl [4, 5, 6, 7, 8, 1, 2, 0] rfl)
  refine lv_aload_n hx hb dX8_leastOfBest_0 rfl (lv_at hl 1 rfl) ?_
  refine lv_iload_n hx hb dX8_leastOfBest_1 rfl (lv_at hl 2 rfl) ?_
  replace hf := chkI_inv hf
  obtain ⟨hi1, hf⟩ := hf
  refine r_iald C h 17 rfl hi1 dX8_leastOfBest_2 ?_
  refine lv_topi (fun t2 et2 => ?_)
  replace hf := lt1_inv et2 hf
  refine lv_istore (lv' := [(4, .int t2), (0, .ref h_this), (1, .ref h_this_rock_trims), (2, .int p1), (3, .int p2)]) hx hb dX8_leastOfBest_3 hl (by decide) rfl (fun ls hl => ?_)
  refine lv_iconst (v := (0 : Int32)) hx hb dX8_leastOfBest_5 rfl ?_
  refine lv_istore (lv' := [(5, .int (0 : Int32)), (4, .int t2), (0, .ref h_this), (1, .ref h_this_rock_trims), (2, .int p1), (3, .int p2)]) hx hb dX8_leastOfBest_6 hl (by decide) rfl (fun ls hl => ?_)
  refine lv_iconst (v := (-1 : Int32)) hx hb dX8_leastOfBest_8 rfl ?_
  refine lv_istore (lv' := [(6, .int (-1 : Int32)), (5, .int (0 : Int32)), (4, .int t2), (0, .ref h_this), (1, .ref h_this_rock_trims), (2, .int p1), (3, .int p2)]) hx hb dX8_leastOfBest_9 hl (by decide) rfl (fun ls hl => ?_)
  refine lv_iconst (v := (0 : Int32)) hx hb dX8_leastOfBest_11 rfl ?_
  refine lv_istore (lv' := [(7, .int (0 : Int32)), (6, .int (-1 : Int32)), (5, .int (0 : Int32)), (4, .int t2), (0, .ref h_this), (1, .ref h_this_rock_trims), (2, .int p1), (3, .int p2)]) hx hb dX8_leastOfBest_12 hl (by decide) rfl (fun ls hl => ?_)
  exact hK2 _ _ _ _ (L14 1000 t2 (0 : Int32) (-1 : Int32) (0 : Int32) f_this_rock_rules_facts f_this_rock_trims x_this_trial_watch x_this_trial_score x_this_trial_home f_this_trial_off hf) _ _ _ h (lv_sub hl [4, 5, 6, 7, 3, 2, 1, 0] rfl)
def f_X8_leastOfBest_lanes_L14 (p1 : Int32) (p2 : Int32) (x_this_rock_count : Int32) (x_this_rock_end : Int32) (f_this_rock_buoys : Nat → Int32) (f_this_rock_currents : Nat → Int32) (f_this_rock_kinds : Nat → Int32) (f_this_rock_lights : Nat → Int32) (x_this_rock_now_watch : Int32) (x_this_rock_now_score : Int32) (x_this_rock_now_home : Int32) (f_this_rock_now_off : Nat → Int32) (x_this_rock_rules_count : Int32) (f_this_rock_rules_begins : Nat → Int32) (f_this_rock_rules_deeds : Nat → Int32) (f_this_rock_rules_kinds : Nat → Int32) (f_this_rock_rules_lefts : Nat → Int32) (f_this_rock_rules_rights : Nat → Int32) (f_this_rock_rules_steps : Nat → Int32) (f_this_rock_trims : Nat → Int32) : Nat → Int32 → Int32 → Int32 → Int32 → (Nat → Int32) → (Nat → Int32) → Int32 → Int32 → Int32 → (Nat → Int32) → Option (Int32 × (Nat → Int32) × (Nat → Int32) × Int32 × Int32 × Int32 × (Nat → Int32))
  | 0, _, _, _, _, _, _, _, _, _, _ => none
  | n + 1, v4, v5, v6, v7, g_this_rock_lanes, g_this_rock_rules_facts, y_this_trial_watch, y_this_trial_score, y_this_trial_home, g_this_trial_off => (if p2 < v7 then chkI p1 6 (some (v5, upd g_this_rock_lanes p1.toNatClampNeg v4, g_this_rock_rules_facts, y_this_trial_watch, y_this_trial_score, y_this_trial_home, g_this_trial_off)) else chkI p1 6 (bd6 (f_X8_worthOfRest (16 : Int32) x_this_rock_count x_this_rock_end f_this_rock_buoys f_this_rock_currents f_this_rock_kinds (upd g_this_rock_lanes p1.toNatClampNeg v7) f_this_rock_lights x_this_rock_now_watch x_this_rock_now_score x_this_rock_now_home f_this_rock_now_off x_this_rock_rules_count f_this_rock_rules_begins f_this_rock_rules_deeds g_this_rock_rules_facts f_this_rock_rules_kinds f_this_rock_rules_lefts f_this_rock_rules_rights f_this_rock_rules_steps f_this_rock_trims g_this_trial_off) (fun r6 g7 y8 y9 y10 g11 => (if r6 ≤ v6 then lt1 (v7 + (1 : Int32)) (fun (t14 : Int32) => (f_X8_leastOfBest_lanes_L14 p1 p2 x_this_rock_count x_this_rock_end f_this_rock_buoys f_this_rock_currents f_this_rock_kinds f_this_rock_lights x_this_rock_now_watch x_this_rock_now_score x_this_rock_now_home f_this_rock_now_off x_this_rock_rules_count f_this_rock_rules_begins f_this_rock_rules_deeds f_this_rock_rules_kinds f_this_rock_rules_lefts f_this_rock_rules_rights f_this_rock_rules_steps f_this_rock_trims n) v4 v5 v6 t14 (upd g_this_rock_lanes p1.toNatClampNeg v7) g7 y8 y9 y10 g11) else lt1 (v7 + (1 : Int32)) (fun (t15 : Int32) => (f_X8_leastOfBest_lanes_L14 p1 p2 x_this_rock_count x_this_rock_end f_this_rock_buoys f_this_rock_currents f_this_rock_kinds f_this_rock_lights x_this_rock_now_watch x_this_rock_now_score x_this_rock_now_home f_this_rock_now_off x_this_rock_rules_count f_this_rock_rules_begins f_this_rock_rules_deeds f_this_rock_rules_kinds f_this_rock_rules_lefts f_this_rock_rules_rights f_this_rock_rules_steps f_this_rock_trims n) v4 v7 r6 t15 (upd g_this_rock_lanes p1.toNatClampNeg v7) g7 y8 y9 y10 g11)))))
def f_X8_leastOfBest_lanes (p1 : Int32) (p2 : Int32) (x_this_rock_count : Int32) (x_this_rock_end : Int32) (f_this_rock_buoys : Nat → Int32) (f_this_rock_currents : Nat → Int32) (f_this_rock_kinds : Nat → Int32) (f_this_rock_lanes : Nat → Int32) (f_this_rock_lights : Nat → Int32) (x_this_rock_now_watch : Int32) (x_this_rock_now_score : Int32) (x_this_rock_now_home : Int32) (f_this_rock_now_off : Nat → Int32) (x_this_rock_rules_count : Int32) (f_this_rock_rules_begins : Nat → Int32) (f_this_rock_rules_deeds : Nat → Int32) (f_this_rock_rules_facts : Nat → Int32) (f_this_rock_rules_kinds : Nat → Int32) (f_this_rock_rules_lefts : Nat → Int32) (f_this_rock_rules_rights : Nat → Int32) (f_this_rock_rules_steps : Nat → Int32) (f_this_rock_trims : Nat → Int32) (x_this_trial_watch : Int32) (x_this_trial_score : Int32) (x_this_trial_home : Int32) (f_this_trial_off : Nat → Int32) : Option (Int32 × (Nat → Int32) × (Nat → Int32) × Int32 × Int32 × Int32 × (Nat → Int32)) := chkI p1 6 (lt1 (f_this_rock_lanes p1.toNatClampNeg) (fun (t2 : Int32) => f_X8_leastOfBest_lanes_L14 p1 p2 x_this_rock_count x_this_rock_end f_this_rock_buoys f_this_rock_currents f_this_rock_kinds f_this_rock_lights x_this_rock_now_watch x_this_rock_now_score x_this_rock_now_home f_this_rock_now_off x_this_rock_rules_count f_this_rock_rules_begins f_this_rock_rules_deeds f_this_rock_rules_kinds f_this_rock_rules_lefts f_this_rock_rules_rights f_this_rock_rules_steps f_this_rock_trims 1000 t2 (0 : Int32) (-1 : Int32) (0 : Int32) f_this_rock_lanes f_this_rock_rules_facts x_this_trial_watch x_this_trial_score x_this_trial_home f_this_trial_off))
set_option maxRecDepth 100000 in
set_option maxHeartbeats 4000000 in
theorem c_X8_leastOfBest_lanes {l : Launch} {G : Gt} {h_this h_this_rock h_this_kept h_this_trial h_this_planner h_this_reader h_this_draft h_this_host h_this_thing h_this_tape h_this_rows h_this_rock_kinds h_this_rock_trims h_this_rock_lanes h_this_rock_lights h_this_rock_currents h_this_rock_buoys h_this_rock_now h_this_rock_rules h_this_rock_reports h_this_rock_now_off h_this_rock_rules_kinds h_this_rock_rules_deeds h_this_rock_rules_begins h_this_rock_rules_steps h_this_rock_rules_lefts h_this_rock_rules_rights h_this_rock_rules_facts h_this_trial_off : Nat} {p1 : Int32} {p2 : Int32} {x_this_tapeCount : Int32} {x_this_rowCount : Int32} {x_this_isKept : Int32} {x_this_rock_count : Int32} {x_this_rock_end : Int32} {x_this_rock_z : Int32} {f_this_rock_buoys : Nat → Int32} {f_this_rock_currents : Nat → Int32} {f_this_rock_kinds : Nat → Int32} {f_this_rock_lanes : Nat → Int32} {f_this_rock_lights : Nat → Int32} {x_this_rock_now_watch : Int32} {x_this_rock_now_score : Int32} {x_this_rock_now_home : Int32} {f_this_rock_now_off : Nat → Int32} {x_this_rock_rules_count : Int32} {x_this_rock_rules_size : Int32} {f_this_rock_rules_begins : Nat → Int32} {f_this_rock_rules_deeds : Nat → Int32} {f_this_rock_rules_facts : Nat → Int32} {f_this_rock_rules_kinds : Nat → Int32} {f_this_rock_rules_lefts : Nat → Int32} {f_this_rock_rules_rights : Nat → Int32} {f_this_rock_rules_steps : Nat → Int32} {f_this_rock_trims : Nat → Int32} {x_this_trial_watch : Int32} {x_this_trial_score : Int32} {x_this_trial_home : Int32} {f_this_trial_off : Nat → Int32} {r : Int32} {m_this_rock_lanes : Nat → Int32} {m_this_rock_rules_facts : Nat → Int32} {m_this_trial_watch : Int32} {m_this_trial_score : Int32} {m_this_trial_home : Int32} {m_this_trial_off : Nat → Int32} (hf : f_X8_leastOfBest_lanes p1 p2 x_this_rock_count x_this_rock_end f_this_rock_buoys f_this_rock_currents f_this_rock_kinds f_this_rock_lanes f_this_rock_lights x_this_rock_now_watch x_this_rock_now_score x_this_rock_now_home f_this_rock_now_off x_this_rock_rules_count f_this_rock_rules_begins f_this_rock_rules_deeds f_this_rock_rules_facts f_this_rock_rules_kinds f_this_rock_rules_lefts f_this_rock_rules_rights f_this_rock_rules_steps f_this_rock_trims x_this_trial_watch x_this_trial_score x_this_trial_home f_this_trial_off = some (r, m_this_rock_lanes, m_this_rock_rules_facts, m_this_trial_watch, m_this_trial_score, m_this_trial_home, m_this_trial_off)) : mFi l G yX8_leastOfBest cX8_leastOfBest 9 .int 7 [.ref h_this, .ref h_this_rock_lanes, .int p1, .int p2] [(h_this, ob 8 [.ref h_this_rock, .ref h_this_kept, .ref h_this_trial, .ref h_this_planner, .ref h_this_reader, .ref h_this_draft, .ref h_this_host, .ref h_this_thing, .ref h_this_tape, .ref h_this_rows, .int x_this_tapeCount, .int x_this_rowCount, .int x_this_isKept]), (h_this_rock, ob 3 [.ref h_this_rock_kinds, .ref h_this_rock_trims, .ref h_this_rock_lanes, .ref h_this_rock_lights, .ref h_this_rock_currents, .ref h_this_rock_buoys, .ref h_this_rock_now, .ref h_this_rock_rules, .ref h_this_rock_reports, .int x_this_rock_count, .int x_this_rock_end, .int x_this_rock_z]), (h_this_rock_buoys, ia G 6 f_this_rock_buoys), (h_this_rock_currents, ia G 6 f_this_rock_currents), (h_this_rock_kinds, ia G 6 f_this_rock_kinds), (h_this_rock_lanes, ia G 6 f_this_rock_lanes), (h_this_rock_lights, ia G 16 f_this_rock_lights), (h_this_rock_now, ob 6 [.ref h_this_rock_now_off, .int x_this_rock_now_watch, .int x_this_rock_now_score, .int x_this_rock_now_home]), (h_this_rock_now_off, ia G 6 f_this_rock_now_off), (h_this_rock_rules, ob 5 [.ref h_this_rock_rules_kinds, .ref h_this_rock_rules_deeds, .ref h_this_rock_rules_begins, .ref h_this_rock_rules_steps, .ref h_this_rock_rules_lefts, .ref h_this_rock_rules_rights, .ref h_this_rock_rules_facts, .int x_this_rock_rules_count, .int x_this_rock_rules_size]), (h_this_rock_rules_begins, ia G 9 f_this_rock_rules_begins), (h_this_rock_rules_deeds, ia G 8 f_this_rock_rules_deeds), (h_this_rock_rules_facts, ia G 5 f_this_rock_rules_facts), (h_this_rock_rules_kinds, ia G 8 f_this_rock_rules_kinds), (h_this_rock_rules_lefts, ia G 200 f_this_rock_rules_lefts), (h_this_rock_rules_rights, ia G 200 f_this_rock_rules_rights), (h_this_rock_rules_steps, ia G 200 f_this_rock_rules_steps), (h_this_rock_trims, ia G 6 f_this_rock_trims), (h_this_trial, ob 6 [.ref h_this_trial_off, .int x_this_trial_watch, .int x_this_trial_score, .int x_this_trial_home]), (h_this_trial_off, ia G 6 f_this_trial_off)] r [(h_this, ob 8 [.ref h_this_rock, .ref h_this_kept, .ref h_this_trial, .ref h_this_planner, .ref h_this_reader, .ref h_this_draft, .ref h_this_host, .ref h_this_thing, .ref h_this_tape, .ref h_this_rows, .int x_this_tapeCount, .int x_this_rowCount, .int x_this_isKept]), (h_this_rock, ob 3 [.ref h_this_rock_kinds, .ref h_this_rock_trims, .ref h_this_rock_lanes, .ref h_this_rock_lights, .ref h_this_rock_currents, .ref h_this_rock_buoys, .ref h_this_rock_now, .ref h_this_rock_rules, .ref h_this_rock_reports, .int x_this_rock_count, .int x_this_rock_end, .int x_this_rock_z]), (h_this_rock_buoys, ia G 6 f_this_rock_buoys), (h_this_rock_currents, ia G 6 f_this_rock_currents), (h_this_rock_kinds, ia G 6 f_this_rock_kinds), (h_this_rock_lanes, ia G 6 m_this_rock_lanes), (h_this_rock_lights, ia G 16 f_this_rock_lights), (h_this_rock_now, ob 6 [.ref h_this_rock_now_off, .int x_this_rock_now_watch, .int x_this_rock_now_score, .int x_this_rock_now_home]), (h_this_rock_now_off, ia G 6 f_this_rock_now_off), (h_this_rock_rules, ob 5 [.ref h_this_rock_rules_kinds, .ref h_this_rock_rules_deeds, .ref h_this_rock_rules_begins, .ref h_this_rock_rules_steps, .ref h_this_rock_rules_lefts, .ref h_this_rock_rules_rights, .ref h_this_rock_rules_facts, .int x_this_rock_rules_count, .int x_this_rock_rules_size]), (h_this_rock_rules_begins, ia G 9 f_this_rock_rules_begins), (h_this_rock_rules_deeds, ia G 8 f_this_rock_rules_deeds), (h_this_rock_rules_facts, ia G 5 m_this_rock_rules_facts), (h_this_rock_rules_kinds, ia G 8 f_this_rock_rules_kinds), (h_this_rock_rules_lefts, ia G 200 f_this_rock_rules_lefts), (h_this_rock_rules_rights, ia G 200 f_this_rock_rules_rights), (h_this_rock_rules_steps, ia G 200 f_this_rock_rules_steps), (h_this_rock_trims, ia G 6 f_this_rock_trims), (h_this_trial, ob 6 [.ref h_this_trial_off, .int m_this_trial_watch, .int m_this_trial_score, .int m_this_trial_home]), (h_this_trial_off, ia G 6 m_this_trial_off)] := by
  refine mFi.of (by decide +kernel) (Nat.le_of_ble_eq_true rfl) ?_
  intro p e s m below meth c A C hr hlk h ls hl
  obtain ⟨hx, hb, hml, hown, hts⟩ := id C
  replace hl : lv_has ls 9 [(0, .ref h_this), (1, .ref h_this_rock_lanes), (2, .int p1), (3, .int p2)] := hl
  unfold f_X8_leastOfBest_lanes at hf
  refine with_K G A 9 (fun K hK1 hK2 => ?_)
  have L14 : ∀ (n : Nat) (v4 : Int32) (v5 : Int32) (v6 : Int32) (v7 : Int32) (g_this_rock_lanes : Nat → Int32) (g_this_rock_rules_facts : Nat → Int32) (y_this_trial_watch : Int32) (y_this_trial_score : Int32) (y_this_trial_home : Int32) (g_this_trial_off : Nat → Int32), f_X8_leastOfBest_lanes_L14 p1 p2 x_this_rock_count x_this_rock_end f_this_rock_buoys f_this_rock_currents f_this_rock_kinds f_this_rock_lights x_this_rock_now_watch x_this_rock_now_score x_this_rock_now_home f_this_rock_now_off x_this_rock_rules_count f_this_rock_rules_begins f_this_rock_rules_deeds f_this_rock_rules_kinds f_this_rock_rules_lefts f_this_rock_rules_rights f_this_rock_rules_steps f_this_rock_trims n v4 v5 v6 v7 g_this_rock_lanes g_this_rock_rules_facts y_this_trial_watch y_this_trial_score y_this_trial_home g_this_trial_off = some (r, m_this_rock_lanes, m_this_rock_rules_facts, m_this_trial_watch, m_this_trial_score, m_this_trial_home, m_this_trial_off) → K 14 ([] : List Value) [(h_this, ob 8 [.ref h_this_rock, .ref h_this_kept, .ref h_this_trial, .ref h_this_planner, .ref h_this_reader, .ref h_this_draft, .ref h_this_host, .ref h_this_thing, .ref h_this_tape, .ref h_this_rows, .int x_this_tapeCount, .int x_this_rowCount, .int x_this_isKept]), (h_this_rock, ob 3 [.ref h_this_rock_kinds, .ref h_this_rock_trims, .ref h_this_rock_lanes, .ref h_this_rock_lights, .ref h_this_rock_currents, .ref h_this_rock_buoys, .ref h_this_rock_now, .ref h_this_rock_rules, .ref h_this_rock_reports, .int x_this_rock_count, .int x_this_rock_end, .int x_this_rock_z]), (h_this_rock_buoys, ia G 6 f_this_rock_buoys), (h_this_rock_currents, ia G 6 f_this_rock_currents), (h_this_rock_kinds, ia G 6 f_this_rock_kinds), (h_this_rock_lanes, ia G 6 g_this_rock_lanes), (h_this_rock_lights, ia G 16 f_this_rock_lights), (h_this_rock_now, ob 6 [.ref h_this_rock_now_off, .int x_this_rock_now_watch, .int x_this_rock_now_score, .int x_this_rock_now_home]), (h_this_rock_now_off, ia G 6 f_this_rock_now_off), (h_this_rock_rules, ob 5 [.ref h_this_rock_rules_kinds, .ref h_this_rock_rules_deeds, .ref h_this_rock_rules_begins, .ref h_this_rock_rules_steps, .ref h_this_rock_rules_lefts, .ref h_this_rock_rules_rights, .ref h_this_rock_rules_facts, .int x_this_rock_rules_count, .int x_this_rock_rules_size]), (h_this_rock_rules_begins, ia G 9 f_this_rock_rules_begins), (h_this_rock_rules_deeds, ia G 8 f_this_rock_rules_deeds), (h_this_rock_rules_facts, ia G 5 g_this_rock_rules_facts), (h_this_rock_rules_kinds, ia G 8 f_this_rock_rules_kinds), (h_this_rock_rules_lefts, ia G 200 f_this_rock_rules_lefts), (h_this_rock_rules_rights, ia G 200 f_this_rock_rules_rights), (h_this_rock_rules_steps, ia G 200 f_this_rock_rules_steps), (h_this_rock_trims, ia G 6 f_this_rock_trims), (h_this_trial, ob 6 [.ref h_this_trial_off, .int y_this_trial_watch, .int y_this_trial_score, .int y_this_trial_home]), (h_this_trial_off, ia G 6 g_this_trial_off)] [(0, .ref h_this), (1, .ref h_this_rock_lanes), (2, .int p1), (3, .int p2), (4, .int v4), (5, .int v5), (6, .int v6), (7, .int v7)] := by
    intro n
    induction n with
    | zero =>
      intro v4 v5 v6 v7 g_this_rock_lanes g_this_rock_rules_facts y_this_trial_watch y_this_trial_score y_this_trial_home g_this_trial_off hf
      replace hf : (none : Option _) = some _ := hf
      cases hf
    | succ n ih =>
      intro v4 v5 v6 v7 g_this_rock_lanes g_this_rock_rules_facts y_this_trial_watch y_this_trial_score y_this_trial_home g_this_trial_off hf
      rw [f_X8_leastOfBest_lanes_L14] at hf
      refine hK1 _ _ _ _ (fun H locs ls h hl => ?_)
      refine lv_iload hx hb dX8_leastOfBest_14 (lv_at hl 7 rfl) ?_
      refine lv_iload_n hx hb dX8_leastOfBest_16 rfl (lv_at hl 3 rfl) ?_
      refine lv_icmp_gt (tgt := 54) hx hb dX8_leastOfBest_17 rfl (fun c3 => ?_) (fun c3 => ?_)
      · replace hf := ifp c3 hf
        refine lv_aload_n hx hb dX8_leastOfBest_54 rfl (lv_at hl 1 rfl) ?_
        refine lv_iload_n hx hb dX8_leastOfBest_55 rfl (lv_at hl 2 rfl) ?_
        refine lv_iload hx hb dX8_leastOfBest_56 (lv_at hl 4 rfl) ?_
        replace hf := chkI_inv hf
        obtain ⟨hi4, hf⟩ := hf
        refine r_iast (ws' := [(h_this, ob 8 [.ref h_this_rock, .ref h_this_kept, .ref h_this_trial, .ref h_this_planner, .ref h_this_reader, .ref h_this_draft, .ref h_this_host, .ref h_this_thing, .ref h_this_tape, .ref h_this_rows, .int x_this_tapeCount, .int x_this_rowCount, .int x_this_isKept]), (h_this_rock, ob 3 [.ref h_this_rock_kinds, .ref h_this_rock_trims, .ref h_this_rock_lanes, .ref h_this_rock_lights, .ref h_this_rock_currents, .ref h_this_rock_buoys, .ref h_this_rock_now, .ref h_this_rock_rules, .ref h_this_rock_reports, .int x_this_rock_count, .int x_this_rock_end, .int x_this_rock_z]), (h_this_rock_buoys, ia G 6 f_this_rock_buoys), (h_this_rock_currents, ia G 6 f_this_rock_currents), (h_this_rock_kinds, ia G 6 f_this_rock_kinds), (h_this_rock_lanes, ia G 6 (upd g_this_rock_lanes p1.toNatClampNeg v4)), (h_this_rock_lights, ia G 16 f_this_rock_lights), (h_this_rock_now, ob 6 [.ref h_this_rock_now_off, .int x_this_rock_now_watch, .int x_this_rock_now_score, .int x_this_rock_now_home]), (h_this_rock_now_off, ia G 6 f_this_rock_now_off), (h_this_rock_rules, ob 5 [.ref h_this_rock_rules_kinds, .ref h_this_rock_rules_deeds, .ref h_this_rock_rules_begins, .ref h_this_rock_rules_steps, .ref h_this_rock_rules_lefts, .ref h_this_rock_rules_rights, .ref h_this_rock_rules_facts, .int x_this_rock_rules_count, .int x_this_rock_rules_size]), (h_this_rock_rules_begins, ia G 9 f_this_rock_rules_begins), (h_this_rock_rules_deeds, ia G 8 f_this_rock_rules_deeds), (h_this_rock_rules_facts, ia G 5 g_this_rock_rules_facts), (h_this_rock_rules_kinds, ia G 8 f_this_rock_rules_kinds), (h_this_rock_rules_lefts, ia G 200 f_this_rock_rules_lefts), (h_this_rock_rules_rights, ia G 200 f_this_rock_rules_rights), (h_this_rock_rules_steps, ia G 200 f_this_rock_rules_steps), (h_this_rock_trims, ia G 6 f_this_rock_trims), (h_this_trial, ob 6 [.ref h_this_trial_off, .int y_this_trial_watch, .int y_this_trial_score, .int y_this_trial_home]), (h_this_trial_off, ia G 6 g_this_trial_off)]) C h 5 rfl hi4 dX8_leastOfBest_58 rfl (fun H locs h => ?_)
        refine lv_iload hx hb dX8_leastOfBest_59 (lv_at hl 5 rfl) ?_
        cases hf
        exact r_iret C h hr hlk rfl dX8_leastOfBest_61
      · replace hf := ifn c3 hf
        refine lv_aload_n hx hb dX8_leastOfBest_20 rfl (lv_at hl 1 rfl) ?_
        refine lv_iload_n hx hb dX8_leastOfBest_21 rfl (lv_at hl 2 rfl) ?_
        refine lv_iload hx hb dX8_leastOfBest_22 (lv_at hl 7 rfl) ?_
        replace hf := chkI_inv hf
        obtain ⟨hi5, hf⟩ := hf
        refine r_iast (ws' := [(h_this, ob 8 [.ref h_this_rock, .ref h_this_kept, .ref h_this_trial, .ref h_this_planner, .ref h_this_reader, .ref h_this_draft, .ref h_this_host, .ref h_this_thing, .ref h_this_tape, .ref h_this_rows, .int x_this_tapeCount, .int x_this_rowCount, .int x_this_isKept]), (h_this_rock, ob 3 [.ref h_this_rock_kinds, .ref h_this_rock_trims, .ref h_this_rock_lanes, .ref h_this_rock_lights, .ref h_this_rock_currents, .ref h_this_rock_buoys, .ref h_this_rock_now, .ref h_this_rock_rules, .ref h_this_rock_reports, .int x_this_rock_count, .int x_this_rock_end, .int x_this_rock_z]), (h_this_rock_buoys, ia G 6 f_this_rock_buoys), (h_this_rock_currents, ia G 6 f_this_rock_currents), (h_this_rock_kinds, ia G 6 f_this_rock_kinds), (h_this_rock_lanes, ia G 6 (upd g_this_rock_lanes p1.toNatClampNeg v7)), (h_this_rock_lights, ia G 16 f_this_rock_lights), (h_this_rock_now, ob 6 [.ref h_this_rock_now_off, .int x_this_rock_now_watch, .int x_this_rock_now_score, .int x_this_rock_now_home]), (h_this_rock_now_off, ia G 6 f_this_rock_now_off), (h_this_rock_rules, ob 5 [.ref h_this_rock_rules_kinds, .ref h_this_rock_rules_deeds, .ref h_this_rock_rules_begins, .ref h_this_rock_rules_steps, .ref h_this_rock_rules_lefts, .ref h_this_rock_rules_rights, .ref h_this_rock_rules_facts, .int x_this_rock_rules_count, .int x_this_rock_rules_size]), (h_this_rock_rules_begins, ia G 9 f_this_rock_rules_begins), (h_this_rock_rules_deeds, ia G 8 f_this_rock_rules_deeds), (h_this_rock_rules_facts, ia G 5 g_this_rock_rules_facts), (h_this_rock_rules_kinds, ia G 8 f_this_rock_rules_kinds), (h_this_rock_rules_lefts, ia G 200 f_this_rock_rules_lefts), (h_this_rock_rules_rights, ia G 200 f_this_rock_rules_rights), (h_this_rock_rules_steps, ia G 200 f_this_rock_rules_steps), (h_this_rock_trims, ia G 6 f_this_rock_trims), (h_this_trial, ob 6 [.ref h_this_trial_off, .int y_this_trial_watch, .int y_this_trial_score, .int y_this_trial_home]), (h_this_trial_off, ia G 6 g_this_trial_off)]) C h 5 rfl hi5 dX8_leastOfBest_24 rfl (fun H locs h => ?_)
        refine lv_aload_n hx hb dX8_leastOfBest_25 rfl (lv_at hl 0 rfl) ?_
        refine lv_bipush (v := (16 : Int32)) hx hb dX8_leastOfBest_26 rfl ?_
        replace hf := bd6_inv hf
        obtain ⟨r6, g7, y8, y9, y10, g11, hc12, hf⟩ := hf
        refine r_ciV (ws' := [(h_this, ob 8 [.ref h_this_rock, .ref h_this_kept, .ref h_this_trial, .ref h_this_planner, .ref h_this_reader, .ref h_this_draft, .ref h_this_host, .ref h_this_thing, .ref h_this_tape, .ref h_this_rows, .int x_this_tapeCount, .int x_this_rowCount, .int x_this_isKept]), (h_this_rock, ob 3 [.ref h_this_rock_kinds, .ref h_this_rock_trims, .ref h_this_rock_lanes, .ref h_this_rock_lights, .ref h_this_rock_currents, .ref h_this_rock_buoys, .ref h_this_rock_now, .ref h_this_rock_rules, .ref h_this_rock_reports, .int x_this_rock_count, .int x_this_rock_end, .int x_this_rock_z]), (h_this_rock_buoys, ia G 6 f_this_rock_buoys), (h_this_rock_currents, ia G 6 f_this_rock_currents), (h_this_rock_kinds, ia G 6 f_this_rock_kinds), (h_this_rock_lanes, ia G 6 (upd g_this_rock_lanes p1.toNatClampNeg v7)), (h_this_rock_lights, ia G 16 f_this_rock_lights), (h_this_rock_now, ob 6 [.ref h_this_rock_now_off, .int x_this_rock_now_watch, .int x_this_rock_now_score, .int x_this_rock_now_home]), (h_this_rock_now_off, ia G 6 f_this_rock_now_off), (h_this_rock_rules, ob 5 [.ref h_this_rock_rules_kinds, .ref h_this_rock_rules_deeds, .ref h_this_rock_rules_begins, .ref h_this_rock_rules_steps, .ref h_this_rock_rules_lefts, .ref h_this_rock_rules_rights, .ref h_this_rock_rules_facts, .int x_this_rock_rules_count, .int x_this_rock_rules_size]), (h_this_rock_rules_begins, ia G 9 f_this_rock_rules_begins), (h_this_rock_rules_deeds, ia G 8 f_this_rock_rules_deeds), (h_this_rock_rules_facts, ia G 5 g7), (h_this_rock_rules_kinds, ia G 8 f_this_rock_rules_kinds), (h_this_rock_rules_lefts, ia G 200 f_this_rock_rules_lefts), (h_this_rock_rules_rights, ia G 200 f_this_rock_rules_rights), (h_this_rock_rules_steps, ia G 200 f_this_rock_rules_steps), (h_this_rock_trims, ia G 6 f_this_rock_trims), (h_this_trial, ob 6 [.ref h_this_trial_off, .int y8, .int y9, .int y10]), (h_this_trial_off, ia G 6 g11)]) C h (c_X8_worthOfRest hc12) mv_X8_186 rfl 0 rfl [0, 1, 2, 3, 4, 5, 6, 7, 8, 9, 10, 11, 12, 13, 14, 15, 16, 17, 18, 19] rfl rfl rfl rfl rfl hl.1 rfl (Nat.le_of_ble_eq_true rfl) (rok (by decide)) dX8_leastOfBest_28 (fun H locs h => ?_)
        refine lv_istore (lv' := [(8, .int r6), (0, .ref h_this), (1, .ref h_this_rock_lanes), (2, .int p1), (3, .int p2), (4, .int v4), (5, .int v5), (6, .int v6), (7, .int v7)]) hx hb dX8_leastOfBest_31 hl (by decide) rfl (fun ls hl => ?_)
        refine lv_iload hx hb dX8_leastOfBest_33 (lv_at hl 0 rfl) ?_
        refine lv_iload hx hb dX8_leastOfBest_35 (lv_at hl 7 rfl) ?_
        refine lv_icmp_le (tgt := 48) hx hb dX8_leastOfBest_37 rfl (fun c13 => ?_) (fun c13 => ?_)
        · replace hf := ifp c13 hf
          obtain ⟨t14, et14⟩ : ∃ y : Int32, y = v7 + (1 : Int32) := ⟨_, rfl⟩
          replace hf := lt1_inv et14 hf
          refine lv_iinc (v := t14) (lv' := [(7, .int t14), (8, .int r6), (0, .ref h_this), (1, .ref h_this_rock_lanes), (2, .int p1), (3, .int p2), (4, .int v4), (5, .int v5), (6, .int v6)]) hx hb dX8_leastOfBest_48 hl (k := 8) rfl (by rw [et14]; rfl) (by decide) rfl (fun ls hl => ?_)
          refine lv_goto (tgt := 14) hx hb dX8_leastOfBest_51 rfl ?_
          exact hK2 _ _ _ _ (ih v4 v5 v6 t14 (upd g_this_rock_lanes p1.toNatClampNeg v7) g7 y8 y9 y10 g11 hf) _ _ _ h (lv_sub hl [2, 3, 4, 5, 6, 7, 8, 0] rfl)
        · replace hf := ifn c13 hf
          refine lv_iload hx hb dX8_leastOfBest_40 (lv_at hl 0 rfl) ?_
          refine lv_istore (lv' := [(6, .int r6), (8, .int r6), (0, .ref h_this), (1, .ref h_this_rock_lanes), (2, .int p1), (3, .int p2), (4, .int v4), (5, .int v5), (7, .int v7)]) hx hb dX8_leastOfBest_42 hl (by decide) rfl (fun ls hl => ?_)
          refine lv_iload hx hb dX8_leastOfBest_44 (lv_at hl 8 rfl) ?_
          refine lv_istore (lv' := [(5, .int v7), (6, .int r6), (8, .int r6), (0, .ref h_this), (1, .ref h_this_rock_lanes), (2, .int p1), (3, .int p2), (4, .int v4), (7, .int v7)]) hx hb dX8_leastOfBest_46 hl (by decide) rfl (fun ls hl => ?_)
          obtain ⟨t15, et15⟩ : ∃ y : Int32, y = v7 + (1 : Int32) := ⟨_, rfl⟩
          replace hf := lt1_inv et15 hf
          refine lv_iinc (v := t15) (lv' := [(7, .int t15), (5, .int v7), (6, .int r6), (8, .int r6), (0, .ref h_this), (1, .ref h_this_rock_lanes), (2, .int p1), (3, .int p2), (4, .int v4)]) hx hb dX8_leastOfBest_48 hl (k := 8) rfl (by rw [et15]; rfl) (by decide) rfl (fun ls hl => ?_)
          refine lv_goto (tgt := 14) hx hb dX8_leastOfBest_51 rfl ?_
          exact hK2 _ _ _ _ (ih v4 v7 r6 t15 (upd g_this_rock_lanes p1.toNatClampNeg v7) g7 y8 y9 y10 g11 hf) _ _ _ h (lv_sub hl [4, 5, 6, 7, 8, 1, 2, 0] rfl)
  refine lv_aload_n hx hb dX8_leastOfBest_0 rfl (lv_at hl 1 rfl) ?_
  refine lv_iload_n hx hb dX8_leastOfBest_1 rfl (lv_at hl 2 rfl) ?_
  replace hf := chkI_inv hf
  obtain ⟨hi1, hf⟩ := hf
  refine r_iald C h 5 rfl hi1 dX8_leastOfBest_2 ?_
  refine lv_topi (fun t2 et2 => ?_)
  replace hf := lt1_inv et2 hf
  refine lv_istore (lv' := [(4, .int t2), (0, .ref h_this), (1, .ref h_this_rock_lanes), (2, .int p1), (3, .int p2)]) hx hb dX8_leastOfBest_3 hl (by decide) rfl (fun ls hl => ?_)
  refine lv_iconst (v := (0 : Int32)) hx hb dX8_leastOfBest_5 rfl ?_
  refine lv_istore (lv' := [(5, .int (0 : Int32)), (4, .int t2), (0, .ref h_this), (1, .ref h_this_rock_lanes), (2, .int p1), (3, .int p2)]) hx hb dX8_leastOfBest_6 hl (by decide) rfl (fun ls hl => ?_)
  refine lv_iconst (v := (-1 : Int32)) hx hb dX8_leastOfBest_8 rfl ?_
  refine lv_istore (lv' := [(6, .int (-1 : Int32)), (5, .int (0 : Int32)), (4, .int t2), (0, .ref h_this), (1, .ref h_this_rock_lanes), (2, .int p1), (3, .int p2)]) hx hb dX8_leastOfBest_9 hl (by decide) rfl (fun ls hl => ?_)
  refine lv_iconst (v := (0 : Int32)) hx hb dX8_leastOfBest_11 rfl ?_
  refine lv_istore (lv' := [(7, .int (0 : Int32)), (6, .int (-1 : Int32)), (5, .int (0 : Int32)), (4, .int t2), (0, .ref h_this), (1, .ref h_this_rock_lanes), (2, .int p1), (3, .int p2)]) hx hb dX8_leastOfBest_12 hl (by decide) rfl (fun ls hl => ?_)
  exact hK2 _ _ _ _ (L14 1000 t2 (0 : Int32) (-1 : Int32) (0 : Int32) f_this_rock_lanes f_this_rock_rules_facts x_this_trial_watch x_this_trial_score x_this_trial_home f_this_trial_off hf) _ _ _ h (lv_sub hl [4, 5, 6, 7, 3, 2, 1, 0] rfl)
def f_X8_trimFor (p0 : Int32) (x_this_rock_count : Int32) (x_this_rock_end : Int32) (f_this_rock_buoys : Nat → Int32) (f_this_rock_currents : Nat → Int32) (f_this_rock_kinds : Nat → Int32) (f_this_rock_lanes : Nat → Int32) (f_this_rock_lights : Nat → Int32) (x_this_rock_now_watch : Int32) (x_this_rock_now_score : Int32) (x_this_rock_now_home : Int32) (f_this_rock_now_off : Nat → Int32) (x_this_rock_rules_count : Int32) (f_this_rock_rules_begins : Nat → Int32) (f_this_rock_rules_deeds : Nat → Int32) (f_this_rock_rules_facts : Nat → Int32) (f_this_rock_rules_kinds : Nat → Int32) (f_this_rock_rules_lefts : Nat → Int32) (f_this_rock_rules_rights : Nat → Int32) (f_this_rock_rules_steps : Nat → Int32) (f_this_rock_trims : Nat → Int32) (x_this_trial_watch : Int32) (x_this_trial_score : Int32) (x_this_trial_home : Int32) (f_this_trial_off : Nat → Int32) : Option (Int32 × (Nat → Int32) × (Nat → Int32) × Int32 × Int32 × Int32 × (Nat → Int32)) := bd1 (f_X3_has p0 x_this_rock_count) (fun r1 => (if r1 = 0 then some ((-1 : Int32), f_this_rock_rules_facts, f_this_rock_trims, x_this_trial_watch, x_this_trial_score, x_this_trial_home, f_this_trial_off) else bd7 (f_X8_leastOfBest_trims p0 (9 : Int32) x_this_rock_count x_this_rock_end f_this_rock_buoys f_this_rock_currents f_this_rock_kinds f_this_rock_lanes f_this_rock_lights x_this_rock_now_watch x_this_rock_now_score x_this_rock_now_home f_this_rock_now_off x_this_rock_rules_count f_this_rock_rules_begins f_this_rock_rules_deeds f_this_rock_rules_facts f_this_rock_rules_kinds f_this_rock_rules_lefts f_this_rock_rules_rights f_this_rock_rules_steps f_this_rock_trims x_this_trial_watch x_this_trial_score x_this_trial_home f_this_trial_off) (fun r4 g5 g6 y7 y8 y9 g10 => some (r4, g5, g6, y7, y8, y9, g10))))
set_option maxRecDepth 100000 in
set_option maxHeartbeats 4000000 in
theorem c_X8_trimFor {l : Launch} {G : Gt} {h_this h_this_rock h_this_kept h_this_trial h_this_planner h_this_reader h_this_draft h_this_host h_this_thing h_this_tape h_this_rows h_this_rock_kinds h_this_rock_trims h_this_rock_lanes h_this_rock_lights h_this_rock_currents h_this_rock_buoys h_this_rock_now h_this_rock_rules h_this_rock_reports h_this_rock_now_off h_this_rock_rules_kinds h_this_rock_rules_deeds h_this_rock_rules_begins h_this_rock_rules_steps h_this_rock_rules_lefts h_this_rock_rules_rights h_this_rock_rules_facts h_this_trial_off : Nat} {p0 : Int32} {x_this_tapeCount : Int32} {x_this_rowCount : Int32} {x_this_isKept : Int32} {x_this_rock_count : Int32} {x_this_rock_end : Int32} {x_this_rock_z : Int32} {f_this_rock_buoys : Nat → Int32} {f_this_rock_currents : Nat → Int32} {f_this_rock_kinds : Nat → Int32} {f_this_rock_lanes : Nat → Int32} {f_this_rock_lights : Nat → Int32} {x_this_rock_now_watch : Int32} {x_this_rock_now_score : Int32} {x_this_rock_now_home : Int32} {f_this_rock_now_off : Nat → Int32} {x_this_rock_rules_count : Int32} {x_this_rock_rules_size : Int32} {f_this_rock_rules_begins : Nat → Int32} {f_this_rock_rules_deeds : Nat → Int32} {f_this_rock_rules_facts : Nat → Int32} {f_this_rock_rules_kinds : Nat → Int32} {f_this_rock_rules_lefts : Nat → Int32} {f_this_rock_rules_rights : Nat → Int32} {f_this_rock_rules_steps : Nat → Int32} {f_this_rock_trims : Nat → Int32} {x_this_trial_watch : Int32} {x_this_trial_score : Int32} {x_this_trial_home : Int32} {f_this_trial_off : Nat → Int32} {r : Int32} {m_this_rock_rules_facts : Nat → Int32} {m_this_rock_trims : Nat → Int32} {m_this_trial_watch : Int32} {m_this_trial_score : Int32} {m_this_trial_home : Int32} {m_this_trial_off : Nat → Int32} (hf : f_X8_trimFor p0 x_this_rock_count x_this_rock_end f_this_rock_buoys f_this_rock_currents f_this_rock_kinds f_this_rock_lanes f_this_rock_lights x_this_rock_now_watch x_this_rock_now_score x_this_rock_now_home f_this_rock_now_off x_this_rock_rules_count f_this_rock_rules_begins f_this_rock_rules_deeds f_this_rock_rules_facts f_this_rock_rules_kinds f_this_rock_rules_lefts f_this_rock_rules_rights f_this_rock_rules_steps f_this_rock_trims x_this_trial_watch x_this_trial_score x_this_trial_home f_this_trial_off = some (r, m_this_rock_rules_facts, m_this_rock_trims, m_this_trial_watch, m_this_trial_score, m_this_trial_home, m_this_trial_off)) : mFi l G yX8_trimFor cX8_trimFor 2 .int 8 [.ref h_this, .int p0] [(h_this, ob 8 [.ref h_this_rock, .ref h_this_kept, .ref h_this_trial, .ref h_this_planner, .ref h_this_reader, .ref h_this_draft, .ref h_this_host, .ref h_this_thing, .ref h_this_tape, .ref h_this_rows, .int x_this_tapeCount, .int x_this_rowCount, .int x_this_isKept]), (h_this_rock, ob 3 [.ref h_this_rock_kinds, .ref h_this_rock_trims, .ref h_this_rock_lanes, .ref h_this_rock_lights, .ref h_this_rock_currents, .ref h_this_rock_buoys, .ref h_this_rock_now, .ref h_this_rock_rules, .ref h_this_rock_reports, .int x_this_rock_count, .int x_this_rock_end, .int x_this_rock_z]), (h_this_rock_buoys, ia G 6 f_this_rock_buoys), (h_this_rock_currents, ia G 6 f_this_rock_currents), (h_this_rock_kinds, ia G 6 f_this_rock_kinds), (h_this_rock_lanes, ia G 6 f_this_rock_lanes), (h_this_rock_lights, ia G 16 f_this_rock_lights), (h_this_rock_now, ob 6 [.ref h_this_rock_now_off, .int x_this_rock_now_watch, .int x_this_rock_now_score, .int x_this_rock_now_home]), (h_this_rock_now_off, ia G 6 f_this_rock_now_off), (h_this_rock_rules, ob 5 [.ref h_this_rock_rules_kinds, .ref h_this_rock_rules_deeds, .ref h_this_rock_rules_begins, .ref h_this_rock_rules_steps, .ref h_this_rock_rules_lefts, .ref h_this_rock_rules_rights, .ref h_this_rock_rules_facts, .int x_this_rock_rules_count, .int x_this_rock_rules_size]), (h_this_rock_rules_begins, ia G 9 f_this_rock_rules_begins), (h_this_rock_rules_deeds, ia G 8 f_this_rock_rules_deeds), (h_this_rock_rules_facts, ia G 5 f_this_rock_rules_facts), (h_this_rock_rules_kinds, ia G 8 f_this_rock_rules_kinds), (h_this_rock_rules_lefts, ia G 200 f_this_rock_rules_lefts), (h_this_rock_rules_rights, ia G 200 f_this_rock_rules_rights), (h_this_rock_rules_steps, ia G 200 f_this_rock_rules_steps), (h_this_rock_trims, ia G 6 f_this_rock_trims), (h_this_trial, ob 6 [.ref h_this_trial_off, .int x_this_trial_watch, .int x_this_trial_score, .int x_this_trial_home]), (h_this_trial_off, ia G 6 f_this_trial_off)] r [(h_this, ob 8 [.ref h_this_rock, .ref h_this_kept, .ref h_this_trial, .ref h_this_planner, .ref h_this_reader, .ref h_this_draft, .ref h_this_host, .ref h_this_thing, .ref h_this_tape, .ref h_this_rows, .int x_this_tapeCount, .int x_this_rowCount, .int x_this_isKept]), (h_this_rock, ob 3 [.ref h_this_rock_kinds, .ref h_this_rock_trims, .ref h_this_rock_lanes, .ref h_this_rock_lights, .ref h_this_rock_currents, .ref h_this_rock_buoys, .ref h_this_rock_now, .ref h_this_rock_rules, .ref h_this_rock_reports, .int x_this_rock_count, .int x_this_rock_end, .int x_this_rock_z]), (h_this_rock_buoys, ia G 6 f_this_rock_buoys), (h_this_rock_currents, ia G 6 f_this_rock_currents), (h_this_rock_kinds, ia G 6 f_this_rock_kinds), (h_this_rock_lanes, ia G 6 f_this_rock_lanes), (h_this_rock_lights, ia G 16 f_this_rock_lights), (h_this_rock_now, ob 6 [.ref h_this_rock_now_off, .int x_this_rock_now_watch, .int x_this_rock_now_score, .int x_this_rock_now_home]), (h_this_rock_now_off, ia G 6 f_this_rock_now_off), (h_this_rock_rules, ob 5 [.ref h_this_rock_rules_kinds, .ref h_this_rock_rules_deeds, .ref h_this_rock_rules_begins, .ref h_this_rock_rules_steps, .ref h_this_rock_rules_lefts, .ref h_this_rock_rules_rights, .ref h_this_rock_rules_facts, .int x_this_rock_rules_count, .int x_this_rock_rules_size]), (h_this_rock_rules_begins, ia G 9 f_this_rock_rules_begins), (h_this_rock_rules_deeds, ia G 8 f_this_rock_rules_deeds), (h_this_rock_rules_facts, ia G 5 m_this_rock_rules_facts), (h_this_rock_rules_kinds, ia G 8 f_this_rock_rules_kinds), (h_this_rock_rules_lefts, ia G 200 f_this_rock_rules_lefts), (h_this_rock_rules_rights, ia G 200 f_this_rock_rules_rights), (h_this_rock_rules_steps, ia G 200 f_this_rock_rules_steps), (h_this_rock_trims, ia G 6 m_this_rock_trims), (h_this_trial, ob 6 [.ref h_this_trial_off, .int m_this_trial_watch, .int m_this_trial_score, .int m_this_trial_home]), (h_this_trial_off, ia G 6 m_this_trial_off)] := by
  refine mFi.of (by decide +kernel) (Nat.le_of_ble_eq_true rfl) ?_
  intro p e s m below meth c A C hr hlk h ls hl
  obtain ⟨hx, hb, hml, hown, hts⟩ := id C
  replace hl : lv_has ls 2 [(0, .ref h_this), (1, .int p0)] := hl
  unfold f_X8_trimFor at hf
  refine lv_aload_n hx hb dX8_trimFor_0 rfl (lv_at hl 0 rfl) ?_
  refine r_get C h fk_X8_10 0 rfl rfl dX8_trimFor_1 ?_
  refine lv_iload_n hx hb dX8_trimFor_4 rfl (lv_at hl 1 rfl) ?_
  replace hf := bd1_inv hf
  obtain ⟨r1, hc2, hf⟩ := hf
  refine r_ciV0 C h (c_X3_has hc2) mv_X8_90 rfl 1 rfl [1] rfl rfl hl.1 rfl (Nat.le_of_ble_eq_true rfl) (rok (by decide)) dX8_trimFor_5 (fun H locs h => ?_)
  refine lv_if_eq (tgt := 28) hx hb dX8_trimFor_8 rfl (fun c3 => ?_) (fun c3 => ?_)
  · replace hf := ifp c3 hf
    refine lv_iconst (v := (-1 : Int32)) hx hb dX8_trimFor_28 rfl ?_
    cases hf
    exact r_iret C h hr hlk rfl dX8_trimFor_29
  · replace hf := ifn c3 hf
    refine lv_aload_n hx hb dX8_trimFor_11 rfl (lv_at hl 0 rfl) ?_
    refine lv_aload_n hx hb dX8_trimFor_12 rfl (lv_at hl 0 rfl) ?_
    refine r_get C h fk_X8_10 0 rfl rfl dX8_trimFor_13 ?_
    refine r_get C h fk_X8_103 1 rfl rfl dX8_trimFor_16 ?_
    refine lv_iload_n hx hb dX8_trimFor_19 rfl (lv_at hl 1 rfl) ?_
    refine lv_bipush (v := (9 : Int32)) hx hb dX8_trimFor_20 rfl ?_
    replace hf := bd7_inv hf
    obtain ⟨r4, g5, g6, y7, y8, y9, g10, hc11, hf⟩ := hf
    refine r_ciV (ws' := [(h_this, ob 8 [.ref h_this_rock, .ref h_this_kept, .ref h_this_trial, .ref h_this_planner, .ref h_this_reader, .ref h_this_draft, .ref h_this_host, .ref h_this_thing, .ref h_this_tape, .ref h_this_rows, .int x_this_tapeCount, .int x_this_rowCount, .int x_this_isKept]), (h_this_rock, ob 3 [.ref h_this_rock_kinds, .ref h_this_rock_trims, .ref h_this_rock_lanes, .ref h_this_rock_lights, .ref h_this_rock_currents, .ref h_this_rock_buoys, .ref h_this_rock_now, .ref h_this_rock_rules, .ref h_this_rock_reports, .int x_this_rock_count, .int x_this_rock_end, .int x_this_rock_z]), (h_this_rock_buoys, ia G 6 f_this_rock_buoys), (h_this_rock_currents, ia G 6 f_this_rock_currents), (h_this_rock_kinds, ia G 6 f_this_rock_kinds), (h_this_rock_lanes, ia G 6 f_this_rock_lanes), (h_this_rock_lights, ia G 16 f_this_rock_lights), (h_this_rock_now, ob 6 [.ref h_this_rock_now_off, .int x_this_rock_now_watch, .int x_this_rock_now_score, .int x_this_rock_now_home]), (h_this_rock_now_off, ia G 6 f_this_rock_now_off), (h_this_rock_rules, ob 5 [.ref h_this_rock_rules_kinds, .ref h_this_rock_rules_deeds, .ref h_this_rock_rules_begins, .ref h_this_rock_rules_steps, .ref h_this_rock_rules_lefts, .ref h_this_rock_rules_rights, .ref h_this_rock_rules_facts, .int x_this_rock_rules_count, .int x_this_rock_rules_size]), (h_this_rock_rules_begins, ia G 9 f_this_rock_rules_begins), (h_this_rock_rules_deeds, ia G 8 f_this_rock_rules_deeds), (h_this_rock_rules_facts, ia G 5 g5), (h_this_rock_rules_kinds, ia G 8 f_this_rock_rules_kinds), (h_this_rock_rules_lefts, ia G 200 f_this_rock_rules_lefts), (h_this_rock_rules_rights, ia G 200 f_this_rock_rules_rights), (h_this_rock_rules_steps, ia G 200 f_this_rock_rules_steps), (h_this_rock_trims, ia G 6 g6), (h_this_trial, ob 6 [.ref h_this_trial_off, .int y7, .int y8, .int y9]), (h_this_trial_off, ia G 6 g10)]) C h (c_X8_leastOfBest_trims hc11) mv_X8_192 rfl 0 rfl [0, 1, 2, 3, 4, 5, 6, 7, 8, 9, 10, 11, 12, 13, 14, 15, 16, 17, 18, 19] rfl rfl rfl rfl rfl hl.1 rfl (Nat.le_of_ble_eq_true rfl) (rok (by decide)) dX8_trimFor_22 (fun H locs h => ?_)
    refine lv_goto (tgt := 29) hx hb dX8_trimFor_25 rfl ?_
    cases hf
    exact r_iret C h hr hlk rfl dX8_trimFor_29
def f_X8_laneFor (p0 : Int32) (x_this_rock_count : Int32) (x_this_rock_end : Int32) (f_this_rock_buoys : Nat → Int32) (f_this_rock_currents : Nat → Int32) (f_this_rock_kinds : Nat → Int32) (f_this_rock_lanes : Nat → Int32) (f_this_rock_lights : Nat → Int32) (x_this_rock_now_watch : Int32) (x_this_rock_now_score : Int32) (x_this_rock_now_home : Int32) (f_this_rock_now_off : Nat → Int32) (x_this_rock_rules_count : Int32) (f_this_rock_rules_begins : Nat → Int32) (f_this_rock_rules_deeds : Nat → Int32) (f_this_rock_rules_facts : Nat → Int32) (f_this_rock_rules_kinds : Nat → Int32) (f_this_rock_rules_lefts : Nat → Int32) (f_this_rock_rules_rights : Nat → Int32) (f_this_rock_rules_steps : Nat → Int32) (f_this_rock_trims : Nat → Int32) (x_this_trial_watch : Int32) (x_this_trial_score : Int32) (x_this_trial_home : Int32) (f_this_trial_off : Nat → Int32) : Option (Int32 × (Nat → Int32) × (Nat → Int32) × Int32 × Int32 × Int32 × (Nat → Int32)) := bd1 (f_X3_has p0 x_this_rock_count) (fun r1 => (if r1 = 0 then some ((-1 : Int32), f_this_rock_lanes, f_this_rock_rules_facts, x_this_trial_watch, x_this_trial_score, x_this_trial_home, f_this_trial_off) else bd7 (f_X8_leastOfBest_lanes p0 (5 : Int32) x_this_rock_count x_this_rock_end f_this_rock_buoys f_this_rock_currents f_this_rock_kinds f_this_rock_lanes f_this_rock_lights x_this_rock_now_watch x_this_rock_now_score x_this_rock_now_home f_this_rock_now_off x_this_rock_rules_count f_this_rock_rules_begins f_this_rock_rules_deeds f_this_rock_rules_facts f_this_rock_rules_kinds f_this_rock_rules_lefts f_this_rock_rules_rights f_this_rock_rules_steps f_this_rock_trims x_this_trial_watch x_this_trial_score x_this_trial_home f_this_trial_off) (fun r4 g5 g6 y7 y8 y9 g10 => some (r4, g5, g6, y7, y8, y9, g10))))
set_option maxRecDepth 100000 in
set_option maxHeartbeats 4000000 in
theorem c_X8_laneFor {l : Launch} {G : Gt} {h_this h_this_rock h_this_kept h_this_trial h_this_planner h_this_reader h_this_draft h_this_host h_this_thing h_this_tape h_this_rows h_this_rock_kinds h_this_rock_trims h_this_rock_lanes h_this_rock_lights h_this_rock_currents h_this_rock_buoys h_this_rock_now h_this_rock_rules h_this_rock_reports h_this_rock_now_off h_this_rock_rules_kinds h_this_rock_rules_deeds h_this_rock_rules_begins h_this_rock_rules_steps h_this_rock_rules_lefts h_this_rock_rules_rights h_this_rock_rules_facts h_this_trial_off : Nat} {p0 : Int32} {x_this_tapeCount : Int32} {x_this_rowCount : Int32} {x_this_isKept : Int32} {x_this_rock_count : Int32} {x_this_rock_end : Int32} {x_this_rock_z : Int32} {f_this_rock_buoys : Nat → Int32} {f_this_rock_currents : Nat → Int32} {f_this_rock_kinds : Nat → Int32} {f_this_rock_lanes : Nat → Int32} {f_this_rock_lights : Nat → Int32} {x_this_rock_now_watch : Int32} {x_this_rock_now_score : Int32} {x_this_rock_now_home : Int32} {f_this_rock_now_off : Nat → Int32} {x_this_rock_rules_count : Int32} {x_this_rock_rules_size : Int32} {f_this_rock_rules_begins : Nat → Int32} {f_this_rock_rules_deeds : Nat → Int32} {f_this_rock_rules_facts : Nat → Int32} {f_this_rock_rules_kinds : Nat → Int32} {f_this_rock_rules_lefts : Nat → Int32} {f_this_rock_rules_rights : Nat → Int32} {f_this_rock_rules_steps : Nat → Int32} {f_this_rock_trims : Nat → Int32} {x_this_trial_watch : Int32} {x_this_trial_score : Int32} {x_this_trial_home : Int32} {f_this_trial_off : Nat → Int32} {r : Int32} {m_this_rock_lanes : Nat → Int32} {m_this_rock_rules_facts : Nat → Int32} {m_this_trial_watch : Int32} {m_this_trial_score : Int32} {m_this_trial_home : Int32} {m_this_trial_off : Nat → Int32} (hf : f_X8_laneFor p0 x_this_rock_count x_this_rock_end f_this_rock_buoys f_this_rock_currents f_this_rock_kinds f_this_rock_lanes f_this_rock_lights x_this_rock_now_watch x_this_rock_now_score x_this_rock_now_home f_this_rock_now_off x_this_rock_rules_count f_this_rock_rules_begins f_this_rock_rules_deeds f_this_rock_rules_facts f_this_rock_rules_kinds f_this_rock_rules_lefts f_this_rock_rules_rights f_this_rock_rules_steps f_this_rock_trims x_this_trial_watch x_this_trial_score x_this_trial_home f_this_trial_off = some (r, m_this_rock_lanes, m_this_rock_rules_facts, m_this_trial_watch, m_this_trial_score, m_this_trial_home, m_this_trial_off)) : mFi l G yX8_laneFor cX8_laneFor 2 .int 8 [.ref h_this, .int p0] [(h_this, ob 8 [.ref h_this_rock, .ref h_this_kept, .ref h_this_trial, .ref h_this_planner, .ref h_this_reader, .ref h_this_draft, .ref h_this_host, .ref h_this_thing, .ref h_this_tape, .ref h_this_rows, .int x_this_tapeCount, .int x_this_rowCount, .int x_this_isKept]), (h_this_rock, ob 3 [.ref h_this_rock_kinds, .ref h_this_rock_trims, .ref h_this_rock_lanes, .ref h_this_rock_lights, .ref h_this_rock_currents, .ref h_this_rock_buoys, .ref h_this_rock_now, .ref h_this_rock_rules, .ref h_this_rock_reports, .int x_this_rock_count, .int x_this_rock_end, .int x_this_rock_z]), (h_this_rock_buoys, ia G 6 f_this_rock_buoys), (h_this_rock_currents, ia G 6 f_this_rock_currents), (h_this_rock_kinds, ia G 6 f_this_rock_kinds), (h_this_rock_lanes, ia G 6 f_this_rock_lanes), (h_this_rock_lights, ia G 16 f_this_rock_lights), (h_this_rock_now, ob 6 [.ref h_this_rock_now_off, .int x_this_rock_now_watch, .int x_this_rock_now_score, .int x_this_rock_now_home]), (h_this_rock_now_off, ia G 6 f_this_rock_now_off), (h_this_rock_rules, ob 5 [.ref h_this_rock_rules_kinds, .ref h_this_rock_rules_deeds, .ref h_this_rock_rules_begins, .ref h_this_rock_rules_steps, .ref h_this_rock_rules_lefts, .ref h_this_rock_rules_rights, .ref h_this_rock_rules_facts, .int x_this_rock_rules_count, .int x_this_rock_rules_size]), (h_this_rock_rules_begins, ia G 9 f_this_rock_rules_begins), (h_this_rock_rules_deeds, ia G 8 f_this_rock_rules_deeds), (h_this_rock_rules_facts, ia G 5 f_this_rock_rules_facts), (h_this_rock_rules_kinds, ia G 8 f_this_rock_rules_kinds), (h_this_rock_rules_lefts, ia G 200 f_this_rock_rules_lefts), (h_this_rock_rules_rights, ia G 200 f_this_rock_rules_rights), (h_this_rock_rules_steps, ia G 200 f_this_rock_rules_steps), (h_this_rock_trims, ia G 6 f_this_rock_trims), (h_this_trial, ob 6 [.ref h_this_trial_off, .int x_this_trial_watch, .int x_this_trial_score, .int x_this_trial_home]), (h_this_trial_off, ia G 6 f_this_trial_off)] r [(h_this, ob 8 [.ref h_this_rock, .ref h_this_kept, .ref h_this_trial, .ref h_this_planner, .ref h_this_reader, .ref h_this_draft, .ref h_this_host, .ref h_this_thing, .ref h_this_tape, .ref h_this_rows, .int x_this_tapeCount, .int x_this_rowCount, .int x_this_isKept]), (h_this_rock, ob 3 [.ref h_this_rock_kinds, .ref h_this_rock_trims, .ref h_this_rock_lanes, .ref h_this_rock_lights, .ref h_this_rock_currents, .ref h_this_rock_buoys, .ref h_this_rock_now, .ref h_this_rock_rules, .ref h_this_rock_reports, .int x_this_rock_count, .int x_this_rock_end, .int x_this_rock_z]), (h_this_rock_buoys, ia G 6 f_this_rock_buoys), (h_this_rock_currents, ia G 6 f_this_rock_currents), (h_this_rock_kinds, ia G 6 f_this_rock_kinds), (h_this_rock_lanes, ia G 6 m_this_rock_lanes), (h_this_rock_lights, ia G 16 f_this_rock_lights), (h_this_rock_now, ob 6 [.ref h_this_rock_now_off, .int x_this_rock_now_watch, .int x_this_rock_now_score, .int x_this_rock_now_home]), (h_this_rock_now_off, ia G 6 f_this_rock_now_off), (h_this_rock_rules, ob 5 [.ref h_this_rock_rules_kinds, .ref h_this_rock_rules_deeds, .ref h_this_rock_rules_begins, .ref h_this_rock_rules_steps, .ref h_this_rock_rules_lefts, .ref h_this_rock_rules_rights, .ref h_this_rock_rules_facts, .int x_this_rock_rules_count, .int x_this_rock_rules_size]), (h_this_rock_rules_begins, ia G 9 f_this_rock_rules_begins), (h_this_rock_rules_deeds, ia G 8 f_this_rock_rules_deeds), (h_this_rock_rules_facts, ia G 5 m_this_rock_rules_facts), (h_this_rock_rules_kinds, ia G 8 f_this_rock_rules_kinds), (h_this_rock_rules_lefts, ia G 200 f_this_rock_rules_lefts), (h_this_rock_rules_rights, ia G 200 f_this_rock_rules_rights), (h_this_rock_rules_steps, ia G 200 f_this_rock_rules_steps), (h_this_rock_trims, ia G 6 f_this_rock_trims), (h_this_trial, ob 6 [.ref h_this_trial_off, .int m_this_trial_watch, .int m_this_trial_score, .int m_this_trial_home]), (h_this_trial_off, ia G 6 m_this_trial_off)] := by
  refine mFi.of (by decide +kernel) (Nat.le_of_ble_eq_true rfl) ?_
  intro p e s m below meth c A C hr hlk h ls hl
  obtain ⟨hx, hb, hml, hown, hts⟩ := id C
  replace hl : lv_has ls 2 [(0, .ref h_this), (1, .int p0)] := hl
  unfold f_X8_laneFor at hf
  refine lv_aload_n hx hb dX8_laneFor_0 rfl (lv_at hl 0 rfl) ?_
  refine r_get C h fk_X8_10 0 rfl rfl dX8_laneFor_1 ?_
  refine lv_iload_n hx hb dX8_laneFor_4 rfl (lv_at hl 1 rfl) ?_
  replace hf := bd1_inv hf
  obtain ⟨r1, hc2, hf⟩ := hf
  refine r_ciV0 C h (c_X3_has hc2) mv_X8_90 rfl 1 rfl [1] rfl rfl hl.1 rfl (Nat.le_of_ble_eq_true rfl) (rok (by decide)) dX8_laneFor_5 (fun H locs h => ?_)
  refine lv_if_eq (tgt := 27) hx hb dX8_laneFor_8 rfl (fun c3 => ?_) (fun c3 => ?_)
  · replace hf := ifp c3 hf
    refine lv_iconst (v := (-1 : Int32)) hx hb dX8_laneFor_27 rfl ?_
    cases hf
    exact r_iret C h hr hlk rfl dX8_laneFor_28
  · replace hf := ifn c3 hf
    refine lv_aload_n hx hb dX8_laneFor_11 rfl (lv_at hl 0 rfl) ?_
    refine lv_aload_n hx hb dX8_laneFor_12 rfl (lv_at hl 0 rfl) ?_
    refine r_get C h fk_X8_10 0 rfl rfl dX8_laneFor_13 ?_
    refine r_get C h fk_X8_106 1 rfl rfl dX8_laneFor_16 ?_
    refine lv_iload_n hx hb dX8_laneFor_19 rfl (lv_at hl 1 rfl) ?_
    refine lv_iconst (v := (5 : Int32)) hx hb dX8_laneFor_20 rfl ?_
    replace hf := bd7_inv hf
    obtain ⟨r4, g5, g6, y7, y8, y9, g10, hc11, hf⟩ := hf
    refine r_ciV (ws' := [(h_this, ob 8 [.ref h_this_rock, .ref h_this_kept, .ref h_this_trial, .ref h_this_planner, .ref h_this_reader, .ref h_this_draft, .ref h_this_host, .ref h_this_thing, .ref h_this_tape, .ref h_this_rows, .int x_this_tapeCount, .int x_this_rowCount, .int x_this_isKept]), (h_this_rock, ob 3 [.ref h_this_rock_kinds, .ref h_this_rock_trims, .ref h_this_rock_lanes, .ref h_this_rock_lights, .ref h_this_rock_currents, .ref h_this_rock_buoys, .ref h_this_rock_now, .ref h_this_rock_rules, .ref h_this_rock_reports, .int x_this_rock_count, .int x_this_rock_end, .int x_this_rock_z]), (h_this_rock_buoys, ia G 6 f_this_rock_buoys), (h_this_rock_currents, ia G 6 f_this_rock_currents), (h_this_rock_kinds, ia G 6 f_this_rock_kinds), (h_this_rock_lanes, ia G 6 g5), (h_this_rock_lights, ia G 16 f_this_rock_lights), (h_this_rock_now, ob 6 [.ref h_this_rock_now_off, .int x_this_rock_now_watch, .int x_this_rock_now_score, .int x_this_rock_now_home]), (h_this_rock_now_off, ia G 6 f_this_rock_now_off), (h_this_rock_rules, ob 5 [.ref h_this_rock_rules_kinds, .ref h_this_rock_rules_deeds, .ref h_this_rock_rules_begins, .ref h_this_rock_rules_steps, .ref h_this_rock_rules_lefts, .ref h_this_rock_rules_rights, .ref h_this_rock_rules_facts, .int x_this_rock_rules_count, .int x_this_rock_rules_size]), (h_this_rock_rules_begins, ia G 9 f_this_rock_rules_begins), (h_this_rock_rules_deeds, ia G 8 f_this_rock_rules_deeds), (h_this_rock_rules_facts, ia G 5 g6), (h_this_rock_rules_kinds, ia G 8 f_this_rock_rules_kinds), (h_this_rock_rules_lefts, ia G 200 f_this_rock_rules_lefts), (h_this_rock_rules_rights, ia G 200 f_this_rock_rules_rights), (h_this_rock_rules_steps, ia G 200 f_this_rock_rules_steps), (h_this_rock_trims, ia G 6 f_this_rock_trims), (h_this_trial, ob 6 [.ref h_this_trial_off, .int y7, .int y8, .int y9]), (h_this_trial_off, ia G 6 g10)]) C h (c_X8_leastOfBest_lanes hc11) mv_X8_192 rfl 0 rfl [0, 1, 2, 3, 4, 5, 6, 7, 8, 9, 10, 11, 12, 13, 14, 15, 16, 17, 18, 19] rfl rfl rfl rfl rfl hl.1 rfl (Nat.le_of_ble_eq_true rfl) (rok (by decide)) dX8_laneFor_21 (fun H locs h => ?_)
    refine lv_goto (tgt := 28) hx hb dX8_laneFor_24 rfl ?_
    cases hf
    exact r_iret C h hr hlk rfl dX8_laneFor_28
def f_X8_rock_L29 (p0 : Int32) (x_this_rock_count : Int32) (x_this_rock_end : Int32) (f_this_rock_buoys : Nat → Int32) (f_this_rock_currents : Nat → Int32) (f_this_rock_kinds : Nat → Int32) (f_this_rock_lanes : Nat → Int32) (f_this_rock_lights : Nat → Int32) (x_this_rock_rules_count : Int32) (f_this_rock_rules_begins : Nat → Int32) (f_this_rock_rules_deeds : Nat → Int32) (f_this_rock_rules_kinds : Nat → Int32) (f_this_rock_rules_lefts : Nat → Int32) (f_this_rock_rules_rights : Nat → Int32) (f_this_rock_rules_steps : Nat → Int32) (f_this_rock_trims : Nat → Int32) : Nat → Int32 → (Nat → Int32) → Int32 → Int32 → Int32 → (Nat → Int32) → Option (Int32 × (Nat → Int32) × Int32 × Int32 × Int32 × (Nat → Int32))
  | 0, _, _, _, _, _, _ => none
  | n + 1, v2, g_this_rock_rules_facts, y_this_trial_watch, y_this_trial_score, y_this_trial_home, g_this_trial_off => (if (16 : Int32) < v2 then some ((-3 : Int32), g_this_rock_rules_facts, y_this_trial_watch, y_this_trial_score, y_this_trial_home, g_this_trial_off) else bd1 (f_X6_isOnRock p0 y_this_trial_home g_this_trial_off) (fun r10 => (if r10 = 0 then bd1 (f_X3_isOver y_this_trial_watch x_this_rock_end) (fun r13 => (if r13 = 0 then bd6 (f_X3_passRest y_this_trial_watch y_this_trial_score y_this_trial_home g_this_trial_off x_this_rock_count f_this_rock_buoys f_this_rock_currents f_this_rock_kinds f_this_rock_lanes f_this_rock_lights x_this_rock_rules_count f_this_rock_rules_begins f_this_rock_rules_deeds g_this_rock_rules_facts f_this_rock_rules_kinds f_this_rock_rules_lefts f_this_rock_rules_rights f_this_rock_rules_steps f_this_rock_trims) (fun r16 y17 y18 y19 g20 g21 => lt1 (v2 + (1 : Int32)) (fun (t23 : Int32) => (f_X8_rock_L29 p0 x_this_rock_count x_this_rock_end f_this_rock_buoys f_this_rock_currents f_this_rock_kinds f_this_rock_lanes f_this_rock_lights x_this_rock_rules_count f_this_rock_rules_begins f_this_rock_rules_deeds f_this_rock_rules_kinds f_this_rock_rules_lefts f_this_rock_rules_rights f_this_rock_rules_steps f_this_rock_trims n) t23 g21 y17 y18 y19 g20)) else some ((-3 : Int32), g_this_rock_rules_facts, y_this_trial_watch, y_this_trial_score, y_this_trial_home, g_this_trial_off))) else some (y_this_trial_watch, g_this_rock_rules_facts, y_this_trial_watch, y_this_trial_score, y_this_trial_home, g_this_trial_off))))
def f_X8_rock (p0 : Int32) (x_this_rock_count : Int32) (x_this_rock_end : Int32) (f_this_rock_buoys : Nat → Int32) (f_this_rock_currents : Nat → Int32) (f_this_rock_kinds : Nat → Int32) (f_this_rock_lanes : Nat → Int32) (f_this_rock_lights : Nat → Int32) (x_this_rock_now_watch : Int32) (x_this_rock_now_score : Int32) (x_this_rock_now_home : Int32) (f_this_rock_now_off : Nat → Int32) (x_this_rock_rules_count : Int32) (f_this_rock_rules_begins : Nat → Int32) (f_this_rock_rules_deeds : Nat → Int32) (f_this_rock_rules_facts : Nat → Int32) (f_this_rock_rules_kinds : Nat → Int32) (f_this_rock_rules_lefts : Nat → Int32) (f_this_rock_rules_rights : Nat → Int32) (f_this_rock_rules_steps : Nat → Int32) (f_this_rock_trims : Nat → Int32) (x_this_trial_watch : Int32) (x_this_trial_score : Int32) (x_this_trial_home : Int32) (f_this_trial_off : Nat → Int32) : Option (Int32 × (Nat → Int32) × Int32 × Int32 × Int32 × (Nat → Int32)) := bd1 (f_X3_has p0 x_this_rock_count) (fun r1 => (if r1 = 0 then some ((-1 : Int32), f_this_rock_rules_facts, x_this_trial_watch, x_this_trial_score, x_this_trial_home, f_this_trial_off) else bd4 (f_X6_become x_this_rock_now_watch x_this_rock_now_score x_this_rock_now_home f_this_rock_now_off f_this_trial_off) (fun y4 y5 y6 g7 => f_X8_rock_L29 p0 x_this_rock_count x_this_rock_end f_this_rock_buoys f_this_rock_currents f_this_rock_kinds f_this_rock_lanes f_this_rock_lights x_this_rock_rules_count f_this_rock_rules_begins f_this_rock_rules_deeds f_this_rock_rules_kinds f_this_rock_rules_lefts f_this_rock_rules_rights f_this_rock_rules_steps f_this_rock_trims 1000 (0 : Int32) f_this_rock_rules_facts y4 y5 y6 g7)))
set_option maxRecDepth 100000 in
set_option maxHeartbeats 4000000 in
theorem c_X8_rock {l : Launch} {G : Gt} {h_this h_this_rock h_this_kept h_this_trial h_this_planner h_this_reader h_this_draft h_this_host h_this_thing h_this_tape h_this_rows h_this_rock_kinds h_this_rock_trims h_this_rock_lanes h_this_rock_lights h_this_rock_currents h_this_rock_buoys h_this_rock_now h_this_rock_rules h_this_rock_reports h_this_rock_now_off h_this_rock_rules_kinds h_this_rock_rules_deeds h_this_rock_rules_begins h_this_rock_rules_steps h_this_rock_rules_lefts h_this_rock_rules_rights h_this_rock_rules_facts h_this_trial_off : Nat} {p0 : Int32} {x_this_tapeCount : Int32} {x_this_rowCount : Int32} {x_this_isKept : Int32} {x_this_rock_count : Int32} {x_this_rock_end : Int32} {x_this_rock_z : Int32} {f_this_rock_buoys : Nat → Int32} {f_this_rock_currents : Nat → Int32} {f_this_rock_kinds : Nat → Int32} {f_this_rock_lanes : Nat → Int32} {f_this_rock_lights : Nat → Int32} {x_this_rock_now_watch : Int32} {x_this_rock_now_score : Int32} {x_this_rock_now_home : Int32} {f_this_rock_now_off : Nat → Int32} {x_this_rock_rules_count : Int32} {x_this_rock_rules_size : Int32} {f_this_rock_rules_begins : Nat → Int32} {f_this_rock_rules_deeds : Nat → Int32} {f_this_rock_rules_facts : Nat → Int32} {f_this_rock_rules_kinds : Nat → Int32} {f_this_rock_rules_lefts : Nat → Int32} {f_this_rock_rules_rights : Nat → Int32} {f_this_rock_rules_steps : Nat → Int32} {f_this_rock_trims : Nat → Int32} {x_this_trial_watch : Int32} {x_this_trial_score : Int32} {x_this_trial_home : Int32} {f_this_trial_off : Nat → Int32} {r : Int32} {m_this_rock_rules_facts : Nat → Int32} {m_this_trial_watch : Int32} {m_this_trial_score : Int32} {m_this_trial_home : Int32} {m_this_trial_off : Nat → Int32} (hf : f_X8_rock p0 x_this_rock_count x_this_rock_end f_this_rock_buoys f_this_rock_currents f_this_rock_kinds f_this_rock_lanes f_this_rock_lights x_this_rock_now_watch x_this_rock_now_score x_this_rock_now_home f_this_rock_now_off x_this_rock_rules_count f_this_rock_rules_begins f_this_rock_rules_deeds f_this_rock_rules_facts f_this_rock_rules_kinds f_this_rock_rules_lefts f_this_rock_rules_rights f_this_rock_rules_steps f_this_rock_trims x_this_trial_watch x_this_trial_score x_this_trial_home f_this_trial_off = some (r, m_this_rock_rules_facts, m_this_trial_watch, m_this_trial_score, m_this_trial_home, m_this_trial_off)) : mFi l G yX8_rock cX8_rock 3 .int 6 [.ref h_this, .int p0] [(h_this, ob 8 [.ref h_this_rock, .ref h_this_kept, .ref h_this_trial, .ref h_this_planner, .ref h_this_reader, .ref h_this_draft, .ref h_this_host, .ref h_this_thing, .ref h_this_tape, .ref h_this_rows, .int x_this_tapeCount, .int x_this_rowCount, .int x_this_isKept]), (h_this_rock, ob 3 [.ref h_this_rock_kinds, .ref h_this_rock_trims, .ref h_this_rock_lanes, .ref h_this_rock_lights, .ref h_this_rock_currents, .ref h_this_rock_buoys, .ref h_this_rock_now, .ref h_this_rock_rules, .ref h_this_rock_reports, .int x_this_rock_count, .int x_this_rock_end, .int x_this_rock_z]), (h_this_rock_buoys, ia G 6 f_this_rock_buoys), (h_this_rock_currents, ia G 6 f_this_rock_currents), (h_this_rock_kinds, ia G 6 f_this_rock_kinds), (h_this_rock_lanes, ia G 6 f_this_rock_lanes), (h_this_rock_lights, ia G 16 f_this_rock_lights), (h_this_rock_now, ob 6 [.ref h_this_rock_now_off, .int x_this_rock_now_watch, .int x_this_rock_now_score, .int x_this_rock_now_home]), (h_this_rock_now_off, ia G 6 f_this_rock_now_off), (h_this_rock_rules, ob 5 [.ref h_this_rock_rules_kinds, .ref h_this_rock_rules_deeds, .ref h_this_rock_rules_begins, .ref h_this_rock_rules_steps, .ref h_this_rock_rules_lefts, .ref h_this_rock_rules_rights, .ref h_this_rock_rules_facts, .int x_this_rock_rules_count, .int x_this_rock_rules_size]), (h_this_rock_rules_begins, ia G 9 f_this_rock_rules_begins), (h_this_rock_rules_deeds, ia G 8 f_this_rock_rules_deeds), (h_this_rock_rules_facts, ia G 5 f_this_rock_rules_facts), (h_this_rock_rules_kinds, ia G 8 f_this_rock_rules_kinds), (h_this_rock_rules_lefts, ia G 200 f_this_rock_rules_lefts), (h_this_rock_rules_rights, ia G 200 f_this_rock_rules_rights), (h_this_rock_rules_steps, ia G 200 f_this_rock_rules_steps), (h_this_rock_trims, ia G 6 f_this_rock_trims), (h_this_trial, ob 6 [.ref h_this_trial_off, .int x_this_trial_watch, .int x_this_trial_score, .int x_this_trial_home]), (h_this_trial_off, ia G 6 f_this_trial_off)] r [(h_this, ob 8 [.ref h_this_rock, .ref h_this_kept, .ref h_this_trial, .ref h_this_planner, .ref h_this_reader, .ref h_this_draft, .ref h_this_host, .ref h_this_thing, .ref h_this_tape, .ref h_this_rows, .int x_this_tapeCount, .int x_this_rowCount, .int x_this_isKept]), (h_this_rock, ob 3 [.ref h_this_rock_kinds, .ref h_this_rock_trims, .ref h_this_rock_lanes, .ref h_this_rock_lights, .ref h_this_rock_currents, .ref h_this_rock_buoys, .ref h_this_rock_now, .ref h_this_rock_rules, .ref h_this_rock_reports, .int x_this_rock_count, .int x_this_rock_end, .int x_this_rock_z]), (h_this_rock_buoys, ia G 6 f_this_rock_buoys), (h_this_rock_currents, ia G 6 f_this_rock_currents), (h_this_rock_kinds, ia G 6 f_this_rock_kinds), (h_this_rock_lanes, ia G 6 f_this_rock_lanes), (h_this_rock_lights, ia G 16 f_this_rock_lights), (h_this_rock_now, ob 6 [.ref h_this_rock_now_off, .int x_this_rock_now_watch, .int x_this_rock_now_score, .int x_this_rock_now_home]), (h_this_rock_now_off, ia G 6 f_this_rock_now_off), (h_this_rock_rules, ob 5 [.ref h_this_rock_rules_kinds, .ref h_this_rock_rules_deeds, .ref h_this_rock_rules_begins, .ref h_this_rock_rules_steps, .ref h_this_rock_rules_lefts, .ref h_this_rock_rules_rights, .ref h_this_rock_rules_facts, .int x_this_rock_rules_count, .int x_this_rock_rules_size]), (h_this_rock_rules_begins, ia G 9 f_this_rock_rules_begins), (h_this_rock_rules_deeds, ia G 8 f_this_rock_rules_deeds), (h_this_rock_rules_facts, ia G 5 m_this_rock_rules_facts), (h_this_rock_rules_kinds, ia G 8 f_this_rock_rules_kinds), (h_this_rock_rules_lefts, ia G 200 f_this_rock_rules_lefts), (h_this_rock_rules_rights, ia G 200 f_this_rock_rules_rights), (h_this_rock_rules_steps, ia G 200 f_this_rock_rules_steps), (h_this_rock_trims, ia G 6 f_this_rock_trims), (h_this_trial, ob 6 [.ref h_this_trial_off, .int m_this_trial_watch, .int m_this_trial_score, .int m_this_trial_home]), (h_this_trial_off, ia G 6 m_this_trial_off)] := by
  refine mFi.of (by decide +kernel) (Nat.le_of_ble_eq_true rfl) ?_
  intro p e s m below meth c A C hr hlk h ls hl
  obtain ⟨hx, hb, hml, hown, hts⟩ := id C
  replace hl : lv_has ls 3 [(0, .ref h_this), (1, .int p0)] := hl
  unfold f_X8_rock at hf
  refine with_K G A 3 (fun K hK1 hK2 => ?_)
  have L29 : ∀ (n : Nat) (v2 : Int32) (g_this_rock_rules_facts : Nat → Int32) (y_this_trial_watch : Int32) (y_this_trial_score : Int32) (y_this_trial_home : Int32) (g_this_trial_off : Nat → Int32), f_X8_rock_L29 p0 x_this_rock_count x_this_rock_end f_this_rock_buoys f_this_rock_currents f_this_rock_kinds f_this_rock_lanes f_this_rock_lights x_this_rock_rules_count f_this_rock_rules_begins f_this_rock_rules_deeds f_this_rock_rules_kinds f_this_rock_rules_lefts f_this_rock_rules_rights f_this_rock_rules_steps f_this_rock_trims n v2 g_this_rock_rules_facts y_this_trial_watch y_this_trial_score y_this_trial_home g_this_trial_off = some (r, m_this_rock_rules_facts, m_this_trial_watch, m_this_trial_score, m_this_trial_home, m_this_trial_off) → K 29 ([] : List Value) [(h_this, ob 8 [.ref h_this_rock, .ref h_this_kept, .ref h_this_trial, .ref h_this_planner, .ref h_this_reader, .ref h_this_draft, .ref h_this_host, .ref h_this_thing, .ref h_this_tape, .ref h_this_rows, .int x_this_tapeCount, .int x_this_rowCount, .int x_this_isKept]), (h_this_rock, ob 3 [.ref h_this_rock_kinds, .ref h_this_rock_trims, .ref h_this_rock_lanes, .ref h_this_rock_lights, .ref h_this_rock_currents, .ref h_this_rock_buoys, .ref h_this_rock_now, .ref h_this_rock_rules, .ref h_this_rock_reports, .int x_this_rock_count, .int x_this_rock_end, .int x_this_rock_z]), (h_this_rock_buoys, ia G 6 f_this_rock_buoys), (h_this_rock_currents, ia G 6 f_this_rock_currents), (h_this_rock_kinds, ia G 6 f_this_rock_kinds), (h_this_rock_lanes, ia G 6 f_this_rock_lanes), (h_this_rock_lights, ia G 16 f_this_rock_lights), (h_this_rock_now, ob 6 [.ref h_this_rock_now_off, .int x_this_rock_now_watch, .int x_this_rock_now_score, .int x_this_rock_now_home]), (h_this_rock_now_off, ia G 6 f_this_rock_now_off), (h_this_rock_rules, ob 5 [.ref h_this_rock_rules_kinds, .ref h_this_rock_rules_deeds, .ref h_this_rock_rules_begins, .ref h_this_rock_rules_steps, .ref h_this_rock_rules_lefts, .ref h_this_rock_rules_rights, .ref h_this_rock_rules_facts, .int x_this_rock_rules_count, .int x_this_rock_rules_size]), (h_this_rock_rules_begins, ia G 9 f_this_rock_rules_begins), (h_this_rock_rules_deeds, ia G 8 f_this_rock_rules_deeds), (h_this_rock_rules_facts, ia G 5 g_this_rock_rules_facts), (h_this_rock_rules_kinds, ia G 8 f_this_rock_rules_kinds), (h_this_rock_rules_lefts, ia G 200 f_this_rock_rules_lefts), (h_this_rock_rules_rights, ia G 200 f_this_rock_rules_rights), (h_this_rock_rules_steps, ia G 200 f_this_rock_rules_steps), (h_this_rock_trims, ia G 6 f_this_rock_trims), (h_this_trial, ob 6 [.ref h_this_trial_off, .int y_this_trial_watch, .int y_this_trial_score, .int y_this_trial_home]), (h_this_trial_off, ia G 6 g_this_trial_off)] [(0, .ref h_this), (1, .int p0), (2, .int v2)] := by
    intro n
    induction n with
    | zero =>
      intro v2 g_this_rock_rules_facts y_this_trial_watch y_this_trial_score y_this_trial_home g_this_trial_off hf
      replace hf : (none : Option _) = some _ := hf
      cases hf
    | succ n ih =>
      intro v2 g_this_rock_rules_facts y_this_trial_watch y_this_trial_score y_this_trial_home g_this_trial_off hf
      rw [f_X8_rock_L29] at hf
      refine hK1 _ _ _ _ (fun H locs ls h hl => ?_)
      refine lv_iload_n hx hb dX8_rock_29 rfl (lv_at hl 2 rfl) ?_
      refine lv_bipush (v := (16 : Int32)) hx hb dX8_rock_30 rfl ?_
      refine lv_icmp_gt (tgt := 89) hx hb dX8_rock_32 rfl (fun c9 => ?_) (fun c9 => ?_)
      · replace hf := ifp c9 hf
        refine lv_bipush (v := (-3 : Int32)) hx hb dX8_rock_89 rfl ?_
        cases hf
        exact r_iret C h hr hlk rfl dX8_rock_91
      · replace hf := ifn c9 hf
        refine lv_aload_n hx hb dX8_rock_35 rfl (lv_at hl 0 rfl) ?_
        refine r_get C h fk_X8_22 0 rfl rfl dX8_rock_36 ?_
        refine lv_iload_n hx hb dX8_rock_39 rfl (lv_at hl 1 rfl) ?_
        replace hf := bd1_inv hf
        obtain ⟨r10, hc11, hf⟩ := hf
        refine r_ciV0 C h (c_X6_isOnRock hc11) mv_X8_195 rfl 18 rfl [18, 19] rfl rfl hl.1 rfl (Nat.le_of_ble_eq_true rfl) (rok (by decide)) dX8_rock_40 (fun H locs h => ?_)
        refine lv_if_eq (tgt := 54) hx hb dX8_rock_43 rfl (fun c12 => ?_) (fun c12 => ?_)
        · replace hf := ifp c12 hf
          refine lv_aload_n hx hb dX8_rock_54 rfl (lv_at hl 0 rfl) ?_
          refine r_get C h fk_X8_10 0 rfl rfl dX8_rock_55 ?_
          refine lv_aload_n hx hb dX8_rock_58 rfl (lv_at hl 0 rfl) ?_
          refine r_get C h fk_X8_22 0 rfl rfl dX8_rock_59 ?_
          replace hf := bd1_inv hf
          obtain ⟨r13, hc14, hf⟩ := hf
          refine r_ciV0 C h (c_X3_isOver hc14) mv_X8_159 rfl 1 rfl [18, 1] rfl rfl hl.1 rfl (Nat.le_of_ble_eq_true rfl) (rok (by decide)) dX8_rock_62 (fun H locs h => ?_)
          refine lv_if_eq (tgt := 71) hx hb dX8_rock_65 rfl (fun c15 => ?_) (fun c15 => ?_)
          · replace hf := ifp c15 hf
            refine lv_aload_n hx hb dX8_rock_71 rfl (lv_at hl 0 rfl) ?_
            refine r_get C h fk_X8_10 0 rfl rfl dX8_rock_72 ?_
            refine lv_aload_n hx hb dX8_rock_75 rfl (lv_at hl 0 rfl) ?_
            refine r_get C h fk_X8_22 0 rfl rfl dX8_rock_76 ?_
            replace hf := bd6_inv hf
            obtain ⟨r16, y17, y18, y19, g20, g21, hc22, hf⟩ := hf
            refine r_ciV (ws' := [(h_this, ob 8 [.ref h_this_rock, .ref h_this_kept, .ref h_this_trial, .ref h_this_planner, .ref h_this_reader, .ref h_this_draft, .ref h_this_host, .ref h_this_thing, .ref h_this_tape, .ref h_this_rows, .int x_this_tapeCount, .int x_this_rowCount, .int x_this_isKept]), (h_this_rock, ob 3 [.ref h_this_rock_kinds, .ref h_this_rock_trims, .ref h_this_rock_lanes, .ref h_this_rock_lights, .ref h_this_rock_currents, .ref h_this_rock_buoys, .ref h_this_rock_now, .ref h_this_rock_rules, .ref h_this_rock_reports, .int x_this_rock_count, .int x_this_rock_end, .int x_this_rock_z]), (h_this_rock_buoys, ia G 6 f_this_rock_buoys), (h_this_rock_currents, ia G 6 f_this_rock_currents), (h_this_rock_kinds, ia G 6 f_this_rock_kinds), (h_this_rock_lanes, ia G 6 f_this_rock_lanes), (h_this_rock_lights, ia G 16 f_this_rock_lights), (h_this_rock_now, ob 6 [.ref h_this_rock_now_off, .int x_this_rock_now_watch, .int x_this_rock_now_score, .int x_this_rock_now_home]), (h_this_rock_now_off, ia G 6 f_this_rock_now_off), (h_this_rock_rules, ob 5 [.ref h_this_rock_rules_kinds, .ref h_this_rock_rules_deeds, .ref h_this_rock_rules_begins, .ref h_this_rock_rules_steps, .ref h_this_rock_rules_lefts, .ref h_this_rock_rules_rights, .ref h_this_rock_rules_facts, .int x_this_rock_rules_count, .int x_this_rock_rules_size]), (h_this_rock_rules_begins, ia G 9 f_this_rock_rules_begins), (h_this_rock_rules_deeds, ia G 8 f_this_rock_rules_deeds), (h_this_rock_rules_facts, ia G 5 g21), (h_this_rock_rules_kinds, ia G 8 f_this_rock_rules_kinds), (h_this_rock_rules_lefts, ia G 200 f_this_rock_rules_lefts), (h_this_rock_rules_rights, ia G 200 f_this_rock_rules_rights), (h_this_rock_rules_steps, ia G 200 f_this_rock_rules_steps), (h_this_rock_trims, ia G 6 f_this_rock_trims), (h_this_trial, ob 6 [.ref h_this_trial_off, .int y17, .int y18, .int y19]), (h_this_trial_off, ia G 6 g20)]) C h (c_X3_passRest hc22) mv_X8_183 rfl 1 rfl [18, 19, 1, 2, 3, 4, 5, 6, 9, 10, 11, 12, 13, 14, 15, 16, 17] rfl rfl rfl rfl rfl hl.1 rfl (Nat.le_of_ble_eq_true rfl) (rok (by decide)) dX8_rock_79 (fun H locs h => ?_)
            refine lv_pop hx hb dX8_rock_82 rfl ?_
            obtain ⟨t23, et23⟩ : ∃ y : Int32, y = v2 + (1 : Int32) := ⟨_, rfl⟩
            replace hf := lt1_inv et23 hf
            refine lv_iinc (v := t23) (lv' := [(2, .int t23), (0, .ref h_this), (1, .int p0)]) hx hb dX8_rock_83 hl (k := 2) rfl (by rw [et23]; rfl) (by decide) rfl (fun ls hl => ?_)
            refine lv_goto (tgt := 29) hx hb dX8_rock_86 rfl ?_
            exact hK2 _ _ _ _ (ih t23 g21 y17 y18 y19 g20 hf) _ _ _ h (lv_sub hl [1, 2, 0] rfl)
          · replace hf := ifn c15 hf
            refine lv_bipush (v := (-3 : Int32)) hx hb dX8_rock_68 rfl ?_
            cases hf
            exact r_iret C h hr hlk rfl dX8_rock_70
        · replace hf := ifn c12 hf
          refine lv_aload_n hx hb dX8_rock_46 rfl (lv_at hl 0 rfl) ?_
          refine r_get C h fk_X8_22 0 rfl rfl dX8_rock_47 ?_
          refine r_get C h fk_X8_147 18 rfl rfl dX8_rock_50 ?_
          cases hf
          exact r_iret C h hr hlk rfl dX8_rock_53
  refine lv_aload_n hx hb dX8_rock_0 rfl (lv_at hl 0 rfl) ?_
  refine r_get C h fk_X8_10 0 rfl rfl dX8_rock_1 ?_
  refine lv_iload_n hx hb dX8_rock_4 rfl (lv_at hl 1 rfl) ?_
  replace hf := bd1_inv hf
  obtain ⟨r1, hc2, hf⟩ := hf
  refine r_ciV0 C h (c_X3_has hc2) mv_X8_90 rfl 1 rfl [1] rfl rfl hl.1 rfl (Nat.le_of_ble_eq_true rfl) (rok (by decide)) dX8_rock_5 (fun H locs h => ?_)
  refine lv_if_ne (tgt := 13) hx hb dX8_rock_8 rfl (fun c3 => ?_) (fun c3 => ?_)
  · replace hf := ifn c3 hf
    refine lv_aload_n hx hb dX8_rock_13 rfl (lv_at hl 0 rfl) ?_
    refine r_get C h fk_X8_22 0 rfl rfl dX8_rock_14 ?_
    refine lv_aload_n hx hb dX8_rock_17 rfl (lv_at hl 0 rfl) ?_
    refine r_get C h fk_X8_10 0 rfl rfl dX8_rock_18 ?_
    refine r_get C h fk_X8_94 1 rfl rfl dX8_rock_21 ?_
    replace hf := bd4_inv hf
    obtain ⟨y4, y5, y6, g7, hc8, hf⟩ := hf
    refine r_cvV (ws' := [(h_this, ob 8 [.ref h_this_rock, .ref h_this_kept, .ref h_this_trial, .ref h_this_planner, .ref h_this_reader, .ref h_this_draft, .ref h_this_host, .ref h_this_thing, .ref h_this_tape, .ref h_this_rows, .int x_this_tapeCount, .int x_this_rowCount, .int x_this_isKept]), (h_this_rock, ob 3 [.ref h_this_rock_kinds, .ref h_this_rock_trims, .ref h_this_rock_lanes, .ref h_this_rock_lights, .ref h_this_rock_currents, .ref h_this_rock_buoys, .ref h_this_rock_now, .ref h_this_rock_rules, .ref h_this_rock_reports, .int x_this_rock_count, .int x_this_rock_end, .int x_this_rock_z]), (h_this_rock_buoys, ia G 6 f_this_rock_buoys), (h_this_rock_currents, ia G 6 f_this_rock_currents), (h_this_rock_kinds, ia G 6 f_this_rock_kinds), (h_this_rock_lanes, ia G 6 f_this_rock_lanes), (h_this_rock_lights, ia G 16 f_this_rock_lights), (h_this_rock_now, ob 6 [.ref h_this_rock_now_off, .int x_this_rock_now_watch, .int x_this_rock_now_score, .int x_this_rock_now_home]), (h_this_rock_now_off, ia G 6 f_this_rock_now_off), (h_this_rock_rules, ob 5 [.ref h_this_rock_rules_kinds, .ref h_this_rock_rules_deeds, .ref h_this_rock_rules_begins, .ref h_this_rock_rules_steps, .ref h_this_rock_rules_lefts, .ref h_this_rock_rules_rights, .ref h_this_rock_rules_facts, .int x_this_rock_rules_count, .int x_this_rock_rules_size]), (h_this_rock_rules_begins, ia G 9 f_this_rock_rules_begins), (h_this_rock_rules_deeds, ia G 8 f_this_rock_rules_deeds), (h_this_rock_rules_facts, ia G 5 f_this_rock_rules_facts), (h_this_rock_rules_kinds, ia G 8 f_this_rock_rules_kinds), (h_this_rock_rules_lefts, ia G 200 f_this_rock_rules_lefts), (h_this_rock_rules_rights, ia G 200 f_this_rock_rules_rights), (h_this_rock_rules_steps, ia G 200 f_this_rock_rules_steps), (h_this_rock_trims, ia G 6 f_this_rock_trims), (h_this_trial, ob 6 [.ref h_this_trial_off, .int y4, .int y5, .int y6]), (h_this_trial_off, ia G 6 g7)]) C h (c_X6_become hc8) mv_X8_189 rfl 18 rfl [7, 8, 18, 19] rfl rfl rfl rfl rfl hl.1 rfl (Nat.le_of_ble_eq_true rfl) (rok (by decide)) dX8_rock_24 (fun H locs h => ?_)
    refine lv_iconst (v := (0 : Int32)) hx hb dX8_rock_27 rfl ?_
    refine lv_istore_n (lv' := [(2, .int (0 : Int32)), (0, .ref h_this), (1, .int p0)]) hx hb dX8_rock_28 rfl hl (by decide) rfl (fun ls hl => ?_)
    exact hK2 _ _ _ _ (L29 1000 (0 : Int32) f_this_rock_rules_facts y4 y5 y6 g7 hf) _ _ _ h (lv_sub hl [1, 2, 0] rfl)
  · replace hf := ifp c3 hf
    refine lv_iconst (v := (-1 : Int32)) hx hb dX8_rock_11 rfl ?_
    cases hf
    exact r_iret C h hr hlk rfl dX8_rock_12
def f_X8_least_L15 (p0 : Int32) (f_this_rock_buoys : Nat → Int32) (f_this_rock_kinds : Nat → Int32) (f_this_rock_lanes : Nat → Int32) (f_this_rock_lights : Nat → Int32) (x_this_rock_now_watch : Int32) (x_this_rock_now_home : Int32) (f_this_rock_now_off : Nat → Int32) : Nat → Int32 → Option (Int32)
  | 0, _ => none
  | n + 1, v2 => (if (9 : Int32) < v2 then some (-3 : Int32) else bd1 (f_X3_inReach p0 v2 x_this_rock_now_watch x_this_rock_now_home f_this_rock_now_off f_this_rock_buoys f_this_rock_kinds f_this_rock_lanes f_this_rock_lights) (fun r5 => (if r5 = 0 then lt1 (v2 + (1 : Int32)) (fun (t8 : Int32) => (f_X8_least_L15 p0 f_this_rock_buoys f_this_rock_kinds f_this_rock_lanes f_this_rock_lights x_this_rock_now_watch x_this_rock_now_home f_this_rock_now_off n) t8) else some v2)))
def f_X8_least (p0 : Int32) (x_this_rock_count : Int32) (f_this_rock_buoys : Nat → Int32) (f_this_rock_kinds : Nat → Int32) (f_this_rock_lanes : Nat → Int32) (f_this_rock_lights : Nat → Int32) (x_this_rock_now_watch : Int32) (x_this_rock_now_home : Int32) (f_this_rock_now_off : Nat → Int32) : Option (Int32) := bd1 (f_X3_has p0 x_this_rock_count) (fun r1 => (if r1 = 0 then some (-1 : Int32) else f_X8_least_L15 p0 f_this_rock_buoys f_this_rock_kinds f_this_rock_lanes f_this_rock_lights x_this_rock_now_watch x_this_rock_now_home f_this_rock_now_off 1000 (0 : Int32)))
set_option maxRecDepth 100000 in
set_option maxHeartbeats 4000000 in
theorem c_X8_least {l : Launch} {G : Gt} {h_this h_this_rock h_this_kept h_this_trial h_this_planner h_this_reader h_this_draft h_this_host h_this_thing h_this_tape h_this_rows h_this_rock_kinds h_this_rock_trims h_this_rock_lanes h_this_rock_lights h_this_rock_currents h_this_rock_buoys h_this_rock_now h_this_rock_rules h_this_rock_reports h_this_rock_now_off : Nat} {p0 : Int32} {x_this_tapeCount : Int32} {x_this_rowCount : Int32} {x_this_isKept : Int32} {x_this_rock_count : Int32} {x_this_rock_end : Int32} {x_this_rock_z : Int32} {f_this_rock_buoys : Nat → Int32} {f_this_rock_kinds : Nat → Int32} {f_this_rock_lanes : Nat → Int32} {f_this_rock_lights : Nat → Int32} {x_this_rock_now_watch : Int32} {x_this_rock_now_score : Int32} {x_this_rock_now_home : Int32} {f_this_rock_now_off : Nat → Int32} {r : Int32} (hf : f_X8_least p0 x_this_rock_count f_this_rock_buoys f_this_rock_kinds f_this_rock_lanes f_this_rock_lights x_this_rock_now_watch x_this_rock_now_home f_this_rock_now_off = some r) : mFi l G yX8_least cX8_least 3 .int 3 [.ref h_this, .int p0] [(h_this, ob 8 [.ref h_this_rock, .ref h_this_kept, .ref h_this_trial, .ref h_this_planner, .ref h_this_reader, .ref h_this_draft, .ref h_this_host, .ref h_this_thing, .ref h_this_tape, .ref h_this_rows, .int x_this_tapeCount, .int x_this_rowCount, .int x_this_isKept]), (h_this_rock, ob 3 [.ref h_this_rock_kinds, .ref h_this_rock_trims, .ref h_this_rock_lanes, .ref h_this_rock_lights, .ref h_this_rock_currents, .ref h_this_rock_buoys, .ref h_this_rock_now, .ref h_this_rock_rules, .ref h_this_rock_reports, .int x_this_rock_count, .int x_this_rock_end, .int x_this_rock_z]), (h_this_rock_buoys, ia G 6 f_this_rock_buoys), (h_this_rock_kinds, ia G 6 f_this_rock_kinds), (h_this_rock_lanes, ia G 6 f_this_rock_lanes), (h_this_rock_lights, ia G 16 f_this_rock_lights), (h_this_rock_now, ob 6 [.ref h_this_rock_now_off, .int x_this_rock_now_watch, .int x_this_rock_now_score, .int x_this_rock_now_home]), (h_this_rock_now_off, ia G 6 f_this_rock_now_off)] r [(h_this, ob 8 [.ref h_this_rock, .ref h_this_kept, .ref h_this_trial, .ref h_this_planner, .ref h_this_reader, .ref h_this_draft, .ref h_this_host, .ref h_this_thing, .ref h_this_tape, .ref h_this_rows, .int x_this_tapeCount, .int x_this_rowCount, .int x_this_isKept]), (h_this_rock, ob 3 [.ref h_this_rock_kinds, .ref h_this_rock_trims, .ref h_this_rock_lanes, .ref h_this_rock_lights, .ref h_this_rock_currents, .ref h_this_rock_buoys, .ref h_this_rock_now, .ref h_this_rock_rules, .ref h_this_rock_reports, .int x_this_rock_count, .int x_this_rock_end, .int x_this_rock_z]), (h_this_rock_buoys, ia G 6 f_this_rock_buoys), (h_this_rock_kinds, ia G 6 f_this_rock_kinds), (h_this_rock_lanes, ia G 6 f_this_rock_lanes), (h_this_rock_lights, ia G 16 f_this_rock_lights), (h_this_rock_now, ob 6 [.ref h_this_rock_now_off, .int x_this_rock_now_watch, .int x_this_rock_now_score, .int x_this_rock_now_home]), (h_this_rock_now_off, ia G 6 f_this_rock_now_off)] := by
  refine mFi.of (by decide +kernel) (Nat.le_of_ble_eq_true rfl) ?_
  intro p e s m below meth c A C hr hlk h ls hl
  obtain ⟨hx, hb, hml, hown, hts⟩ := id C
  replace hl : lv_has ls 3 [(0, .ref h_this), (1, .int p0)] := hl
  unfold f_X8_least at hf
  refine with_K G A 3 (fun K hK1 hK2 => ?_)
  have L15 : ∀ (n : Nat) (v2 : Int32), f_X8_least_L15 p0 f_this_rock_buoys f_this_rock_kinds f_this_rock_lanes f_this_rock_lights x_this_rock_now_watch x_this_rock_now_home f_this_rock_now_off n v2 = some r → K 15 ([] : List Value) [(h_this, ob 8 [.ref h_this_rock, .ref h_this_kept, .ref h_this_trial, .ref h_this_planner, .ref h_this_reader, .ref h_this_draft, .ref h_this_host, .ref h_this_thing, .ref h_this_tape, .ref h_this_rows, .int x_this_tapeCount, .int x_this_rowCount, .int x_this_isKept]), (h_this_rock, ob 3 [.ref h_this_rock_kinds, .ref h_this_rock_trims, .ref h_this_rock_lanes, .ref h_this_rock_lights, .ref h_this_rock_currents, .ref h_this_rock_buoys, .ref h_this_rock_now, .ref h_this_rock_rules, .ref h_this_rock_reports, .int x_this_rock_count, .int x_this_rock_end, .int x_this_rock_z]), (h_this_rock_buoys, ia G 6 f_this_rock_buoys), (h_this_rock_kinds, ia G 6 f_this_rock_kinds), (h_this_rock_lanes, ia G 6 f_this_rock_lanes), (h_this_rock_lights, ia G 16 f_this_rock_lights), (h_this_rock_now, ob 6 [.ref h_this_rock_now_off, .int x_this_rock_now_watch, .int x_this_rock_now_score, .int x_this_rock_now_home]), (h_this_rock_now_off, ia G 6 f_this_rock_now_off)] [(0, .ref h_this), (1, .int p0), (2, .int v2)] := by
    intro n
    induction n with
    | zero =>
      intro v2 hf
      replace hf : (none : Option _) = some _ := hf
      cases hf
    | succ n ih =>
      intro v2 hf
      rw [f_X8_least_L15] at hf
      refine hK1 _ _ _ _ (fun H locs ls h hl => ?_)
      refine lv_iload_n hx hb dX8_least_15 rfl (lv_at hl 2 rfl) ?_
      refine lv_bipush (v := (9 : Int32)) hx hb dX8_least_16 rfl ?_
      refine lv_icmp_gt (tgt := 48) hx hb dX8_least_18 rfl (fun c4 => ?_) (fun c4 => ?_)
      · replace hf := ifp c4 hf
        refine lv_bipush (v := (-3 : Int32)) hx hb dX8_least_48 rfl ?_
        cases hf
        exact r_iret C h hr hlk rfl dX8_least_50
      · replace hf := ifn c4 hf
        refine lv_aload_n hx hb dX8_least_21 rfl (lv_at hl 0 rfl) ?_
        refine r_get C h fk_X8_10 0 rfl rfl dX8_least_22 ?_
        refine lv_aload_n hx hb dX8_least_25 rfl (lv_at hl 0 rfl) ?_
        refine r_get C h fk_X8_10 0 rfl rfl dX8_least_26 ?_
        refine r_get C h fk_X8_94 1 rfl rfl dX8_least_29 ?_
        refine lv_iload_n hx hb dX8_least_32 rfl (lv_at hl 1 rfl) ?_
        refine lv_iload_n hx hb dX8_least_33 rfl (lv_at hl 2 rfl) ?_
        replace hf := bd1_inv hf
        obtain ⟨r5, hc6, hf⟩ := hf
        refine r_ciV0 C h (c_X3_inReach hc6) mv_X8_198 rfl 1 rfl [6, 7, 1, 2, 3, 4, 5] rfl rfl hl.1 rfl (Nat.le_of_ble_eq_true rfl) (rok (by decide)) dX8_least_34 (fun H locs h => ?_)
        refine lv_if_eq (tgt := 42) hx hb dX8_least_37 rfl (fun c7 => ?_) (fun c7 => ?_)
        · replace hf := ifp c7 hf
          obtain ⟨t8, et8⟩ : ∃ y : Int32, y = v2 + (1 : Int32) := ⟨_, rfl⟩
          replace hf := lt1_inv et8 hf
          refine lv_iinc (v := t8) (lv' := [(2, .int t8), (0, .ref h_this), (1, .int p0)]) hx hb dX8_least_42 hl (k := 2) rfl (by rw [et8]; rfl) (by decide) rfl (fun ls hl => ?_)
          refine lv_goto (tgt := 15) hx hb dX8_least_45 rfl ?_
          exact hK2 _ _ _ _ (ih t8 hf) _ _ _ h (lv_sub hl [1, 2, 0] rfl)
        · replace hf := ifn c7 hf
          refine lv_iload_n hx hb dX8_least_40 rfl (lv_at hl 2 rfl) ?_
          cases hf
          exact r_iret C h hr hlk rfl dX8_least_41
  refine lv_aload_n hx hb dX8_least_0 rfl (lv_at hl 0 rfl) ?_
  refine r_get C h fk_X8_10 0 rfl rfl dX8_least_1 ?_
  refine lv_iload_n hx hb dX8_least_4 rfl (lv_at hl 1 rfl) ?_
  replace hf := bd1_inv hf
  obtain ⟨r1, hc2, hf⟩ := hf
  refine r_ciV0 C h (c_X3_has hc2) mv_X8_90 rfl 1 rfl [1] rfl rfl hl.1 rfl (Nat.le_of_ble_eq_true rfl) (rok (by decide)) dX8_least_5 (fun H locs h => ?_)
  refine lv_if_ne (tgt := 13) hx hb dX8_least_8 rfl (fun c3 => ?_) (fun c3 => ?_)
  · replace hf := ifn c3 hf
    refine lv_iconst (v := (0 : Int32)) hx hb dX8_least_13 rfl ?_
    refine lv_istore_n (lv' := [(2, .int (0 : Int32)), (0, .ref h_this), (1, .int p0)]) hx hb dX8_least_14 rfl hl (by decide) rfl (fun ls hl => ?_)
    exact hK2 _ _ _ _ (L15 1000 (0 : Int32) hf) _ _ _ h (lv_sub hl [1, 2, 0] rfl)
  · replace hf := ifp c3 hf
    refine lv_iconst (v := (-1 : Int32)) hx hb dX8_least_11 rfl ?_
    cases hf
    exact r_iret C h hr hlk rfl dX8_least_12
def f_X8_safe_L22 (x_this_rock_count : Int32) : Nat → Int32 → Int32 → (Nat → Int32) → Int32 → Int32 → Int32 → (Nat → Int32) → Option (Int32 × (Nat → Int32) × Int32 × Int32 × Int32 × (Nat → Int32))
  | 0, _, _, _, _, _, _, _ => none
  | n + 1, v2, v3, g_this_rock_rules_facts, y_this_trial_watch, y_this_trial_score, y_this_trial_home, g_this_trial_off => (if x_this_rock_count ≤ v3 then some (v2, g_this_rock_rules_facts, y_this_trial_watch, y_this_trial_score, y_this_trial_home, g_this_trial_off) else bd1 (f_X6_isOnRock v3 y_this_trial_home g_this_trial_off) (fun r12 => (if r12 = 0 then lt1 (v2 ||| ((1 : Int32) <<< (v3 &&& 31))) (fun (t16 : Int32) => lt1 (v3 + (1 : Int32)) (fun (t17 : Int32) => (f_X8_safe_L22 x_this_rock_count n) t16 t17 g_this_rock_rules_facts y_this_trial_watch y_this_trial_score y_this_trial_home g_this_trial_off)) else lt1 (v3 + (1 : Int32)) (fun (t15 : Int32) => (f_X8_safe_L22 x_this_rock_count n) v2 t15 g_this_rock_rules_facts y_this_trial_watch y_this_trial_score y_this_trial_home g_this_trial_off))))
def f_X8_safe (p0 : Int32) (x_this_rock_count : Int32) (x_this_rock_end : Int32) (f_this_rock_buoys : Nat → Int32) (f_this_rock_currents : Nat → Int32) (f_this_rock_kinds : Nat → Int32) (f_this_rock_lanes : Nat → Int32) (f_this_rock_lights : Nat → Int32) (x_this_rock_now_watch : Int32) (x_this_rock_now_score : Int32) (x_this_rock_now_home : Int32) (f_this_rock_now_off : Nat → Int32) (x_this_rock_rules_count : Int32) (f_this_rock_rules_begins : Nat → Int32) (f_this_rock_rules_deeds : Nat → Int32) (f_this_rock_rules_facts : Nat → Int32) (f_this_rock_rules_kinds : Nat → Int32) (f_this_rock_rules_lefts : Nat → Int32) (f_this_rock_rules_rights : Nat → Int32) (f_this_rock_rules_steps : Nat → Int32) (f_this_rock_trims : Nat → Int32) (x_this_trial_watch : Int32) (x_this_trial_score : Int32) (x_this_trial_home : Int32) (f_this_trial_off : Nat → Int32) : Option (Int32 × (Nat → Int32) × Int32 × Int32 × Int32 × (Nat → Int32)) := bd1 (f_X8_within p0 (0 : Int32) (16 : Int32)) (fun r1 => (if r1 = 0 then some ((-1 : Int32), f_this_rock_rules_facts, x_this_trial_watch, x_this_trial_score, x_this_trial_home, f_this_trial_off) else bd6 (f_X8_worthOfRest p0 x_this_rock_count x_this_rock_end f_this_rock_buoys f_this_rock_currents f_this_rock_kinds f_this_rock_lanes f_this_rock_lights x_this_rock_now_watch x_this_rock_now_score x_this_rock_now_home f_this_rock_now_off x_this_rock_rules_count f_this_rock_rules_begins f_this_rock_rules_deeds f_this_rock_rules_facts f_this_rock_rules_kinds f_this_rock_rules_lefts f_this_rock_rules_rights f_this_rock_rules_steps f_this_rock_trims f_this_trial_off) (fun r4 g5 y6 y7 y8 g9 => f_X8_safe_L22 x_this_rock_count 1000 (0 : Int32) (0 : Int32) g5 y6 y7 y8 g9)))
set_option maxRecDepth 100000 in
set_option maxHeartbeats 4000000 in
theorem c_X8_safe {l : Launch} {G : Gt} {h_this h_this_rock h_this_kept h_this_trial h_this_planner h_this_reader h_this_draft h_this_host h_this_thing h_this_tape h_this_rows h_this_rock_kinds h_this_rock_trims h_this_rock_lanes h_this_rock_lights h_this_rock_currents h_this_rock_buoys h_this_rock_now h_this_rock_rules h_this_rock_reports h_this_rock_now_off h_this_rock_rules_kinds h_this_rock_rules_deeds h_this_rock_rules_begins h_this_rock_rules_steps h_this_rock_rules_lefts h_this_rock_rules_rights h_this_rock_rules_facts h_this_trial_off : Nat} {p0 : Int32} {x_this_tapeCount : Int32} {x_this_rowCount : Int32} {x_this_isKept : Int32} {x_this_rock_count : Int32} {x_this_rock_end : Int32} {x_this_rock_z : Int32} {f_this_rock_buoys : Nat → Int32} {f_this_rock_currents : Nat → Int32} {f_this_rock_kinds : Nat → Int32} {f_this_rock_lanes : Nat → Int32} {f_this_rock_lights : Nat → Int32} {x_this_rock_now_watch : Int32} {x_this_rock_now_score : Int32} {x_this_rock_now_home : Int32} {f_this_rock_now_off : Nat → Int32} {x_this_rock_rules_count : Int32} {x_this_rock_rules_size : Int32} {f_this_rock_rules_begins : Nat → Int32} {f_this_rock_rules_deeds : Nat → Int32} {f_this_rock_rules_facts : Nat → Int32} {f_this_rock_rules_kinds : Nat → Int32} {f_this_rock_rules_lefts : Nat → Int32} {f_this_rock_rules_rights : Nat → Int32} {f_this_rock_rules_steps : Nat → Int32} {f_this_rock_trims : Nat → Int32} {x_this_trial_watch : Int32} {x_this_trial_score : Int32} {x_this_trial_home : Int32} {f_this_trial_off : Nat → Int32} {r : Int32} {m_this_rock_rules_facts : Nat → Int32} {m_this_trial_watch : Int32} {m_this_trial_score : Int32} {m_this_trial_home : Int32} {m_this_trial_off : Nat → Int32} (hf : f_X8_safe p0 x_this_rock_count x_this_rock_end f_this_rock_buoys f_this_rock_currents f_this_rock_kinds f_this_rock_lanes f_this_rock_lights x_this_rock_now_watch x_this_rock_now_score x_this_rock_now_home f_this_rock_now_off x_this_rock_rules_count f_this_rock_rules_begins f_this_rock_rules_deeds f_this_rock_rules_facts f_this_rock_rules_kinds f_this_rock_rules_lefts f_this_rock_rules_rights f_this_rock_rules_steps f_this_rock_trims x_this_trial_watch x_this_trial_score x_this_trial_home f_this_trial_off = some (r, m_this_rock_rules_facts, m_this_trial_watch, m_this_trial_score, m_this_trial_home, m_this_trial_off)) : mFi l G yX8_safe cX8_safe 4 .int 7 [.ref h_this, .int p0] [(h_this, ob 8 [.ref h_this_rock, .ref h_this_kept, .ref h_this_trial, .ref h_this_planner, .ref h_this_reader, .ref h_this_draft, .ref h_this_host, .ref h_this_thing, .ref h_this_tape, .ref h_this_rows, .int x_this_tapeCount, .int x_this_rowCount, .int x_this_isKept]), (h_this_rock, ob 3 [.ref h_this_rock_kinds, .ref h_this_rock_trims, .ref h_this_rock_lanes, .ref h_this_rock_lights, .ref h_this_rock_currents, .ref h_this_rock_buoys, .ref h_this_rock_now, .ref h_this_rock_rules, .ref h_this_rock_reports, .int x_this_rock_count, .int x_this_rock_end, .int x_this_rock_z]), (h_this_rock_buoys, ia G 6 f_this_rock_buoys), (h_this_rock_currents, ia G 6 f_this_rock_currents), (h_this_rock_kinds, ia G 6 f_this_rock_kinds), (h_this_rock_lanes, ia G 6 f_this_rock_lanes), (h_this_rock_lights, ia G 16 f_this_rock_lights), (h_this_rock_now, ob 6 [.ref h_this_rock_now_off, .int x_this_rock_now_watch, .int x_this_rock_now_score, .int x_this_rock_now_home]), (h_this_rock_now_off, ia G 6 f_this_rock_now_off), (h_this_rock_rules, ob 5 [.ref h_this_rock_rules_kinds, .ref h_this_rock_rules_deeds, .ref h_this_rock_rules_begins, .ref h_this_rock_rules_steps, .ref h_this_rock_rules_lefts, .ref h_this_rock_rules_rights, .ref h_this_rock_rules_facts, .int x_this_rock_rules_count, .int x_this_rock_rules_size]), (h_this_rock_rules_begins, ia G 9 f_this_rock_rules_begins), (h_this_rock_rules_deeds, ia G 8 f_this_rock_rules_deeds), (h_this_rock_rules_facts, ia G 5 f_this_rock_rules_facts), (h_this_rock_rules_kinds, ia G 8 f_this_rock_rules_kinds), (h_this_rock_rules_lefts, ia G 200 f_this_rock_rules_lefts), (h_this_rock_rules_rights, ia G 200 f_this_rock_rules_rights), (h_this_rock_rules_steps, ia G 200 f_this_rock_rules_steps), (h_this_rock_trims, ia G 6 f_this_rock_trims), (h_this_trial, ob 6 [.ref h_this_trial_off, .int x_this_trial_watch, .int x_this_trial_score, .int x_this_trial_home]), (h_this_trial_off, ia G 6 f_this_trial_off)] r [(h_this, ob 8 [.ref h_this_rock, .ref h_this_kept, .ref h_this_trial, .ref h_this_planner, .ref h_this_reader, .ref h_this_draft, .ref h_this_host, .ref h_this_thing, .ref h_this_tape, .ref h_this_rows, .int x_this_tapeCount, .int x_this_rowCount, .int x_this_isKept]), (h_this_rock, ob 3 [.ref h_this_rock_kinds, .ref h_this_rock_trims, .ref h_this_rock_lanes, .ref h_this_rock_lights, .ref h_this_rock_currents, .ref h_this_rock_buoys, .ref h_this_rock_now, .ref h_this_rock_rules, .ref h_this_rock_reports, .int x_this_rock_count, .int x_this_rock_end, .int x_this_rock_z]), (h_this_rock_buoys, ia G 6 f_this_rock_buoys), (h_this_rock_currents, ia G 6 f_this_rock_currents), (h_this_rock_kinds, ia G 6 f_this_rock_kinds), (h_this_rock_lanes, ia G 6 f_this_rock_lanes), (h_this_rock_lights, ia G 16 f_this_rock_lights), (h_this_rock_now, ob 6 [.ref h_this_rock_now_off, .int x_this_rock_now_watch, .int x_this_rock_now_score, .int x_this_rock_now_home]), (h_this_rock_now_off, ia G 6 f_this_rock_now_off), (h_this_rock_rules, ob 5 [.ref h_this_rock_rules_kinds, .ref h_this_rock_rules_deeds, .ref h_this_rock_rules_begins, .ref h_this_rock_rules_steps, .ref h_this_rock_rules_lefts, .ref h_this_rock_rules_rights, .ref h_this_rock_rules_facts, .int x_this_rock_rules_count, .int x_this_rock_rules_size]), (h_this_rock_rules_begins, ia G 9 f_this_rock_rules_begins), (h_this_rock_rules_deeds, ia G 8 f_this_rock_rules_deeds), (h_this_rock_rules_facts, ia G 5 m_this_rock_rules_facts), (h_this_rock_rules_kinds, ia G 8 f_this_rock_rules_kinds), (h_this_rock_rules_lefts, ia G 200 f_this_rock_rules_lefts), (h_this_rock_rules_rights, ia G 200 f_this_rock_rules_rights), (h_this_rock_rules_steps, ia G 200 f_this_rock_rules_steps), (h_this_rock_trims, ia G 6 f_this_rock_trims), (h_this_trial, ob 6 [.ref h_this_trial_off, .int m_this_trial_watch, .int m_this_trial_score, .int m_this_trial_home]), (h_this_trial_off, ia G 6 m_this_trial_off)] := by
  refine mFi.of (by decide +kernel) (Nat.le_of_ble_eq_true rfl) ?_
  intro p e s m below meth c A C hr hlk h ls hl
  obtain ⟨hx, hb, hml, hown, hts⟩ := id C
  replace hl : lv_has ls 4 [(0, .ref h_this), (1, .int p0)] := hl
  unfold f_X8_safe at hf
  refine with_K G A 4 (fun K hK1 hK2 => ?_)
  have L22 : ∀ (n : Nat) (v2 : Int32) (v3 : Int32) (g_this_rock_rules_facts : Nat → Int32) (y_this_trial_watch : Int32) (y_this_trial_score : Int32) (y_this_trial_home : Int32) (g_this_trial_off : Nat → Int32), f_X8_safe_L22 x_this_rock_count n v2 v3 g_this_rock_rules_facts y_this_trial_watch y_this_trial_score y_this_trial_home g_this_trial_off = some (r, m_this_rock_rules_facts, m_this_trial_watch, m_this_trial_score, m_this_trial_home, m_this_trial_off) → K 22 ([] : List Value) [(h_this, ob 8 [.ref h_this_rock, .ref h_this_kept, .ref h_this_trial, .ref h_this_planner, .ref h_this_reader, .ref h_this_draft, .ref h_this_host, .ref h_this_thing, .ref h_this_tape, .ref h_this_rows, .int x_this_tapeCount, .int x_this_rowCount, .int x_this_isKept]), (h_this_rock, ob 3 [.ref h_this_rock_kinds, .ref h_this_rock_trims, .ref h_this_rock_lanes, .ref h_this_rock_lights, .ref h_this_rock_currents, .ref h_this_rock_buoys, .ref h_this_rock_now, .ref h_this_rock_rules, .ref h_this_rock_reports, .int x_this_rock_count, .int x_this_rock_end, .int x_this_rock_z]), (h_this_rock_buoys, ia G 6 f_this_rock_buoys), (h_this_rock_currents, ia G 6 f_this_rock_currents), (h_this_rock_kinds, ia G 6 f_this_rock_kinds), (h_this_rock_lanes, ia G 6 f_this_rock_lanes), (h_this_rock_lights, ia G 16 f_this_rock_lights), (h_this_rock_now, ob 6 [.ref h_this_rock_now_off, .int x_this_rock_now_watch, .int x_this_rock_now_score, .int x_this_rock_now_home]), (h_this_rock_now_off, ia G 6 f_this_rock_now_off), (h_this_rock_rules, ob 5 [.ref h_this_rock_rules_kinds, .ref h_this_rock_rules_deeds, .ref h_this_rock_rules_begins, .ref h_this_rock_rules_steps, .ref h_this_rock_rules_lefts, .ref h_this_rock_rules_rights, .ref h_this_rock_rules_facts, .int x_this_rock_rules_count, .int x_this_rock_rules_size]), (h_this_rock_rules_begins, ia G 9 f_this_rock_rules_begins), (h_this_rock_rules_deeds, ia G 8 f_this_rock_rules_deeds), (h_this_rock_rules_facts, ia G 5 g_this_rock_rules_facts), (h_this_rock_rules_kinds, ia G 8 f_this_rock_rules_kinds), (h_this_rock_rules_lefts, ia G 200 f_this_rock_rules_lefts), (h_this_rock_rules_rights, ia G 200 f_this_rock_rules_rights), (h_this_rock_rules_steps, ia G 200 f_this_rock_rules_steps), (h_this_rock_trims, ia G 6 f_this_rock_trims), (h_this_trial, ob 6 [.ref h_this_trial_off, .int y_this_trial_watch, .int y_this_trial_score, .int y_this_trial_home]), (h_this_trial_off, ia G 6 g_this_trial_off)] [(0, .ref h_this), (2, .int v2), (3, .int v3)] := by
    intro n
    induction n with
    | zero =>
      intro v2 v3 g_this_rock_rules_facts y_this_trial_watch y_this_trial_score y_this_trial_home g_this_trial_off hf
      replace hf : (none : Option _) = some _ := hf
      cases hf
    | succ n ih =>
      intro v2 v3 g_this_rock_rules_facts y_this_trial_watch y_this_trial_score y_this_trial_home g_this_trial_off hf
      rw [f_X8_safe_L22] at hf
      refine hK1 _ _ _ _ (fun H locs ls h hl => ?_)
      refine lv_iload_n hx hb dX8_safe_22 rfl (lv_at hl 2 rfl) ?_
      refine lv_aload_n hx hb dX8_safe_23 rfl (lv_at hl 0 rfl) ?_
      refine r_get C h fk_X8_10 0 rfl rfl dX8_safe_24 ?_
      refine r_get C h fk_X8_83 1 rfl rfl dX8_safe_27 ?_
      refine lv_icmp_ge (tgt := 56) hx hb dX8_safe_30 rfl (fun c11 => ?_) (fun c11 => ?_)
      · replace hf := ifp c11 hf
        refine lv_iload_n hx hb dX8_safe_56 rfl (lv_at hl 1 rfl) ?_
        cases hf
        exact r_iret C h hr hlk rfl dX8_safe_57
      · replace hf := ifn c11 hf
        refine lv_aload_n hx hb dX8_safe_33 rfl (lv_at hl 0 rfl) ?_
        refine r_get C h fk_X8_22 0 rfl rfl dX8_safe_34 ?_
        refine lv_iload_n hx hb dX8_safe_37 rfl (lv_at hl 2 rfl) ?_
        replace hf := bd1_inv hf
        obtain ⟨r12, hc13, hf⟩ := hf
        refine r_ciV0 C h (c_X6_isOnRock hc13) mv_X8_195 rfl 18 rfl [18, 19] rfl rfl hl.1 rfl (Nat.le_of_ble_eq_true rfl) (rok (by decide)) dX8_safe_38 (fun H locs h => ?_)
        refine lv_if_ne (tgt := 50) hx hb dX8_safe_41 rfl (fun c14 => ?_) (fun c14 => ?_)
        · replace hf := ifn c14 hf
          obtain ⟨t15, et15⟩ : ∃ y : Int32, y = v3 + (1 : Int32) := ⟨_, rfl⟩
          replace hf := lt1_inv et15 hf
          refine lv_iinc (v := t15) (lv' := [(3, .int t15), (0, .ref h_this), (2, .int v2)]) hx hb dX8_safe_50 hl (k := 2) rfl (by rw [et15]; rfl) (by decide) rfl (fun ls hl => ?_)
          refine lv_goto (tgt := 22) hx hb dX8_safe_53 rfl ?_
          exact hK2 _ _ _ _ (ih v2 t15 g_this_rock_rules_facts y_this_trial_watch y_this_trial_score y_this_trial_home g_this_trial_off hf) _ _ _ h (lv_sub hl [1, 2, 0] rfl)
        · replace hf := ifp c14 hf
          refine lv_iload_n hx hb dX8_safe_44 rfl (lv_at hl 1 rfl) ?_
          refine lv_iconst (v := (1 : Int32)) hx hb dX8_safe_45 rfl ?_
          refine lv_iload_n hx hb dX8_safe_46 rfl (lv_at hl 2 rfl) ?_
          refine lv_ishl hx hb dX8_safe_47 ?_
          refine lv_ior hx hb dX8_safe_48 ?_
          refine lv_topi (fun t16 et16 => ?_)
          replace hf := lt1_inv et16 hf
          refine lv_istore_n (lv' := [(2, .int t16), (0, .ref h_this), (3, .int v3)]) hx hb dX8_safe_49 rfl hl (by decide) rfl (fun ls hl => ?_)
          obtain ⟨t17, et17⟩ : ∃ y : Int32, y = v3 + (1 : Int32) := ⟨_, rfl⟩
          replace hf := lt1_inv et17 hf
          refine lv_iinc (v := t17) (lv' := [(3, .int t17), (2, .int t16), (0, .ref h_this)]) hx hb dX8_safe_50 hl (k := 2) rfl (by rw [et17]; rfl) (by decide) rfl (fun ls hl => ?_)
          refine lv_goto (tgt := 22) hx hb dX8_safe_53 rfl ?_
          exact hK2 _ _ _ _ (ih t16 t17 g_this_rock_rules_facts y_this_trial_watch y_this_trial_score y_this_trial_home g_this_trial_off hf) _ _ _ h (lv_sub hl [2, 1, 0] rfl)
  refine lv_iload_n hx hb dX8_safe_0 rfl (lv_at hl 1 rfl) ?_
  refine lv_iconst (v := (0 : Int32)) hx hb dX8_safe_1 rfl ?_
  refine lv_bipush (v := (16 : Int32)) hx hb dX8_safe_2 rfl ?_
  replace hf := bd1_inv hf
  obtain ⟨r1, hc2, hf⟩ := hf
  refine r_ciS0 C h (c_X8_within hc2) ms_X8_79 rfl [] rfl rfl hl.1 rfl (Nat.le_of_ble_eq_true rfl) (rok (by decide)) dX8_safe_4 (fun H locs h => ?_)
  refine lv_if_ne (tgt := 12) hx hb dX8_safe_7 rfl (fun c3 => ?_) (fun c3 => ?_)
  · replace hf := ifn c3 hf
    refine lv_aload_n hx hb dX8_safe_12 rfl (lv_at hl 0 rfl) ?_
    refine lv_iload_n hx hb dX8_safe_13 rfl (lv_at hl 1 rfl) ?_
    replace hf := bd6_inv hf
    obtain ⟨r4, g5, y6, y7, y8, g9, hc10, hf⟩ := hf
    refine r_ciV (ws' := [(h_this, ob 8 [.ref h_this_rock, .ref h_this_kept, .ref h_this_trial, .ref h_this_planner, .ref h_this_reader, .ref h_this_draft, .ref h_this_host, .ref h_this_thing, .ref h_this_tape, .ref h_this_rows, .int x_this_tapeCount, .int x_this_rowCount, .int x_this_isKept]), (h_this_rock, ob 3 [.ref h_this_rock_kinds, .ref h_this_rock_trims, .ref h_this_rock_lanes, .ref h_this_rock_lights, .ref h_this_rock_currents, .ref h_this_rock_buoys, .ref h_this_rock_now, .ref h_this_rock_rules, .ref h_this_rock_reports, .int x_this_rock_count, .int x_this_rock_end, .int x_this_rock_z]), (h_this_rock_buoys, ia G 6 f_this_rock_buoys), (h_this_rock_currents, ia G 6 f_this_rock_currents), (h_this_rock_kinds, ia G 6 f_this_rock_kinds), (h_this_rock_lanes, ia G 6 f_this_rock_lanes), (h_this_rock_lights, ia G 16 f_this_rock_lights), (h_this_rock_now, ob 6 [.ref h_this_rock_now_off, .int x_this_rock_now_watch, .int x_this_rock_now_score, .int x_this_rock_now_home]), (h_this_rock_now_off, ia G 6 f_this_rock_now_off), (h_this_rock_rules, ob 5 [.ref h_this_rock_rules_kinds, .ref h_this_rock_rules_deeds, .ref h_this_rock_rules_begins, .ref h_this_rock_rules_steps, .ref h_this_rock_rules_lefts, .ref h_this_rock_rules_rights, .ref h_this_rock_rules_facts, .int x_this_rock_rules_count, .int x_this_rock_rules_size]), (h_this_rock_rules_begins, ia G 9 f_this_rock_rules_begins), (h_this_rock_rules_deeds, ia G 8 f_this_rock_rules_deeds), (h_this_rock_rules_facts, ia G 5 g5), (h_this_rock_rules_kinds, ia G 8 f_this_rock_rules_kinds), (h_this_rock_rules_lefts, ia G 200 f_this_rock_rules_lefts), (h_this_rock_rules_rights, ia G 200 f_this_rock_rules_rights), (h_this_rock_rules_steps, ia G 200 f_this_rock_rules_steps), (h_this_rock_trims, ia G 6 f_this_rock_trims), (h_this_trial, ob 6 [.ref h_this_trial_off, .int y6, .int y7, .int y8]), (h_this_trial_off, ia G 6 g9)]) C h (c_X8_worthOfRest hc10) mv_X8_186 rfl 0 rfl [0, 1, 2, 3, 4, 5, 6, 7, 8, 9, 10, 11, 12, 13, 14, 15, 16, 17, 18, 19] rfl rfl rfl rfl rfl hl.1 rfl (Nat.le_of_ble_eq_true rfl) (rok (by decide)) dX8_safe_14 (fun H locs h => ?_)
    refine lv_pop hx hb dX8_safe_17 rfl ?_
    refine lv_iconst (v := (0 : Int32)) hx hb dX8_safe_18 rfl ?_
    refine lv_istore_n (lv' := [(2, .int (0 : Int32)), (0, .ref h_this), (1, .int p0)]) hx hb dX8_safe_19 rfl hl (by decide) rfl (fun ls hl => ?_)
    refine lv_iconst (v := (0 : Int32)) hx hb dX8_safe_20 rfl ?_
    refine lv_istore_n (lv' := [(3, .int (0 : Int32)), (2, .int (0 : Int32)), (0, .ref h_this), (1, .int p0)]) hx hb dX8_safe_21 rfl hl (by decide) rfl (fun ls hl => ?_)
    exact hK2 _ _ _ _ (L22 1000 (0 : Int32) (0 : Int32) g5 y6 y7 y8 g9 hf) _ _ _ h (lv_sub hl [2, 1, 0] rfl)
  · replace hf := ifp c3 hf
    refine lv_iconst (v := (-1 : Int32)) hx hb dX8_safe_10 rfl ?_
    cases hf
    exact r_iret C h hr hlk rfl dX8_safe_11
def f_X3_areClose (p0 : Int32) (p1 : Int32) (f_this_lanes : Nat → Int32) (x_this_now_home : Int32) (f_this_now_off : Nat → Int32) : Option (Int32) := bd1 (f_X6_isHome p0 x_this_now_home) (fun r1 => (if r1 = 0 then bd1 (f_X6_isHome p1 x_this_now_home) (fun r4 => (if r4 = 0 then chkI p0 6 (chkI p1 6 ((if (f_this_lanes p0.toNatClampNeg) = (f_this_lanes p1.toNatClampNeg) then some (1 : Int32) else chkI p0 6 (chkI p1 6 ((if (4 : Int32) < (iabs ((f_this_now_off p0.toNatClampNeg) - (f_this_now_off p1.toNatClampNeg))) then some (0 : Int32) else some (1 : Int32))))))) else some (0 : Int32))) else some (0 : Int32)))
set_option maxRecDepth 100000 in
set_option maxHeartbeats 4000000 in
theorem c_X3_areClose {l : Launch} {G : Gt} {h_this h_this_kinds h_this_trims h_this_lanes h_this_lights h_this_currents h_this_buoys h_this_now h_this_rules h_this_reports h_this_now_off : Nat} {p0 : Int32} {p1 : Int32} {x_this_count : Int32} {x_this_end : Int32} {x_this_z : Int32} {f_this_lanes : Nat → Int32} {x_this_now_watch : Int32} {x_this_now_score : Int32} {x_this_now_home : Int32} {f_this_now_off : Nat → Int32} {r : Int32} (hf : f_X3_areClose p0 p1 f_this_lanes x_this_now_home f_this_now_off = some r) : mFi l G yX3_areClose cX3_areClose 3 .boolean 1 [.ref h_this, .int p0, .int p1] [(h_this, ob 3 [.ref h_this_kinds, .ref h_this_trims, .ref h_this_lanes, .ref h_this_lights, .ref h_this_currents, .ref h_this_buoys, .ref h_this_now, .ref h_this_rules, .ref h_this_reports, .int x_this_count, .int x_this_end, .int x_this_z]), (h_this_lanes, ia G 6 f_this_lanes), (h_this_now, ob 6 [.ref h_this_now_off, .int x_this_now_watch, .int x_this_now_score, .int x_this_now_home]), (h_this_now_off, ia G 6 f_this_now_off)] r [(h_this, ob 3 [.ref h_this_kinds, .ref h_this_trims, .ref h_this_lanes, .ref h_this_lights, .ref h_this_currents, .ref h_this_buoys, .ref h_this_now, .ref h_this_rules, .ref h_this_reports, .int x_this_count, .int x_this_end, .int x_this_z]), (h_this_lanes, ia G 6 f_this_lanes), (h_this_now, ob 6 [.ref h_this_now_off, .int x_this_now_watch, .int x_this_now_score, .int x_this_now_home]), (h_this_now_off, ia G 6 f_this_now_off)] := by
  refine mFi.of (by decide +kernel) (Nat.le_of_ble_eq_true rfl) ?_
  intro p e s m below meth c A C hr hlk h ls hl
  obtain ⟨hx, hb, hml, hown, hts⟩ := id C
  replace hl : lv_has ls 3 [(0, .ref h_this), (1, .int p0), (2, .int p1)] := hl
  unfold f_X3_areClose at hf
  refine lv_aload_n hx hb dX3_areClose_0 rfl (lv_at hl 0 rfl) ?_
  refine r_get C h fk_X3_33 0 rfl rfl dX3_areClose_1 ?_
  refine lv_iload_n hx hb dX3_areClose_4 rfl (lv_at hl 1 rfl) ?_
  replace hf := bd1_inv hf
  obtain ⟨r1, hc2, hf⟩ := hf
  refine r_ciV0 C h (c_X6_isHome hc2) mv_X3_105 rfl 2 rfl [2] rfl rfl hl.1 rfl (Nat.le_of_ble_eq_true rfl) (rok (by decide)) dX3_areClose_5 (fun H locs h => ?_)
  refine lv_if_ne (tgt := 22) hx hb dX3_areClose_8 rfl (fun c3 => ?_) (fun c3 => ?_)
  · replace hf := ifn c3 hf
    refine lv_iconst (v := (0 : Int32)) hx hb dX3_areClose_22 rfl ?_
    cases hf
    exact r_iret C h hr hlk rfl dX3_areClose_23
  · replace hf := ifp c3 hf
    refine lv_aload_n hx hb dX3_areClose_11 rfl (lv_at hl 0 rfl) ?_
    refine r_get C h fk_X3_33 0 rfl rfl dX3_areClose_12 ?_
    refine lv_iload_n hx hb dX3_areClose_15 rfl (lv_at hl 2 rfl) ?_
    replace hf := bd1_inv hf
    obtain ⟨r4, hc5, hf⟩ := hf
    refine r_ciV0 C h (c_X6_isHome hc5) mv_X3_105 rfl 2 rfl [2] rfl rfl hl.1 rfl (Nat.le_of_ble_eq_true rfl) (rok (by decide)) dX3_areClose_16 (fun H locs h => ?_)
    refine lv_if_eq (tgt := 24) hx hb dX3_areClose_19 rfl (fun c6 => ?_) (fun c6 => ?_)
    · replace hf := ifp c6 hf
      refine lv_aload_n hx hb dX3_areClose_24 rfl (lv_at hl 0 rfl) ?_
      refine r_get C h fk_X3_18 0 rfl rfl dX3_areClose_25 ?_
      refine lv_iload_n hx hb dX3_areClose_28 rfl (lv_at hl 1 rfl) ?_
      replace hf := chkI_inv hf
      obtain ⟨hi7, hf⟩ := hf
      refine r_iald C h 1 rfl hi7 dX3_areClose_29 ?_
      refine lv_aload_n hx hb dX3_areClose_30 rfl (lv_at hl 0 rfl) ?_
      refine r_get C h fk_X3_18 0 rfl rfl dX3_areClose_31 ?_
      refine lv_iload_n hx hb dX3_areClose_34 rfl (lv_at hl 2 rfl) ?_
      replace hf := chkI_inv hf
      obtain ⟨hi8, hf⟩ := hf
      refine r_iald C h 1 rfl hi8 dX3_areClose_35 ?_
      refine lv_icmp_eq (tgt := 65) hx hb dX3_areClose_36 rfl (fun c9 => ?_) (fun c9 => ?_)
      · replace hf := ifp c9 hf
        refine lv_iconst (v := (1 : Int32)) hx hb dX3_areClose_65 rfl ?_
        refine lv_goto (tgt := 70) hx hb dX3_areClose_66 rfl ?_
        cases hf
        exact r_iret C h hr hlk rfl dX3_areClose_70
      · replace hf := ifn c9 hf
        refine lv_aload_n hx hb dX3_areClose_39 rfl (lv_at hl 0 rfl) ?_
        refine r_get C h fk_X3_33 0 rfl rfl dX3_areClose_40 ?_
        refine r_get C h fk_X3_86 2 rfl rfl dX3_areClose_43 ?_
        refine lv_iload_n hx hb dX3_areClose_46 rfl (lv_at hl 1 rfl) ?_
        replace hf := chkI_inv hf
        obtain ⟨hi10, hf⟩ := hf
        refine r_iald C h 3 rfl hi10 dX3_areClose_47 ?_
        refine lv_aload_n hx hb dX3_areClose_48 rfl (lv_at hl 0 rfl) ?_
        refine r_get C h fk_X3_33 0 rfl rfl dX3_areClose_49 ?_
        refine r_get C h fk_X3_86 2 rfl rfl dX3_areClose_52 ?_
        refine lv_iload_n hx hb dX3_areClose_55 rfl (lv_at hl 2 rfl) ?_
        replace hf := chkI_inv hf
        obtain ⟨hi11, hf⟩ := hf
        refine r_iald C h 3 rfl hi11 dX3_areClose_56 ?_
        refine lv_isub hx hb dX3_areClose_57 ?_
        refine r_iabs C ma_X3_178 hl.1 (Nat.le_of_ble_eq_true rfl) (Nat.le_of_ble_eq_true rfl) dX3_areClose_58 ?_
        refine lv_iconst (v := (4 : Int32)) hx hb dX3_areClose_61 rfl ?_
        refine lv_icmp_gt (tgt := 69) hx hb dX3_areClose_62 rfl (fun c12 => ?_) (fun c12 => ?_)
        · replace hf := ifp c12 hf
          refine lv_iconst (v := (0 : Int32)) hx hb dX3_areClose_69 rfl ?_
          cases hf
          exact r_iret C h hr hlk rfl dX3_areClose_70
        · replace hf := ifn c12 hf
          refine lv_iconst (v := (1 : Int32)) hx hb dX3_areClose_65 rfl ?_
          refine lv_goto (tgt := 70) hx hb dX3_areClose_66 rfl ?_
          cases hf
          exact r_iret C h hr hlk rfl dX3_areClose_70
    · replace hf := ifn c6 hf
      refine lv_iconst (v := (0 : Int32)) hx hb dX3_areClose_22 rfl ?_
      cases hf
      exact r_iret C h hr hlk rfl dX3_areClose_23
def f_X3_convoyOf_L29 (rec17 : Int32 → Int32 → Int32 → Option (Int32)) (x_this_count : Int32) (f_this_lanes : Nat → Int32) (x_this_now_home : Int32) (f_this_now_off : Nat → Int32) : Nat → Int32 → Int32 → Int32 → Int32 → Option (Int32)
  | 0, _, _, _, _ => none
  | n + 1, v2, v3, v4, v5 => (if x_this_count ≤ v5 then lt1 (v4 + (1 : Int32)) (fun (t6 : Int32) => rec17 v2 v3 t6) else (if ((v2 >>> (v4 &&& 31)) &&& (1 : Int32)) = (1 : Int32) then bd1 (f_X3_areClose v4 v5 f_this_lanes x_this_now_home f_this_now_off) (fun r9 => (if r9 = 0 then lt1 (v5 + (1 : Int32)) (fun (t12 : Int32) => (f_X3_convoyOf_L29 rec17 x_this_count f_this_lanes x_this_now_home f_this_now_off n) v2 v3 v4 t12) else lt1 (v2 ||| ((1 : Int32) <<< (v5 &&& 31))) (fun (t13 : Int32) => lt1 (v5 + (1 : Int32)) (fun (t14 : Int32) => (f_X3_convoyOf_L29 rec17 x_this_count f_this_lanes x_this_now_home f_this_now_off n) t13 v3 v4 t14)))) else lt1 (v5 + (1 : Int32)) (fun (t8 : Int32) => (f_X3_convoyOf_L29 rec17 x_this_count f_this_lanes x_this_now_home f_this_now_off n) v2 v3 v4 t8)))
def f_X3_convoyOf_L17 (rec6 : Int32 → Int32 → Option (Int32)) (x_this_count : Int32) (f_this_lanes : Nat → Int32) (x_this_now_home : Int32) (f_this_now_off : Nat → Int32) : Nat → Int32 → Int32 → Int32 → Option (Int32)
  | 0, _, _, _ => none
  | n + 1, v2, v3, v4 => (if x_this_count ≤ v4 then lt1 (v3 + (1 : Int32)) (fun (t4 : Int32) => rec6 v2 t4) else f_X3_convoyOf_L29 (f_X3_convoyOf_L17 rec6 x_this_count f_this_lanes x_this_now_home f_this_now_off n) x_this_count f_this_lanes x_this_now_home f_this_now_off 1000 v2 v3 v4 (0 : Int32))
def f_X3_convoyOf_L6 (x_this_count : Int32) (f_this_lanes : Nat → Int32) (x_this_now_home : Int32) (f_this_now_off : Nat → Int32) : Nat → Int32 → Int32 → Option (Int32)
  | 0, _, _ => none
  | n + 1, v2, v3 => (if x_this_count ≤ v3 then some v2 else f_X3_convoyOf_L17 (f_X3_convoyOf_L6 x_this_count f_this_lanes x_this_now_home f_this_now_off n) x_this_count f_this_lanes x_this_now_home f_this_now_off 1000 v2 v3 (0 : Int32))
def f_X3_convoyOf (p0 : Int32) (x_this_count : Int32) (f_this_lanes : Nat → Int32) (x_this_now_home : Int32) (f_this_now_off : Nat → Int32) : Option (Int32) := lt1 ((1 : Int32) <<< (p0 &&& 31)) (fun (t1 : Int32) => f_X3_convoyOf_L6 x_this_count f_this_lanes x_this_now_home f_this_now_off 1000 t1 (1 : Int32))
set_option maxRecDepth 100000 in
set_option maxHeartbeats 4000000 in
theorem c_X3_convoyOf {l : Launch} {G : Gt} {h_this h_this_kinds h_this_trims h_this_lanes h_this_lights h_this_currents h_this_buoys h_this_now h_this_rules h_this_reports h_this_now_off : Nat} {p0 : Int32} {x_this_count : Int32} {x_this_end : Int32} {x_this_z : Int32} {f_this_lanes : Nat → Int32} {x_this_now_watch : Int32} {x_this_now_score : Int32} {x_this_now_home : Int32} {f_this_now_off : Nat → Int32} {r : Int32} (hf : f_X3_convoyOf p0 x_this_count f_this_lanes x_this_now_home f_this_now_off = some r) : mFi l G yX3_convoyOf cX3_convoyOf 6 .int 2 [.ref h_this, .int p0] [(h_this, ob 3 [.ref h_this_kinds, .ref h_this_trims, .ref h_this_lanes, .ref h_this_lights, .ref h_this_currents, .ref h_this_buoys, .ref h_this_now, .ref h_this_rules, .ref h_this_reports, .int x_this_count, .int x_this_end, .int x_this_z]), (h_this_lanes, ia G 6 f_this_lanes), (h_this_now, ob 6 [.ref h_this_now_off, .int x_this_now_watch, .int x_this_now_score, .int x_this_now_home]), (h_this_now_off, ia G 6 f_this_now_off)] r [(h_this, ob 3 [.ref h_this_kinds, .ref h_this_trims, .ref h_this_lanes, .ref h_this_lights, .ref h_this_currents, .ref h_this_buoys, .ref h_this_now, .ref h_this_rules, .ref h_this_reports, .int x_this_count, .int x_this_end, .int x_this_z]), (h_this_lanes, ia G 6 f_this_lanes), (h_this_now, ob 6 [.ref h_this_now_off, .int x_this_now_watch, .int x_this_now_score, .int x_this_now_home]), (h_this_now_off, ia G 6 f_this_now_off)] := by
  refine mFi.of (by decide +kernel) (Nat.le_of_ble_eq_true rfl) ?_
  intro p e s m below meth c A C hr hlk h ls hl
  obtain ⟨hx, hb, hml, hown, hts⟩ := id C
  replace hl : lv_has ls 6 [(0, .ref h_this), (1, .int p0)] := hl
  unfold f_X3_convoyOf at hf
  refine with_K G A 6 (fun K hK1 hK2 => ?_)
  have L29 : ∀ (rec17 : Int32 → Int32 → Int32 → Option (Int32)) (hrec17 : ∀ (v2 : Int32) (v3 : Int32) (v4 : Int32), rec17 v2 v3 v4 = some r → K 17 ([] : List Value) [(h_this, ob 3 [.ref h_this_kinds, .ref h_this_trims, .ref h_this_lanes, .ref h_this_lights, .ref h_this_currents, .ref h_this_buoys, .ref h_this_now, .ref h_this_rules, .ref h_this_reports, .int x_this_count, .int x_this_end, .int x_this_z]), (h_this_lanes, ia G 6 f_this_lanes), (h_this_now, ob 6 [.ref h_this_now_off, .int x_this_now_watch, .int x_this_now_score, .int x_this_now_home]), (h_this_now_off, ia G 6 f_this_now_off)] [(0, .ref h_this), (2, .int v2), (3, .int v3), (4, .int v4)]) (n : Nat) (v2 : Int32) (v3 : Int32) (v4 : Int32) (v5 : Int32), f_X3_convoyOf_L29 rec17 x_this_count f_this_lanes x_this_now_home f_this_now_off n v2 v3 v4 v5 = some r → K 29 ([] : List Value) [(h_this, ob 3 [.ref h_this_kinds, .ref h_this_trims, .ref h_this_lanes, .ref h_this_lights, .ref h_this_currents, .ref h_this_buoys, .ref h_this_now, .ref h_this_rules, .ref h_this_reports, .int x_this_count, .int x_this_end, .int x_this_z]), (h_this_lanes, ia G 6 f_this_lanes), (h_this_now, ob 6 [.ref h_this_now_off, .int x_this_now_watch, .int x_this_now_score, .int x_this_now_home]), (h_this_now_off, ia G 6 f_this_now_off)] [(0, .ref h_this), (2, .int v2), (3, .int v3), (4, .int v4), (5, .int v5)] := by
    intro rec17 hrec17 n
    induction n with
    | zero =>
      intro v2 v3 v4 v5 hf
      replace hf : (none : Option _) = some _ := hf
      cases hf
    | succ n ih =>
      intro v2 v3 v4 v5 hf
      rw [f_X3_convoyOf_L29] at hf
      refine hK1 _ _ _ _ (fun H locs ls h hl => ?_)
      refine lv_iload hx hb dX3_convoyOf_29 (lv_at hl 4 rfl) ?_
      refine lv_aload_n hx hb dX3_convoyOf_31 rfl (lv_at hl 0 rfl) ?_
      refine r_get C h fk_X3_51 0 rfl rfl dX3_convoyOf_32 ?_
      refine lv_icmp_ge (tgt := 72) hx hb dX3_convoyOf_35 rfl (fun c5 => ?_) (fun c5 => ?_)
      · replace hf := ifp c5 hf
        obtain ⟨t6, et6⟩ : ∃ y : Int32, y = v4 + (1 : Int32) := ⟨_, rfl⟩
        replace hf := lt1_inv et6 hf
        refine lv_iinc (v := t6) (lv' := [(4, .int t6), (0, .ref h_this), (2, .int v2), (3, .int v3), (5, .int v5)]) hx hb dX3_convoyOf_72 hl (k := 3) rfl (by rw [et6]; rfl) (by decide) rfl (fun ls hl => ?_)
        refine lv_goto (tgt := 17) hx hb dX3_convoyOf_75 rfl ?_
        exact hK2 _ _ _ _ (hrec17 v2 v3 t6 hf) _ _ _ h (lv_sub hl [1, 2, 3, 0] rfl)
      · replace hf := ifn c5 hf
        refine lv_iload_n hx hb dX3_convoyOf_38 rfl (lv_at hl 1 rfl) ?_
        refine lv_iload hx hb dX3_convoyOf_39 (lv_at hl 3 rfl) ?_
        refine lv_ishr hx hb dX3_convoyOf_41 ?_
        refine lv_iconst (v := (1 : Int32)) hx hb dX3_convoyOf_42 rfl ?_
        refine lv_iand hx hb dX3_convoyOf_43 ?_
        refine lv_iconst (v := (1 : Int32)) hx hb dX3_convoyOf_44 rfl ?_
        refine lv_icmp_ne (tgt := 66) hx hb dX3_convoyOf_45 rfl (fun c7 => ?_) (fun c7 => ?_)
        · replace hf := ifn c7 hf
          obtain ⟨t8, et8⟩ : ∃ y : Int32, y = v5 + (1 : Int32) := ⟨_, rfl⟩
          replace hf := lt1_inv et8 hf
          refine lv_iinc (v := t8) (lv' := [(5, .int t8), (0, .ref h_this), (2, .int v2), (3, .int v3), (4, .int v4)]) hx hb dX3_convoyOf_66 hl (k := 4) rfl (by rw [et8]; rfl) (by decide) rfl (fun ls hl => ?_)
          refine lv_goto (tgt := 29) hx hb dX3_convoyOf_69 rfl ?_
          exact hK2 _ _ _ _ (ih v2 v3 v4 t8 hf) _ _ _ h (lv_sub hl [1, 2, 3, 4, 0] rfl)
        · replace hf := ifp c7 hf
          refine lv_aload_n hx hb dX3_convoyOf_48 rfl (lv_at hl 0 rfl) ?_
          refine lv_iload hx hb dX3_convoyOf_49 (lv_at hl 3 rfl) ?_
          refine lv_iload hx hb dX3_convoyOf_51 (lv_at hl 4 rfl) ?_
          replace hf := bd1_inv hf
          obtain ⟨r9, hc10, hf⟩ := hf
          refine r_ciV0 C h (c_X3_areClose hc10) mv_X3_181 rfl 0 rfl [0, 1, 2, 3] rfl rfl hl.1 rfl (Nat.le_of_ble_eq_true rfl) (rok (by decide)) dX3_convoyOf_53 (fun H locs h => ?_)
          refine lv_if_eq (tgt := 66) hx hb dX3_convoyOf_56 rfl (fun c11 => ?_) (fun c11 => ?_)
          · replace hf := ifp c11 hf
            obtain ⟨t12, et12⟩ : ∃ y : Int32, y = v5 + (1 : Int32) := ⟨_, rfl⟩
            replace hf := lt1_inv et12 hf
            refine lv_iinc (v := t12) (lv' := [(5, .int t12), (0, .ref h_this), (2, .int v2), (3, .int v3), (4, .int v4)]) hx hb dX3_convoyOf_66 hl (k := 4) rfl (by rw [et12]; rfl) (by decide) rfl (fun ls hl => ?_)
            refine lv_goto (tgt := 29) hx hb dX3_convoyOf_69 rfl ?_
            exact hK2 _ _ _ _ (ih v2 v3 v4 t12 hf) _ _ _ h (lv_sub hl [1, 2, 3, 4, 0] rfl)
          · replace hf := ifn c11 hf
            refine lv_iload_n hx hb dX3_convoyOf_59 rfl (lv_at hl 1 rfl) ?_
            refine lv_iconst (v := (1 : Int32)) hx hb dX3_convoyOf_60 rfl ?_
            refine lv_iload hx hb dX3_convoyOf_61 (lv_at hl 4 rfl) ?_
            refine lv_ishl hx hb dX3_convoyOf_63 ?_
            refine lv_ior hx hb dX3_convoyOf_64 ?_
            refine lv_topi (fun t13 et13 => ?_)
            replace hf := lt1_inv et13 hf
            refine lv_istore_n (lv' := [(2, .int t13), (0, .ref h_this), (3, .int v3), (4, .int v4), (5, .int v5)]) hx hb dX3_convoyOf_65 rfl hl (by decide) rfl (fun ls hl => ?_)
            obtain ⟨t14, et14⟩ : ∃ y : Int32, y = v5 + (1 : Int32) := ⟨_, rfl⟩
            replace hf := lt1_inv et14 hf
            refine lv_iinc (v := t14) (lv' := [(5, .int t14), (2, .int t13), (0, .ref h_this), (3, .int v3), (4, .int v4)]) hx hb dX3_convoyOf_66 hl (k := 4) rfl (by rw [et14]; rfl) (by decide) rfl (fun ls hl => ?_)
            refine lv_goto (tgt := 29) hx hb dX3_convoyOf_69 rfl ?_
            exact hK2 _ _ _ _ (ih t13 v3 v4 t14 hf) _ _ _ h (lv_sub hl [2, 1, 3, 4, 0] rfl)
  have L17 : ∀ (rec6 : Int32 → Int32 → Option (Int32)) (hrec6 : ∀ (v2 : Int32) (v3 : Int32), rec6 v2 v3 = some r → K 6 ([] : List Value) [(h_this, ob 3 [.ref h_this_kinds, .ref h_this_trims, .ref h_this_lanes, .ref h_this_lights, .ref h_this_currents, .ref h_this_buoys, .ref h_this_now, .ref h_this_rules, .ref h_this_reports, .int x_this_count, .int x_this_end, .int x_this_z]), (h_this_lanes, ia G 6 f_this_lanes), (h_this_now, ob 6 [.ref h_this_now_off, .int x_this_now_watch, .int x_this_now_score, .int x_this_now_home]), (h_this_now_off, ia G 6 f_this_now_off)] [(0, .ref h_this), (2, .int v2), (3, .int v3)]) (n : Nat) (v2 : Int32) (v3 : Int32) (v4 : Int32), f_X3_convoyOf_L17 rec6 x_this_count f_this_lanes x_this_now_home f_this_now_off n v2 v3 v4 = some r → K 17 ([] : List Value) [(h_this, ob 3 [.ref h_this_kinds, .ref h_this_trims, .ref h_this_lanes, .ref h_this_lights, .ref h_this_currents, .ref h_this_buoys, .ref h_this_now, .ref h_this_rules, .ref h_this_reports, .int x_this_count, .int x_this_end, .int x_this_z]), (h_this_lanes, ia G 6 f_this_lanes), (h_this_now, ob 6 [.ref h_this_now_off, .int x_this_now_watch, .int x_this_now_score, .int x_this_now_home]), (h_this_now_off, ia G 6 f_this_now_off)] [(0, .ref h_this), (2, .int v2), (3, .int v3), (4, .int v4)] := by
    intro rec6 hrec6 n
    induction n with
    | zero =>
      intro v2 v3 v4 hf
      replace hf : (none : Option _) = some _ := hf
      cases hf
    | succ n ih =>
      intro v2 v3 v4 hf
      rw [f_X3_convoyOf_L17] at hf
      refine hK1 _ _ _ _ (fun H locs ls h hl => ?_)
      refine lv_iload hx hb dX3_convoyOf_17 (lv_at hl 3 rfl) ?_
      refine lv_aload_n hx hb dX3_convoyOf_19 rfl (lv_at hl 0 rfl) ?_
      refine r_get C h fk_X3_51 0 rfl rfl dX3_convoyOf_20 ?_
      refine lv_icmp_ge (tgt := 78) hx hb dX3_convoyOf_23 rfl (fun c3 => ?_) (fun c3 => ?_)
      · replace hf := ifp c3 hf
        obtain ⟨t4, et4⟩ : ∃ y : Int32, y = v3 + (1 : Int32) := ⟨_, rfl⟩
        replace hf := lt1_inv et4 hf
        refine lv_iinc (v := t4) (lv' := [(3, .int t4), (0, .ref h_this), (2, .int v2), (4, .int v4)]) hx hb dX3_convoyOf_78 hl (k := 2) rfl (by rw [et4]; rfl) (by decide) rfl (fun ls hl => ?_)
        refine lv_goto (tgt := 6) hx hb dX3_convoyOf_81 rfl ?_
        exact hK2 _ _ _ _ (hrec6 v2 t4 hf) _ _ _ h (lv_sub hl [1, 2, 0] rfl)
      · replace hf := ifn c3 hf
        refine lv_iconst (v := (0 : Int32)) hx hb dX3_convoyOf_26 rfl ?_
        refine lv_istore (lv' := [(5, .int (0 : Int32)), (0, .ref h_this), (2, .int v2), (3, .int v3), (4, .int v4)]) hx hb dX3_convoyOf_27 hl (by decide) rfl (fun ls hl => ?_)
        exact hK2 _ _ _ _ (L29 _ ih 1000 v2 v3 v4 (0 : Int32) hf) _ _ _ h (lv_sub hl [1, 2, 3, 4, 0] rfl)
  have L6 : ∀ (n : Nat) (v2 : Int32) (v3 : Int32), f_X3_convoyOf_L6 x_this_count f_this_lanes x_this_now_home f_this_now_off n v2 v3 = some r → K 6 ([] : List Value) [(h_this, ob 3 [.ref h_this_kinds, .ref h_this_trims, .ref h_this_lanes, .ref h_this_lights, .ref h_this_currents, .ref h_this_buoys, .ref h_this_now, .ref h_this_rules, .ref h_this_reports, .int x_this_count, .int x_this_end, .int x_this_z]), (h_this_lanes, ia G 6 f_this_lanes), (h_this_now, ob 6 [.ref h_this_now_off, .int x_this_now_watch, .int x_this_now_score, .int x_this_now_home]), (h_this_now_off, ia G 6 f_this_now_off)] [(0, .ref h_this), (2, .int v2), (3, .int v3)] := by
    intro n
    induction n with
    | zero =>
      intro v2 v3 hf
      replace hf : (none : Option _) = some _ := hf
      cases hf
    | succ n ih =>
      intro v2 v3 hf
      rw [f_X3_convoyOf_L6] at hf
      refine hK1 _ _ _ _ (fun H locs ls h hl => ?_)
      refine lv_iload_n hx hb dX3_convoyOf_6 rfl (lv_at hl 2 rfl) ?_
      refine lv_aload_n hx hb dX3_convoyOf_7 rfl (lv_at hl 0 rfl) ?_
      refine r_get C h fk_X3_51 0 rfl rfl dX3_convoyOf_8 ?_
      refine lv_icmp_ge (tgt := 84) hx hb dX3_convoyOf_11 rfl (fun c2 => ?_) (fun c2 => ?_)
      · replace hf := ifp c2 hf
        refine lv_iload_n hx hb dX3_convoyOf_84 rfl (lv_at hl 1 rfl) ?_
        cases hf
        exact r_iret C h hr hlk rfl dX3_convoyOf_85
      · replace hf := ifn c2 hf
        refine lv_iconst (v := (0 : Int32)) hx hb dX3_convoyOf_14 rfl ?_
        refine lv_istore (lv' := [(4, .int (0 : Int32)), (0, .ref h_this), (2, .int v2), (3, .int v3)]) hx hb dX3_convoyOf_15 hl (by decide) rfl (fun ls hl => ?_)
        exact hK2 _ _ _ _ (L17 _ ih 1000 v2 v3 (0 : Int32) hf) _ _ _ h (lv_sub hl [1, 2, 3, 0] rfl)
  refine lv_iconst (v := (1 : Int32)) hx hb dX3_convoyOf_0 rfl ?_
  refine lv_iload_n hx hb dX3_convoyOf_1 rfl (lv_at hl 1 rfl) ?_
  refine lv_ishl hx hb dX3_convoyOf_2 ?_
  refine lv_topi (fun t1 et1 => ?_)
  replace hf := lt1_inv et1 hf
  refine lv_istore_n (lv' := [(2, .int t1), (0, .ref h_this), (1, .int p0)]) hx hb dX3_convoyOf_3 rfl hl (by decide) rfl (fun ls hl => ?_)
  refine lv_iconst (v := (1 : Int32)) hx hb dX3_convoyOf_4 rfl ?_
  refine lv_istore_n (lv' := [(3, .int (1 : Int32)), (2, .int t1), (0, .ref h_this), (1, .int p0)]) hx hb dX3_convoyOf_5 rfl hl (by decide) rfl (fun ls hl => ?_)
  exact hK2 _ _ _ _ (L6 1000 t1 (1 : Int32) hf) _ _ _ h (lv_sub hl [2, 1, 0] rfl)
