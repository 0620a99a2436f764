/-! ===== E: the tape ===== -/
theorem b255 : ∀ i, i < 32 → (255#32).getLsbD i = decide (i < 8) ∧ (255#64).getLsbD i = decide (i < 8) := by decide
theorem bv_byte (x : BitVec 64) (k : Nat) (hk : k ≤ 56) : (x >>> k).signExtend 32 &&& 255#32 = ((x.sshiftRight k) &&& 255#64).signExtend 32 := by
  apply BitVec.eq_of_getLsbD_eq
  intro i hi
  obtain ⟨e1, e2⟩ := b255 i hi
  rw [BitVec.getLsbD_and, BitVec.getLsbD_signExtend, BitVec.getLsbD_signExtend, if_pos (show i < 64 by omega), if_pos (show i < 64 by omega), BitVec.getLsbD_and, e1, e2, BitVec.getLsbD_ushiftRight, BitVec.getLsbD_sshiftRight]
  by_cases c : i < 8
  · rw [if_pos (show k + i < 64 by omega), decide_eq_true c, decide_eq_true hi, decide_eq_false (show ¬ 64 ≤ i by omega)]
    simp
  · rw [decide_eq_false c, Bool.and_false, Bool.and_false, Bool.and_false]
theorem sh_k : ∀ v, v < 8 → (((8 : Int32) * nI v).toInt64.toUInt64 &&& Int64.toUInt64 63).toBitVec.toNat % 64 = 8 * v ∧ (((8 : Int32) * nI v).toInt64 &&& 63).toBitVec.smod 64 = BitVec.ofNat 64 (8 * v) := by decide +kernel
theorem nI_all (x : Int32) : x = nI x.toBitVec.toNat := by
  apply Int32.toBitVec_inj.mp
  show x.toBitVec = BitVec.ofNat 32 x.toBitVec.toNat
  rw [BitVec.ofNat_toNat, BitVec.setWidth_eq]
theorem feed_b (p : Int64) {v : Nat} (hv : v < 8) : ∃ b : Nat, b < 256 ∧ (((p.toUInt64 >>> (((8 : Int32) * nI v).toInt64.toUInt64 &&& Int64.toUInt64 63)).toInt64).toInt32) &&& (255 : Int32) = nI b ∧ ((p >>> (((8 : Int32) * nI v).toInt64 &&& 63)) &&& (255 : Int64)).toInt32 = nI b := by
  obtain ⟨k1, k2⟩ := sh_k v hv
  have e : ((((p.toUInt64 >>> (((8 : Int32) * nI v).toInt64.toUInt64 &&& Int64.toUInt64 63)).toInt64).toInt32) &&& (255 : Int32)) = ((p >>> (((8 : Int32) * nI v).toInt64 &&& 63)) &&& (255 : Int64)).toInt32 := by
    apply Int32.toBitVec_inj.mp
    rw [Int32.toBitVec_and, Int64.toBitVec_toInt32, Int64.toBitVec_toInt32, Int64.toBitVec_and, Int64.toBitVec_shiftRight, k2]
    have h := bv_byte p.toBitVec (8 * v) (by omega)
    have a1 : p.toBitVec.sshiftRight' (BitVec.ofNat 64 (8 * v)) = p.toBitVec.sshiftRight (8 * v) := by
      show p.toBitVec.sshiftRight (BitVec.ofNat 64 (8 * v)).toNat = _
      rw [BitVec.toNat_ofNat, Nat.mod_eq_of_lt (by omega)]
    have a2 : (p.toUInt64 >>> (((8 : Int32) * nI v).toInt64.toUInt64 &&& Int64.toUInt64 63)).toInt64.toBitVec = p.toBitVec >>> (8 * v) := by
      show (p.toUInt64 >>> (((8 : Int32) * nI v).toInt64.toUInt64 &&& Int64.toUInt64 63)).toBitVec = _
      rw [UInt64.toBitVec_shiftRight]
      apply BitVec.eq_of_toNat_eq
      rw [BitVec.toNat_ushiftRight, ← k1]
      show (p.toBitVec >>> (_ % 64#64)).toNat = _
      rw [show ∀ z : BitVec 64, p.toBitVec >>> z = p.toBitVec >>> z.toNat from fun z => rfl, BitVec.toNat_ushiftRight, BitVec.toNat_umod]
      rfl
    rw [a1, a2]
    exact h
  rw [← e]
  obtain ⟨x, hx⟩ : ∃ x, (p.toUInt64 >>> (((8 : Int32) * nI v).toInt64.toUInt64 &&& Int64.toUInt64 63)).toInt64.toInt32 = x := ⟨_, rfl⟩
  rw [hx, nI_all x, ql255]
  have hlt := x.toBitVec.isLt
  refine ⟨x.toBitVec.toNat % 2 ^ 8, by omega, pk_andN hlt 8 (by decide +kernel), pk_andN hlt 8 (by decide +kernel)⟩
def InP (tc : Int32) (t8 : Nat → Int32) (tm : Int32) (t9 : Nat → Int32) : Prop := ∃ n : Nat, n ≤ 200 ∧ tc = nI n ∧ tm = nI n ∧ ∀ i, i < n → t8 i = t9 i ∧ ∃ b : Nat, b < 256 ∧ t9 i = nI b
theorem st_feed {tc tm : Int32} {t8 t9 : Nat → Int32} (hT : InP tc t8 tm t9) (p0 : Int64) (p1 : Int32) : ∃ r tc' t8' tm' t9', f_X8_feed p0 p1 tc t8 = some (r, tc', t8') ∧ f_X9_feed p0 p1 tm t9 = some (r, tm', t9') ∧ InP tc' t8' tm' t9' := by
  have hT0 := hT
  obtain ⟨n, hn, rfl, rfl, ht⟩ := hT
  unfold f_X8_feed f_X9_feed
  rw [show f_X8_within p1 1 8 = f_X9_in1 p1 1 8 from rfl]
  rcases @e_in p1 1 8 1 8 rfl rfl (by decide) (by decide) with ⟨-, e, -⟩ | ⟨c, hc1, hc8, rfl, -, e⟩
  · rw [e, qb1, qb1, if_pos rfl, if_pos rfl]; exact ⟨_, _, _, _, _, rfl, rfl, hT0⟩
  · rw [e, qb1, qb1, if_neg n10, if_neg n10, q_add]
    by_cases d : n + c ≤ 200
    · rw [if_pos (show nI (n + c) ≤ (200 : Int32) by rw [ql200]; exact nI_le d (by decide)), if_pos (show nI (n + c) ≤ (200 : Int32) by rw [ql200]; exact nI_le d (by decide))]
      have loop : ∀ (d f8 f9 v : Nat) (t8 t9 : Nat → Int32), v + d = c → d < f8 → d < f9 → (∀ i, i < n + v → t8 i = t9 i ∧ ∃ b : Nat, b < 256 ∧ t9 i = nI b) → ∃ t8' t9', f_X8_feed_L30 p0 (nI c) (nI n) f8 (nI v) t8 = some (nI (n + c), nI (n + c), t8') ∧ f_X9_feed_L30 p0 (nI c) f9 (nI v) (nI (n + v)) t9 = some (nI (n + c), nI (n + c), t9') ∧ ∀ i, i < n + c → t8' i = t9' i ∧ ∃ b : Nat, b < 256 ∧ t9' i = nI b := by
        intro d
        induction d with
        | zero =>
          intro f8 f9 v t8 t9 hv h8 h9 h
          obtain ⟨n8, rfl⟩ : ∃ n, f8 = n + 1 := ⟨f8 - 1, by omega⟩
          obtain ⟨n9, rfl⟩ : ∃ n, f9 = n + 1 := ⟨f9 - 1, by omega⟩
          have : v = c := by omega
          subst this
          rw [f_X8_feed_L30, f_X9_feed_L30, if_pos (nI_le (by omega) (by omega)), if_pos (nI_le (by omega) (by omega))]
          unfold f_X8_feed_b66
          rw [q_add, qt1]
          exact ⟨_, _, rfl, rfl, h⟩
        | succ d ih =>
          intro f8 f9 v t8 t9 hv h8 h9 h
          obtain ⟨n8, rfl⟩ : ∃ n, f8 = n + 1 := ⟨f8 - 1, by omega⟩
          obtain ⟨n9, rfl⟩ : ∃ n, f9 = n + 1 := ⟨f9 - 1, by omega⟩
          obtain ⟨b, hb, e1, e2⟩ := feed_b p0 (show v < 8 by omega)
          rw [f_X8_feed_L30, f_X9_feed_L30, if_neg (nI_ge (by omega) (by omega)), if_neg (nI_ge (by omega) (by omega)), e1, e2, qt1, q_add, qcI (show n + v < 200 by omega) (by decide), qt1, qt1, qcI (show n + v < 200 by omega) (by decide), qt1, qt1, q_cl (by omega), show nI v + 1 = nI (v + 1) from q_add v 1, show nI (n + v) + 1 = nI (n + (v + 1)) from q_add (n + v) 1]
          refine ih n8 n9 (v + 1) _ _ (by omega) (by omega) (by omega) (fun i hi => ?_)
          unfold upd
          by_cases c : i = n + v
          · rw [if_pos c, if_pos c]; exact ⟨rfl, b, hb, rfl⟩
          · rw [if_neg c, if_neg c]; exact h i (by omega)
      obtain ⟨x8, x9, y1, y2, y3⟩ := loop c 1000 1000 0 t8 t9 (by omega) (by omega) (by omega) ht
      exact ⟨_, _, _, _, _, y1, y2, ⟨n + c, d, rfl, rfl, y3⟩⟩
    · rw [if_neg (show ¬ nI (n + c) ≤ (200 : Int32) by rw [ql200]; exact nI_ge (by omega) (by omega)), if_neg (show ¬ nI (n + c) ≤ (200 : Int32) by rw [ql200]; exact nI_ge (by omega) (by omega))]
      exact ⟨_, _, _, _, _, rfl, rfl, hT0⟩
