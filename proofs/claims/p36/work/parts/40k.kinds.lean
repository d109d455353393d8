theorem zl_of (m : Int64) : m = lN m.toUInt64.toNat := Int64.toBitVec_inj.mp (BitVec.eq_of_toNat_eq (by
  show m.toBitVec.toNat = (BitVec.ofNat 64 m.toBitVec.toNat).toNat
  rw [BitVec.toNat_ofNat, Nat.mod_eq_of_lt m.toBitVec.isLt]))
theorem zl_un {a : Nat} (h : a < 2 ^ 64) : (lN a).toUInt64.toNat = a := by
  show (BitVec.ofNat 64 a).toNat = a
  rw [BitVec.toNat_ofNat, Nat.mod_eq_of_lt h]
theorem zl_sam : ∀ w, w < 64 → (((nI w : Int32).toInt64 &&& 63 : Int64).toBitVec).smod 64 = BitVec.ofNat 64 w := by decide +kernel
theorem zl_shl (a : Nat) {w : Nat} (hw : w < 64) : (lN a : Int64) <<< ((nI w : Int32).toInt64 &&& 63) = lN (a * 2 ^ w) := by
  refine Int64.toBitVec_inj.mp (BitVec.eq_of_toNat_eq ?_)
  rw [Int64.toBitVec_shiftLeft]
  show ((BitVec.ofNat 64 a) <<< ((((nI w : Int32).toInt64 &&& 63 : Int64).toBitVec).smod 64)).toNat = (BitVec.ofNat 64 (a * 2 ^ w)).toNat
  rw [zl_sam w hw]
  show ((BitVec.ofNat 64 a) <<< (BitVec.ofNat 64 w).toNat).toNat = _
  rw [BitVec.toNat_shiftLeft, BitVec.toNat_ofNat, BitVec.toNat_ofNat, BitVec.toNat_ofNat, Nat.shiftLeft_eq, Nat.mod_eq_of_lt (a := w) (by omega), Nat.mod_mul_mod]
theorem zl_shl1 {w : Nat} (hw : w < 64) : (1 : Int64) <<< ((nI w : Int32).toInt64 &&& 63) = lN (2 ^ w) := by
  have h := zl_shl 1 hw
  rw [Nat.one_mul] at h
  exact h
theorem zl_shr {a w : Nat} (ha : a < 2 ^ 64) (hw : w < 64) : ((lN a).toUInt64 >>> ((nI w : Int32).toInt64.toUInt64 &&& Int64.toUInt64 63)).toInt64 = lN (a / 2 ^ w) := by
  refine Int64.toBitVec_inj.mp (BitVec.eq_of_toNat_eq ?_)
  have e : ((lN a).toUInt64 >>> ((nI w : Int32).toInt64.toUInt64 &&& Int64.toUInt64 63)).toNat = a / 2 ^ w := by
    rw [UInt64.toNat_shiftRight, zl_shn w hw, Nat.mod_eq_of_lt hw, Nat.shiftRight_eq_div_pow, zl_un ha]
  show ((lN a).toUInt64 >>> ((nI w : Int32).toInt64.toUInt64 &&& Int64.toUInt64 63)).toNat = (BitVec.ofNat 64 (a / 2 ^ w)).toNat
  rw [e, BitVec.toNat_ofNat, Nat.mod_eq_of_lt (Nat.lt_of_le_of_lt (Nat.div_le_self _ _) ha)]
theorem zl_and (a : Nat) {w : Nat} (hw : w < 64) : lN a &&& lN (2 ^ w - 1) = lN (a % 2 ^ w) := by
  have hp : 2 ^ w ≤ 2 ^ 63 := Nat.pow_le_pow_right (by decide) (by omega)
  have h0 : 0 < 2 ^ w := Nat.pow_pos (by decide)
  have hm := Nat.mod_lt a h0
  refine Int64.toBitVec_inj.mp (BitVec.eq_of_toNat_eq ?_)
  show ((BitVec.ofNat 64 a) &&& (BitVec.ofNat 64 (2 ^ w - 1))).toNat = (BitVec.ofNat 64 (a % 2 ^ w)).toNat
  rw [BitVec.toNat_and, BitVec.toNat_ofNat, BitVec.toNat_ofNat, BitVec.toNat_ofNat, Nat.mod_eq_of_lt (a := 2 ^ w - 1) (by omega), Nat.and_two_pow_sub_one_eq_mod, Nat.mod_mod_of_dvd a (Nat.pow_dvd_pow 2 (show w ≤ 64 by omega)), Nat.mod_eq_of_lt (a := a % 2 ^ w) (by omega)]
theorem zl_mask (a : Nat) {w : Nat} (hw : w < 64) : lN a &&& (((1 : Int64) <<< ((nI w : Int32).toInt64 &&& 63)) - 1) = lN (a % 2 ^ w) := by
  have h0 : 0 < 2 ^ w := Nat.pow_pos (by decide)
  rw [zl_shl1 hw, show lN (2 ^ w) - 1 = lN (2 ^ w - 1) from lN_sub (a := 2 ^ w) (b := 1) (by omega)]
  exact zl_and a hw
theorem zl_orS {a b w : Nat} (h : b < 2 ^ w) (h2 : a * 2 ^ w + b < 2 ^ 64) : lN (a * 2 ^ w) ||| lN b = lN (a * 2 ^ w + b) := by
  refine Int64.toBitVec_inj.mp (BitVec.eq_of_toNat_eq ?_)
  show ((BitVec.ofNat 64 (a * 2 ^ w)) ||| (BitVec.ofNat 64 b)).toNat = (BitVec.ofNat 64 (a * 2 ^ w + b)).toNat
  rw [BitVec.toNat_or, BitVec.toNat_ofNat, BitVec.toNat_ofNat, BitVec.toNat_ofNat, Nat.mod_eq_of_lt h2, Nat.mod_eq_of_lt (a := a * 2 ^ w) (by omega), Nat.mod_eq_of_lt (a := b) (by omega), Nat.mul_comm a, Nat.two_pow_add_eq_or_of_lt h a]
theorem zl_tb {m : Int64} {N : Nat} (hN : m.toUInt64.toNat = N) (h0 : 0 < N) : ∀ n, n ≤ 63 → N < 2 ^ (n + 1) → ∃ t, t ≤ n ∧ fn_topBit m n = nI t ∧ 2 ^ t ≤ N ∧ N < 2 ^ (t + 1)
  | 0, _, h => ⟨0, Nat.le_refl _, rfl, h0, h⟩
  | n + 1, hn, h => by
    rw [fn_topBit]
    by_cases c : (m.toUInt64 >>> ((nI (n + 1) : Int32).toInt64.toUInt64 &&& Int64.toUInt64 63)).toInt64 &&& 1 = 1
    · rw [if_pos c]
      refine ⟨n + 1, Nat.le_refl _, rfl, ?_, h⟩
      have c0 : ¬ (m.toUInt64 >>> ((nI (n + 1) : Int32).toInt64.toUInt64 &&& Int64.toUInt64 63)).toInt64 &&& 1 = 0 := fun z => absurd (c.symm.trans z) (by decide)
      rcases Nat.lt_or_ge N (2 ^ (n + 1)) with q | q
      · exact absurd ((zl_bit m (show n + 1 < 64 by omega)).mpr (by rw [hN, Nat.div_eq_of_lt q])) c0
      · exact q
    · rw [if_neg c]
      have c0 : (m.toUInt64 >>> ((nI (n + 1) : Int32).toInt64.toUInt64 &&& Int64.toUInt64 63)).toInt64 &&& 1 = 0 := by
        rcases Decidable.em ((m.toUInt64 >>> ((nI (n + 1) : Int32).toInt64.toUInt64 &&& Int64.toUInt64 63)).toInt64 &&& 1 = 0) with q | q
        · exact q
        · exact absurd (zl_b1 q) c
      have q := zl_bitN (m := m) (n := n + 1) (by rw [hN]; exact h) (by omega) c0
      rw [hN] at q
      obtain ⟨t, h1, h2, h3, h4⟩ := zl_tb hN h0 n (by omega) q
      exact ⟨t, by omega, h2, h3, h4⟩
/-- class and reference put a number together: a part of w bits and one ahead, rounded up it may have one more -/
def zz_fc (E k j : Int32) (P : Int64) : Int64 := ((E + j).toInt64 <<< ((k : Int32).toInt64 &&& 63)) + (P - ((1 : Int64) <<< ((k : Int32).toInt64 &&& 63)))
def zz_fn (E k j : Int32) (P : Int64) : Int64 := ((E.toInt64 + j.toInt64 : Int64) <<< ((k : Int32).toInt64 &&& 63)) ||| (P &&& (((1 : Int64) <<< ((k : Int32).toInt64 &&& 63)) - 1))
def zz_fm (g : Int64 → Int64) (E k j : Int32) (P : Int64) : Int64 := if ((P.toUInt64 >>> ((k + 1 : Int32).toInt64.toUInt64 &&& Int64.toUInt64 63)).toInt64) = 1 then g ((((E.toInt64 + 1) + j.toInt64 : Int64) <<< ((k : Int32).toInt64 &&& 63)) ||| ((P.toUInt64 >>> ((1 : Int32).toInt64.toUInt64 &&& Int64.toUInt64 63)).toInt64 &&& (((1 : Int64) <<< ((k : Int32).toInt64 &&& 63)) - 1))) else g (zz_fn E k j P)
def zz_sg (k : Int32) (r : Int64) : Int64 := if k = 23 then ((r ||| 2147483648).toInt32).toInt64 else r ||| (-9223372036854775808)
def zz_rnd (F S : Int64 → Int64) (m : Int64) (E k : Int32) : Int64 := if k < E then (if ((1 : Int64) <<< (((E - k) - 1 : Int32).toInt64 &&& 63)) < (m &&& (((1 : Int64) <<< ((E - k : Int32).toInt64 &&& 63)) - 1)) then F (((m.toUInt64 >>> ((E - k : Int32).toInt64.toUInt64 &&& Int64.toUInt64 63)).toInt64) + 1) else (if (m &&& (((1 : Int64) <<< ((E - k : Int32).toInt64 &&& 63)) - 1)) = ((1 : Int64) <<< (((E - k) - 1 : Int32).toInt64 &&& 63)) then (if (((m.toUInt64 >>> ((E - k : Int32).toInt64.toUInt64 &&& Int64.toUInt64 63)).toInt64) &&& 1) = 1 then F (((m.toUInt64 >>> ((E - k : Int32).toInt64.toUInt64 &&& Int64.toUInt64 63)).toInt64) + 1) else F ((m.toUInt64 >>> ((E - k : Int32).toInt64.toUInt64 &&& Int64.toUInt64 63)).toInt64)) else F ((m.toUInt64 >>> ((E - k : Int32).toInt64.toUInt64 &&& Int64.toUInt64 63)).toInt64))) else S ((m : Int64) <<< ((k - E : Int32).toInt64 &&& 63))
theorem zl_nearE (x : Int64) (k j : Int32) : fn_co_nearest x k j = if x = 0 then 0 else (if 0 ≤ x then zz_rnd (zz_fc (fn_topBit x 63) k j) (zz_fc (fn_topBit x 63) k j) x (fn_topBit x 63) k else zz_rnd (zz_fc (fn_topBit (-x) 63) k j) (zz_fc (fn_topBit (-x) 63) k j) (-x) (fn_topBit (-x) 63) k) := rfl
theorem zl_realE (x : Int64) (k j : Int32) : fn_cm_real x k j = if x = 0 then 0 else (if 0 ≤ x then zz_rnd (zz_fm (fun r => r) (nI (fn_topBit x 63).toNatClampNeg) k j) (fun P => zz_fn (nI (fn_topBit x 63).toNatClampNeg) k j P) x (nI (fn_topBit x 63).toNatClampNeg) k else zz_rnd (zz_fm (zz_sg k) (nI (fn_topBit (-x) 63).toNatClampNeg) k j) (fun P => zz_sg k (zz_fn (nI (fn_topBit (-x) 63).toNatClampNeg) k j P)) (-x) (nI (fn_topBit (-x) 63).toNatClampNeg) k) := rfl
theorem zl_Fc {t w b P : Nat} (ht : t ≤ 64) (hb : b ≤ 1023) (hw : w < 64) (h1 : 2 ^ w ≤ P) : zz_fc (nI t) (nI w) (nI b) (lN P) = lN ((t + b) * 2 ^ w + (P - 2 ^ w)) := by
  unfold zz_fc
  rw [nI_add, nI_l (show t + b < 2 ^ 31 by omega), zl_shl _ hw, zl_shl1 hw, lN_sub h1, lN_add]
theorem zl_Fn {t w b P : Nat} (ht : t ≤ 64) (hb : b ≤ 1023) (hw : w < 64) (h2 : (t + b) * 2 ^ w + 2 ^ w ≤ 2 ^ 64) : zz_fn (nI t) (nI w) (nI b) (lN P) = lN ((t + b) * 2 ^ w + P % 2 ^ w) := by
  have hm := Nat.mod_lt P (show 0 < 2 ^ w from Nat.pow_pos (by decide))
  unfold zz_fn
  rw [nI_l (show t < 2 ^ 31 by omega), nI_l (show b < 2 ^ 31 by omega), lN_add, zl_shl _ hw, zl_mask P hw, zl_orS hm (by omega)]
theorem zl_FcN {t w b P : Nat} (ht : t ≤ 64) (hb : b ≤ 1023) (hw : w < 64) (h2 : (t + b) * 2 ^ w + 2 ^ w ≤ 2 ^ 64) (h1 : 2 ^ w ≤ P) (h3 : P < 2 ^ (w + 1)) : zz_fn (nI t) (nI w) (nI b) (lN P) = zz_fc (nI t) (nI w) (nI b) (lN P) := by
  rw [zl_Fc ht hb hw h1, zl_Fn ht hb hw h2, Nat.mod_eq_sub_mod h1, Nat.mod_eq_of_lt (by rw [Nat.pow_succ] at h3; omega)]
theorem zl_FcM {t w b P : Nat} (g : Int64 → Int64) (ht : t ≤ 63) (hb : b ≤ 1023) (hw : w < 62) (h2 : (t + 1 + b) * 2 ^ w + 2 ^ w ≤ 2 ^ 64) (h1 : 2 ^ w ≤ P) (h3 : P ≤ 2 ^ (w + 1)) : zz_fm g (nI t) (nI w) (nI b) (lN P) = g (zz_fc (nI t) (nI w) (nI b) (lN P)) := by
  have hp : 2 ^ (w + 1) ≤ 2 ^ 62 := Nat.pow_le_pow_right (by decide) (by omega)
  have h0 : 0 < 2 ^ w := Nat.pow_pos (by decide)
  have es : 2 ^ (w + 1) = 2 ^ w * 2 := Nat.pow_succ ..
  have em : (t + 1 + b) * 2 ^ w = (t + b) * 2 ^ w + 2 ^ w := by
    rw [show t + 1 + b = (t + b) + 1 by omega, Nat.add_mul, Nat.one_mul]
  unfold zz_fm
  rw [nI_1, zl_shr (show P < 2 ^ 64 by omega) (show w + 1 < 64 by omega)]
  rcases Nat.lt_or_ge P (2 ^ (w + 1)) with q | q
  · rw [if_neg (by
      rw [Nat.div_eq_of_lt q]
      decide), zl_FcN (by omega) hb (by omega) (by omega) h1 q]
  · have eP : P = 2 ^ (w + 1) := by omega
    rw [if_pos (by
      rw [eP, Nat.div_self (Nat.pow_pos (by decide))]
      rfl)]
    congr 1
    rw [zl_Fc (by omega) hb (by omega) h1]
    have e1 : ((lN P).toUInt64 >>> ((1 : Int32).toInt64.toUInt64 &&& Int64.toUInt64 63)).toInt64 = lN (2 ^ w) := by
      have e2 := zl_shr (a := P) (w := 1) (by omega) (by decide)
      rw [eP, es, Nat.pow_one, Nat.mul_div_cancel _ (by decide)] at e2
      rw [eP, es]; exact e2
    rw [e1, zl_mask _ (by omega), Nat.mod_self, nI_l (show t < 2 ^ 31 by omega), nI_l (show b < 2 ^ 31 by omega), lN_1, lN_add, zl_shl _ (by omega), zl_orS h0 (by omega), em]
    congr 1
    omega
/-- both sides round alike -/
theorem zl_rnd {N t w b : Nat} (g : Int64 → Int64) (h64 : N < 2 ^ 64) (ht : t ≤ 63) (h1 : 2 ^ t ≤ N) (h2 : N < 2 ^ (t + 1)) (hw : w < 62) (hb : b ≤ 1023) (h3 : (t + 1 + b) * 2 ^ w + 2 ^ w ≤ 2 ^ 64) : ∃ P : Nat, 2 ^ w ≤ P ∧ P ≤ 2 ^ (w + 1) ∧ zz_rnd (zz_fc (nI t) (nI w) (nI b)) (zz_fc (nI t) (nI w) (nI b)) (lN N) (nI t) (nI w) = zz_fc (nI t) (nI w) (nI b) (lN P) ∧ zz_rnd (zz_fm g (nI t) (nI w) (nI b)) (fun P => g (zz_fn (nI t) (nI w) (nI b) P)) (lN N) (nI t) (nI w) = g (zz_fc (nI t) (nI w) (nI b) (lN P)) := by
  have h0 : 0 < 2 ^ w := Nat.pow_pos (by decide)
  have em : (t + 1 + b) * 2 ^ w = (t + b) * 2 ^ w + 2 ^ w := by
    rw [show t + 1 + b = (t + b) + 1 by omega, Nat.add_mul, Nat.one_mul]
  unfold zz_rnd
  by_cases c : nI w < nI t
  · have c' : w < t := (nI_ltI (by omega) (by omega)).mp c
    have p0 : 0 < 2 ^ (t - w) := Nat.pow_pos (by decide)
    have b1 : 2 ^ w ≤ N / 2 ^ (t - w) := by
      rw [Nat.le_div_iff_mul_le p0, ← Nat.pow_add, show w + (t - w) = t by omega]; exact h1
    have b2 : N / 2 ^ (t - w) < 2 ^ (w + 1) := by
      rw [Nat.div_lt_iff_lt_mul p0, ← Nat.pow_add, show w + 1 + (t - w) = t + 1 by omega]; exact h2
    rw [if_pos c, if_pos c, pk_sub (show w ≤ t by omega), zl_shr h64 (show t - w < 64 by omega), lN_1]
    generalize hA : ((1 : Int64) <<< (((nI (t - w)) - 1 : Int32).toInt64 &&& 63)) = HA
    generalize hB : (lN N &&& (((1 : Int64) <<< ((nI (t - w) : Int32).toInt64 &&& 63)) - 1)) = RE
    by_cases a1 : HA < RE
    · rw [if_pos a1, if_pos a1]
      exact ⟨N / 2 ^ (t - w) + 1, by omega, by omega, rfl, zl_FcM g ht hb hw h3 (by omega) (by omega)⟩
    rw [if_neg a1, if_neg a1]
    by_cases a2 : RE = HA
    · rw [if_pos a2, if_pos a2]
      by_cases a3 : (lN (N / 2 ^ (t - w)) &&& 1) = 1
      · rw [if_pos a3, if_pos a3]
        exact ⟨N / 2 ^ (t - w) + 1, by omega, by omega, rfl, zl_FcM g ht hb hw h3 (by omega) (by omega)⟩
      · rw [if_neg a3, if_neg a3]
        exact ⟨N / 2 ^ (t - w), by omega, by omega, rfl, zl_FcM g ht hb hw h3 (by omega) (by omega)⟩
    · rw [if_neg a2, if_neg a2]
      exact ⟨N / 2 ^ (t - w), by omega, by omega, rfl, zl_FcM g ht hb hw h3 (by omega) (by omega)⟩
  · have c' : t ≤ w := by
      rcases Nat.lt_or_ge w t with q | q
      · exact absurd ((nI_ltI (by omega) (by omega)).mpr q) c
      · exact q
    have b1 : 2 ^ w ≤ N * 2 ^ (w - t) := by
      have := Nat.mul_le_mul_right (2 ^ (w - t)) h1
      rw [← Nat.pow_add, show t + (w - t) = w by omega] at this; exact this
    have b2 : N * 2 ^ (w - t) < 2 ^ (w + 1) := by
      have := Nat.mul_lt_mul_of_pos_right h2 (show 0 < 2 ^ (w - t) from Nat.pow_pos (by decide))
      rw [← Nat.pow_add, show t + 1 + (w - t) = w + 1 by omega] at this; exact this
    rw [if_neg c, if_neg c, pk_sub c', zl_shl N (show w - t < 64 by omega)]
    exact ⟨N * 2 ^ (w - t), b1, by omega, rfl, congrArg g (zl_FcN (by omega) hb (by omega) (by omega) b1 b2)⟩
theorem zl_neg31 {R : Nat} (h : R < 2 ^ 31) : ((lN R ||| 2147483648).toInt32).toInt64 = lN R ||| (-2147483648) := by
  have e1 : lN R ||| 2147483648 = lN (1 * 2 ^ 31 + R) := by
    have := zl_orS (a := 1) (b := R) (w := 31) h (by omega)
    rw [← this]
    exact Int64.or_comm _ _
  have e2 : lN R ||| (-2147483648) = lN (8589934591 * 2 ^ 31 + R) := by
    have := zl_orS (a := 8589934591) (b := R) (w := 31) h (by omega)
    rw [← this, show (-2147483648 : Int64) = lN (8589934591 * 2 ^ 31) by decide]
    exact Int64.or_comm _ _
  rw [e1, e2, lN_i]
  refine Int64.toInt_inj.mp ?_
  rw [zl_i2l]
  have a1 : (nI (1 * 2 ^ 31 + R)).toInt = (R : Int) - 2 ^ 31 := by
    show (BitVec.ofNat 32 (1 * 2 ^ 31 + R)).toInt = _
    rw [BitVec.toInt_eq_toNat_cond, BitVec.toNat_ofNat, Nat.mod_eq_of_lt (by omega), if_neg (by omega)]
    omega
  have a2 : (lN (8589934591 * 2 ^ 31 + R)).toInt = (R : Int) - 2 ^ 31 := by
    show (BitVec.ofNat 64 (8589934591 * 2 ^ 31 + R)).toInt = _
    rw [BitVec.toInt_eq_toNat_cond, BitVec.toNat_ofNat, Nat.mod_eq_of_lt (by omega), if_neg (by omega)]
    omega
  rw [a1, a2]
/-- the number nearest to a whole, for both kinds -/
theorem zl_top {m : Int64} (h : ¬ m = 0) : ∃ N t : Nat, m = lN N ∧ N < 2 ^ 64 ∧ t ≤ 63 ∧ fn_topBit m 63 = nI t ∧ 2 ^ t ≤ N ∧ N < 2 ^ (t + 1) := by
  have h64 : m.toUInt64.toNat < 2 ^ 64 := UInt64.toNat_lt _
  have h0 : 0 < m.toUInt64.toNat := by
    rcases Nat.eq_zero_or_pos m.toUInt64.toNat with q | q
    · exact absurd (by rw [zl_of m, q]; rfl) h
    · exact q
  obtain ⟨t, h1, h2, h3, h4⟩ := zl_tb rfl h0 63 (Nat.le_refl _) h64
  exact ⟨_, t, zl_of m, h64, h1, h2, h3, h4⟩
theorem zl_real {w b : Nat} (x : Int64) (hw : (w = 23 ∧ b = 127) ∨ (w = 52 ∧ b = 1023)) : fn_cm_real x (nI w) (nI b) = if 0 ≤ x then fn_co_nearest x (nI w) (nI b) else (if w = 23 then fn_co_nearest x (nI w) (nI b) ||| (-2147483648) else fn_co_nearest x (nI w) (nI b) ||| (-9223372036854775808)) := by
  rw [zl_realE, zl_nearE]
  by_cases c0 : x = 0
  · rw [if_pos c0, if_pos c0, c0]
    rfl
  rw [if_neg c0, if_neg c0]
  have hw2 : w < 62 ∧ b ≤ 1023 := by omega
  by_cases cp : 0 ≤ x
  · rw [if_pos cp, if_pos cp, if_pos cp]
    obtain ⟨N, t, e, h64, ht, et, h1, h2⟩ := zl_top c0
    have h3 : (t + 1 + b) * 2 ^ w + 2 ^ w ≤ 2 ^ 64 := by
      rcases hw with ⟨rfl, rfl⟩ | ⟨rfl, rfl⟩ <;> omega
    rw [et, nI_clamp (show t < 2 ^ 31 by omega), e]
    obtain ⟨P, p1, p2, p3, p4⟩ := zl_rnd (fun r => r) h64 ht h1 h2 hw2.1 hw2.2 h3
    rw [p3]
    exact p4
  · rw [if_neg cp, if_neg cp, if_neg cp]
    obtain ⟨N, t, e, h64, ht, et, h1, h2⟩ := zl_top (zl_neg0 c0)
    have h3 : (t + 1 + b) * 2 ^ w + 2 ^ w ≤ 2 ^ 64 := by
      rcases hw with ⟨rfl, rfl⟩ | ⟨rfl, rfl⟩ <;> omega
    rw [et, nI_clamp (show t < 2 ^ 31 by omega), e]
    obtain ⟨P, p1, p2, p3, p4⟩ := zl_rnd (zz_sg (nI w)) h64 ht h1 h2 hw2.1 hw2.2 h3
    rw [p3, p4, zl_Fc (by omega) hw2.2 (by omega) p1]
    rcases hw with ⟨rfl, rfl⟩ | ⟨rfl, rfl⟩
    · rw [if_pos rfl]
      show (if (nI 23 : Int32) = 23 then ((lN ((t + 127) * 2 ^ 23 + (P - 2 ^ 23)) ||| 2147483648).toInt32).toInt64 else _) = _
      rw [if_pos (show (nI 23 : Int32) = 23 from rfl)]
      exact zl_neg31 (by omega)
    · rw [if_neg (by decide)]
      show (if (nI 52 : Int32) = 23 then _ else lN ((t + 1023) * 2 ^ 52 + (P - 2 ^ 52)) ||| (-9223372036854775808)) = _
      rw [if_neg (show ¬ (nI 52 : Int32) = 23 by decide)]
theorem zl_fdw : ∀ T, T < 23 → (zz_wd (23 - T) + 896 : Int64) = ((nI T - 149) + 1023 : Int32).toInt64 := by decide +kernel
theorem zl_fde : ∀ E, E < 256 → ((lN E : Int64) + 896) = ((nI E - 127) + 1023 : Int32).toInt64 := by decide +kernel
theorem zl_fdf {F T : Nat} (hT : T ≤ 22) : ((lN (F * 2 ^ (23 - T)) &&& 8388607 : Int64) <<< ((29 : Int32).toInt64 &&& 63)) = (((lN F : Int64) <<< ((52 - nI T : Int32).toInt64 &&& 63)) &&& 4503599627370495) := by
  have e1 : lN (F * 2 ^ (23 - T)) &&& 8388607 = lN (F * 2 ^ (23 - T) % 2 ^ 23) := zl_and _ (w := 23) (by decide)
  have e2 : (52 - nI T : Int32) = nI (52 - T) := pk_sub (a := 52) (by omega)
  have e3 : lN (F * 2 ^ (52 - T)) &&& 4503599627370495 = lN (F * 2 ^ (52 - T) % 2 ^ 52) := zl_and _ (w := 52) (by decide)
  have e4 : (lN (F * 2 ^ (23 - T) % 2 ^ 23) : Int64) <<< ((29 : Int32).toInt64 &&& 63) = lN (F * 2 ^ (23 - T) % 2 ^ 23 * 2 ^ 29) := zl_shl _ (w := 29) (by decide)
  rw [e1, e2, zl_shl F (show 52 - T < 64 by omega), e3, e4, ← Nat.mul_mod_mul_right, ← Nat.pow_add, Nat.mul_assoc, ← Nat.pow_add, show 23 - T + 29 = 52 - T by omega]
set_option maxHeartbeats 4000000 in
/-- a float as a double -/
theorem zl_fd (x : Int64) : fn_cm_floatToDouble x = fn_co_doubleOfFloat x := by
  have h64 : x.toUInt64.toNat < 2 ^ 64 := UInt64.toNat_lt _
  have a1 := zl_shr (a := x.toUInt64.toNat) (w := 23) h64 (by decide)
  rw [← zl_of x] at a1
  have e1 : (((x.toUInt64 >>> ((23 : Int32).toInt64.toUInt64 &&& Int64.toUInt64 63)).toInt64) &&& 255) = lN (x.toUInt64.toNat / 2 ^ 23 % 2 ^ 8) := (congrArg (fun z : Int64 => z &&& 255) a1).trans (zl_and _ (w := 8) (by decide))
  have e2 : (x &&& 8388607) = lN (x.toUInt64.toNat % 2 ^ 23) := (congrArg (fun z : Int64 => z &&& 8388607) (zl_of x)).trans (zl_and _ (w := 23) (by decide))
  have e3 : (x &&& 2147483647) = lN (x.toUInt64.toNat % 2 ^ 31) := (congrArg (fun z : Int64 => z &&& 2147483647) (zl_of x)).trans (zl_and _ (w := 31) (by decide))
  unfold fn_cm_floatToDouble fn_co_doubleOfFloat fn_cm_isNone
  rw [if_pos (show (6 : Int32) = 6 from rfl), e1, e2, e3, lN_i]
  clear a1 e1 e2 e3
  generalize x.toUInt64.toNat = X at h64
  have hL : X % 2 ^ 31 = (X / 2 ^ 23 % 2 ^ 8) * 2 ^ 23 + X % 2 ^ 23 := by omega
  have hE : X / 2 ^ 23 % 2 ^ 8 < 256 := by omega
  have hF : X % 2 ^ 23 < 2 ^ 23 := by omega
  rw [hL]
  clear hL
  generalize X / 2 ^ 23 % 2 ^ 8 = E at hE ⊢
  generalize X % 2 ^ 23 = F at hF ⊢
  have hn : lN (E * 2 ^ 23 + F) ≤ 2139095040 ↔ E * 2 ^ 23 + F ≤ 2139095040 := by
    rw [show (2139095040 : Int64) = lN 2139095040 by decide]; exact pk_lLE (by omega) (by decide)
  have q1 : ((lN E : Int64) = 255) ↔ E = 255 := by
    rw [show (255 : Int64) = lN 255 by decide]; exact pk_lEQ (by omega) (by decide)
  have q2 : (nI E = 255) ↔ E = 255 := by
    rw [show (255 : Int32) = nI 255 by decide]; exact nI_eq (by omega) (by decide)
  have q3 : ((lN E : Int64) = 0) ↔ E = 0 := by
    rw [show (0 : Int64) = lN 0 by decide]; exact pk_lEQ (by omega) (by decide)
  have q4 : (nI E ≤ 0) ↔ E = 0 := by
    rw [show (0 : Int32) = nI 0 by decide, nI_leI (by omega) (by decide)]; omega
  have q5 : ((lN F : Int64) = 0) ↔ F = 0 := by
    rw [show (0 : Int64) = lN 0 by decide]; exact pk_lEQ (by omega) (by decide)
  by_cases cn : E * 2 ^ 23 + F ≤ 2139095040
  rotate_left
  · have c5 : E = 255 := by omega
    have f0 : ¬ F = 0 := by omega
    rw [if_neg (fun z => cn (hn.mp z)), if_neg (show ¬ ((1 : Int32) = 0) by decide)]
    by_cases cp : 0 ≤ x
    · rw [if_pos cp, if_pos (q2.mpr c5), if_neg (fun z => f0 (q5.mp z))]
    · rw [if_neg cp, if_pos (q2.mpr c5), if_neg (fun z => f0 (q5.mp z))]
  by_cases cp : 0 ≤ x
  · rw [if_pos (hn.mpr cn), if_pos (show (0 : Int32) = 0 from rfl), if_pos cp, if_pos cp]
    by_cases c5 : E = 255
    · have f0 : F = 0 := by omega
      rw [if_pos (q1.mpr c5), if_pos (q2.mpr c5), if_pos (q5.mpr f0)]
    rw [if_neg (fun z => c5 (q1.mp z)), if_neg (fun z => c5 (q2.mp z))]
    by_cases c0 : E = 0
    · rw [if_pos (q3.mpr c0), if_pos (q4.mpr c0)]
      by_cases f0 : F = 0
      · rw [if_pos (q5.mpr f0), if_pos (q5.mpr f0)]
      · rw [if_neg (fun z => f0 (q5.mp z)), if_neg (fun z => f0 (q5.mp z))]
        obtain ⟨N, T, n1, n2, n3, n4, n5, n6⟩ := zl_top (m := lN F) (fun z => f0 (q5.mp z))
        have eN : F = N := by
          have z := congrArg (fun y : Int64 => y.toUInt64.toNat) n1
          have z2 : (lN F).toUInt64.toNat = (lN N).toUInt64.toNat := z
          rw [zl_un (show F < 2 ^ 64 by omega), zl_un n2] at z2
          exact z2
        subst eN
        have hT : T < 23 := (Nat.pow_lt_pow_iff_right (a := 2) (by decide)).mp (by omega)
        have eL : Nat.log2 F = T := (Nat.log2_eq_iff f0).mpr ⟨n5, n6⟩
        rw [n4, zl_un (show F < 2 ^ 64 by omega), eL, zl_fdw T hT]
        rw [zl_fdf (by omega)]
    · rw [if_neg (fun z => c0 (q3.mp z)), if_neg (fun z => c0 (q4.mp z)), zl_fde E (by omega)]
  · rw [if_pos (hn.mpr cn), if_pos (show (0 : Int32) = 0 from rfl), if_neg cp, if_neg cp]
    by_cases c5 : E = 255
    · have f0 : F = 0 := by omega
      rw [if_pos (q1.mpr c5), if_pos (q2.mpr c5), if_pos (q5.mpr f0)]
    rw [if_neg (fun z => c5 (q1.mp z)), if_neg (fun z => c5 (q2.mp z))]
    by_cases c0 : E = 0
    · rw [if_pos (q3.mpr c0), if_pos (q4.mpr c0)]
      by_cases f0 : F = 0
      · rw [if_pos (q5.mpr f0), if_pos (q5.mpr f0)]
      · rw [if_neg (fun z => f0 (q5.mp z)), if_neg (fun z => f0 (q5.mp z))]
        obtain ⟨N, T, n1, n2, n3, n4, n5, n6⟩ := zl_top (m := lN F) (fun z => f0 (q5.mp z))
        have eN : F = N := by
          have z := congrArg (fun y : Int64 => y.toUInt64.toNat) n1
          have z2 : (lN F).toUInt64.toNat = (lN N).toUInt64.toNat := z
          rw [zl_un (show F < 2 ^ 64 by omega), zl_un n2] at z2
          exact z2
        subst eN
        have hT : T < 23 := (Nat.pow_lt_pow_iff_right (a := 2) (by decide)).mp (by omega)
        have eL : Nat.log2 F = T := (Nat.log2_eq_iff f0).mpr ⟨n5, n6⟩
        rw [n4, zl_un (show F < 2 ^ 64 by omega), eL, zl_fdw T hT]
        rw [zl_fdf (by omega)]
    · rw [if_neg (fun z => c0 (q3.mp z)), if_neg (fun z => c0 (q4.mp z)), zl_fde E (by omega)]
/-- widening: class and reference -/
theorem zl_wid {i j : Nat} (x : Int64) (hi : i ≤ 8) (hj : j ≤ 8) (hr : ¬ fn_co_reaches (nI i) (nI j) = 0) : fn_co_widened (nI i) (nI j) (fn_co_cleaned (nI i) x) = fn_cm_widened (nI i) (nI j) x := by
  unfold fn_co_widened fn_cm_widened
  by_cases c1 : nI i = nI j
  · rw [if_pos c1, if_pos c1]; rfl
  rw [if_neg c1, if_neg c1]
  by_cases c2 : 5 < nI j
  rotate_left
  · rw [if_neg c2, if_neg c2]; rfl
  rw [if_pos c2, if_pos c2]
  by_cases c3 : nI i = 6
  · rw [if_pos c3, if_pos c3, zl_fd]
    have ei : i = 6 := zl_inj (y := 6) c3 (by omega) (by omega)
    subst ei
    by_cases cn : fn_cm_isNone (nI 6) x = 0
    · rw [show fn_co_cleaned (nI 6) x = x from if_pos cn]
    · rw [show fn_co_cleaned (nI 6) x = 2143289344 from if_neg cn]
      have e : fn_cm_floatToDouble x = 9221120237041090560 := if_neg cn
      rw [← zl_fd x, e]
      decide
  rw [if_neg c3, if_neg c3]
  have hi5 : i ≤ 5 := by
    rcases (show i ≤ 5 ∨ i = 6 ∨ i = 7 ∨ i = 8 by omega) with q | rfl | rfl | rfl
    · exact q
    · exact absurd rfl c3
    · have : ∀ j, j < 9 → ¬ fn_co_reaches (nI 7) (nI j) = 0 → nI 7 = nI j := by decide +kernel
      exact absurd (this j (by omega) hr) c1
    · have : ∀ j, j < 9 → ¬ fn_co_reaches (nI 8) (nI j) = 0 → nI 8 = nI j := by decide +kernel
      exact absurd (this j (by omega) hr) c1
  have ec : fn_co_cleaned (nI i) x = x := by
    rcases (show i = 0 ∨ i = 1 ∨ i = 2 ∨ i = 3 ∨ i = 4 ∨ i = 5 by omega) with rfl | rfl | rfl | rfl | rfl | rfl <;> rfl
  rw [ec]
  by_cases c4 : nI j = 6
  · rw [if_pos c4, if_pos c4]
    have e := zl_real (w := 23) (b := 127) x (Or.inl ⟨rfl, rfl⟩)
    by_cases cp : 0 ≤ x
    · rw [if_pos cp]; rw [if_pos cp] at e; exact e.symm
    · rw [if_neg cp]; rw [if_neg cp, if_pos rfl] at e; exact e.symm
  · rw [if_neg c4, if_neg c4]
    have e := zl_real (w := 52) (b := 1023) x (Or.inr ⟨rfl, rfl⟩)
    by_cases cp : 0 ≤ x
    · rw [if_pos cp]; rw [if_pos cp] at e; exact e.symm
    · rw [if_neg cp]; rw [if_neg cp, if_neg (by decide)] at e; exact e.symm
theorem zl_ones {X w : Nat} (hw : w ≤ 64) (h : 2 ^ 64 - 2 ^ w ≤ X) (h2 : X < 2 ^ 64) : BitVec.ofNat 64 X ||| BitVec.ofNat 64 (2 ^ w - 1) = BitVec.allOnes 64 := by
  refine BitVec.eq_of_getLsbD_eq (fun i hi => ?_)
  rw [BitVec.getLsbD_or, BitVec.getLsbD_ofNat, BitVec.getLsbD_ofNat, BitVec.getLsbD_allOnes, Nat.testBit_two_pow_sub_one]
  by_cases c : i < w
  · simp [hi, c]
  · have e : X = 2 ^ 64 - ((2 ^ 64 - 1 - X) + 1) := by omega
    have hy : 2 ^ 64 - 1 - X < 2 ^ i := by
      have := Nat.pow_le_pow_right (n := 2) (by decide) (show w ≤ i by omega)
      omega
    have t : X.testBit i = true := by
      rw [e, Nat.testBit_two_pow_sub_succ (by omega), Nat.testBit_lt_two_pow hy]
      simp [hi]
    simp [hi, t]
theorem zl_xorN (x M : BitVec 64) (h : x ||| M = BitVec.allOnes 64) : x ^^^ M = ~~~(x &&& M) := by
  refine BitVec.eq_of_getLsbD_eq (fun i hi => ?_)
  have e := congrArg (fun z => z.getLsbD i) h
  simp only [BitVec.getLsbD_or, BitVec.getLsbD_allOnes, hi, decide_true] at e
  simp only [BitVec.getLsbD_xor, BitVec.getLsbD_not, BitVec.getLsbD_and, hi, decide_true, Bool.true_and]
  cases hx : x.getLsbD i <;> cases hm : M.getLsbD i <;> simp_all
theorem zl_m1 (y : Int64) : -1 - y = ~~~y := Int64.toBitVec_inj.mp (by
  show (-1#64) - y.toBitVec = ~~~ y.toBitVec
  refine BitVec.eq_of_toNat_eq ?_
  have hy := y.toBitVec.isLt
  rw [BitVec.toNat_sub, BitVec.toNat_not, show (-1#64 : BitVec 64).toNat = 2 ^ 64 - 1 by decide]
  omega)
theorem zl_i6t (x : Int64) : x.toInt = if 2 * x.toUInt64.toNat < 2 ^ 64 then (x.toUInt64.toNat : Int) else (x.toUInt64.toNat : Int) - 2 ^ 64 := by
  show x.toBitVec.toInt = _
  rw [BitVec.toInt_eq_toNat_cond]
  rfl
theorem zl_rk {x : Int64} {w : Nat} (hw : w ≤ 63) (h0 : ¬ 0 ≤ x) (h : -((2 ^ w : Nat) : Int) ≤ x.toInt) : x ^^^ lN (2 ^ w - 1) = -1 - (x &&& lN (2 ^ w - 1)) := by
  rw [zl_m1]
  refine Int64.toBitVec_inj.mp (zl_xorN x.toBitVec (BitVec.ofNat 64 (2 ^ w - 1)) ?_)
  have h64 : x.toUInt64.toNat < 2 ^ 64 := UInt64.toNat_lt _
  have e : x.toBitVec = BitVec.ofNat 64 x.toUInt64.toNat := congrArg Int64.toBitVec (zl_of x)
  rw [e]
  refine zl_ones (by omega) ?_ h64
  have h1 := zl_i6t x
  rw [Int64.le_iff_toInt_le, show (0 : Int64).toInt = 0 by decide] at h0
  by_cases c : 2 * x.toUInt64.toNat < 2 ^ 64
  · rw [if_pos c] at h1; omega
  · rw [if_neg c] at h1; omega
theorem zl_rank {k : Nat} {x : Int64} (hk : k ≤ 8) (h : zz_ok k x) : fn_co_rank (nI k) x = fn_cm_orderNumber (nI k) x := by
  unfold fn_co_rank fn_cm_orderNumber
  by_cases c : 0 ≤ x
  · rw [if_pos c]
    by_cases k6 : nI k = 6
    · rw [if_pos k6, if_pos c]
    · rw [if_neg k6]
      by_cases k7 : nI k = 7
      · rw [if_pos k7, if_pos c]
      · rw [if_neg k7]
  · rw [if_neg c]
    rcases (show k = 0 ∨ k = 1 ∨ k = 2 ∨ k = 3 ∨ k = 4 ∨ k = 5 ∨ k = 6 ∨ k = 7 ∨ k = 8 by omega) with rfl | rfl | rfl | rfl | rfl | rfl | rfl | rfl | rfl
    · rw [if_pos (show nI 0 < 6 by decide), if_neg (show ¬ nI 0 = 6 by decide), if_neg (show ¬ nI 0 = 7 by decide)]
    · rw [if_pos (show nI 1 < 6 by decide), if_neg (show ¬ nI 1 = 6 by decide), if_neg (show ¬ nI 1 = 7 by decide)]
    · rw [if_pos (show nI 2 < 6 by decide), if_neg (show ¬ nI 2 = 6 by decide), if_neg (show ¬ nI 2 = 7 by decide)]
    · rw [if_pos (show nI 3 < 6 by decide), if_neg (show ¬ nI 3 = 6 by decide), if_neg (show ¬ nI 3 = 7 by decide)]
    · rw [if_pos (show nI 4 < 6 by decide), if_neg (show ¬ nI 4 = 6 by decide), if_neg (show ¬ nI 4 = 7 by decide)]
    · rw [if_pos (show nI 5 < 6 by decide), if_neg (show ¬ nI 5 = 6 by decide), if_neg (show ¬ nI 5 = 7 by decide)]
    · rw [if_neg (show ¬ nI 6 < 6 by decide), if_pos (show nI 6 ≤ 7 by decide), if_pos (show nI 6 = 6 from rfl), if_pos (show nI 6 = 6 from rfl), if_neg c]
      have h2 : ¬ x < -2147483648 := h.1 rfl
      rw [Int64.lt_iff_toInt_lt, show (-2147483648 : Int64).toInt = -2147483648 by decide] at h2
      rw [show (2147483647 : Int64) = lN (2 ^ 31 - 1) by decide]
      exact zl_rk (w := 31) (by decide) c (by omega)
    · rw [if_neg (show ¬ nI 7 < 6 by decide), if_pos (show nI 7 ≤ 7 by decide), if_neg (show ¬ nI 7 = 6 by decide), if_neg (show ¬ nI 7 = 6 by decide), if_pos (show nI 7 = 7 from rfl), if_neg c]
      have h2 := x.le_toInt
      rw [show (9223372036854775807 : Int64) = lN (2 ^ 63 - 1) by decide]
      exact zl_rk (w := 63) (by decide) c (by omega)
    · rw [if_neg (show ¬ nI 8 < 6 by decide), if_neg (show ¬ nI 8 ≤ 7 by decide), if_neg (show ¬ nI 8 = 6 by decide), if_neg (show ¬ nI 8 = 7 by decide)]
/-- of no-numbers there is one alone -/
theorem zl_ok6 {x : Int64} (h : zz_ok 6 x) (hn : ¬ fn_cm_isNone (nI 6) x = 0) : x = 2143289344 := by
  have e : fn_cm_plain (nI 6) x = 2143289344 := if_neg hn
  exact h.2.symm.trans e
theorem zl_ok7 {x : Int64} (h : zz_ok 7 x) (hn : ¬ fn_cm_isNone (nI 7) x = 0) : x = 9221120237041090560 := by
  have e : fn_cm_plain (nI 7) x = 9221120237041090560 := if_neg hn
  exact h.2.symm.trans e
theorem zl_orz (x y M : Int64) : (x ||| y) &&& M = 0 ↔ x &&& M = 0 ∧ y &&& M = 0 := by
  have e : (x ||| y) &&& M = (x &&& M) ||| (y &&& M) := Int64.toBitVec_inj.mp (by
    show (x.toBitVec ||| y.toBitVec) &&& M.toBitVec = (x.toBitVec &&& M.toBitVec) ||| (y.toBitVec &&& M.toBitVec)
    refine BitVec.eq_of_getLsbD_eq (fun i hi => ?_)
    simp only [BitVec.getLsbD_or, BitVec.getLsbD_and]
    cases x.toBitVec.getLsbD i <;> cases y.toBitVec.getLsbD i <;> cases M.toBitVec.getLsbD i <;> rfl)
  rw [e]
  constructor
  · intro h
    have h1 : (x &&& M).toBitVec ||| (y &&& M).toBitVec = 0#64 := congrArg Int64.toBitVec h
    have h2 := BitVec.or_eq_zero_iff.mp h1
    exact ⟨Int64.toBitVec_inj.mp h2.1, Int64.toBitVec_inj.mp h2.2⟩
  · intro h; rw [h.1, h.2]; rfl
theorem zl_like {k : Nat} {x y : Int64} (hk : k ≤ 8) (h : zz_ok k x) : fn_co_alike (nI k) x y = fn_cm_isLike (nI k) x y := by
  unfold fn_co_alike fn_cm_isLike
  rcases (show k = 6 ∨ k = 7 ∨ (k ≠ 6 ∧ k ≠ 7) by omega) with rfl | rfl | ⟨n6, n7⟩
  · rw [if_pos (show nI 6 = 6 from rfl), if_pos (show nI 6 = 6 from rfl)]
    by_cases c : x = y
    · rw [if_pos c, if_pos c]
      by_cases n : fn_cm_isNone (nI 6) x = 0
      · have nx : ¬ x = 2143289344 := fun z => by rw [z] at n; exact absurd n (by decide)
        rw [if_neg nx, if_pos n, ite_self, ite_self]
      · have ex := zl_ok6 h n
        rw [if_pos ex, if_neg n, ex, if_neg (show ¬ ((2143289344 : Int64) &&& 2147483647 = 0) by decide)]
    · rw [if_neg c, if_neg c]
      by_cases c1 : x &&& 2147483647 = 0
      · rw [if_pos c1]
        by_cases c2 : y &&& 2147483647 = 0
        · rw [if_pos c2, if_pos ((zl_orz x y _).mpr ⟨c1, c2⟩)]
        · rw [if_neg c2, if_neg (fun z => c2 ((zl_orz x y _).mp z).2)]
      · rw [if_neg c1, if_neg (fun z => c1 ((zl_orz x y _).mp z).1)]
  · rw [if_neg (show ¬ nI 7 = 6 by decide), if_neg (show ¬ nI 7 = 6 by decide), if_pos (show nI 7 = 7 from rfl), if_pos (show nI 7 = 7 from rfl)]
    by_cases c : x = y
    · rw [if_pos c, if_pos c]
      by_cases n : fn_cm_isNone (nI 7) x = 0
      · have nx : ¬ x = 9221120237041090560 := fun z => by rw [z] at n; exact absurd n (by decide)
        rw [if_neg nx, if_pos n, ite_self, ite_self]
      · have ex := zl_ok7 h n
        rw [if_pos ex, if_neg n, ex, if_neg (show ¬ ((9221120237041090560 : Int64) &&& 9223372036854775807 = 0) by decide)]
    · rw [if_neg c, if_neg c]
      by_cases c1 : x &&& 9223372036854775807 = 0
      · rw [if_pos c1]
        by_cases c2 : y &&& 9223372036854775807 = 0
        · rw [if_pos c2, if_pos ((zl_orz x y _).mpr ⟨c1, c2⟩)]
        · rw [if_neg c2, if_neg (fun z => c2 ((zl_orz x y _).mp z).2)]
      · rw [if_neg c1, if_neg (fun z => c1 ((zl_orz x y _).mp z).1)]
  · have m6 : ¬ nI k = 6 := fun z => n6 (zl_inj (y := 6) z (by omega) (by omega))
    have m7 : ¬ nI k = 7 := fun z => n7 (zl_inj (y := 7) z (by omega) (by omega))
    have nn : fn_cm_isNone (nI k) x = 0 := by unfold fn_cm_isNone; rw [if_neg m6, if_neg m7]
    rw [if_neg m6, if_neg m6, if_neg m7, if_neg m7, if_pos nn]
theorem zl_isN7 {s e f : Nat} (hs : s ≤ 1) (he : e < 2047) (hf : f < 2 ^ 52) : fn_cm_isNone 7 (lN (s * 2 ^ 63 + e * 2 ^ 52 + f)) = 0 := by
  have e4 : lN (s * 2 ^ 63 + e * 2 ^ 52 + f) &&& 9223372036854775807 = lN ((s * 2 ^ 63 + e * 2 ^ 52 + f) % 2 ^ 63) := zl_and _ (w := 63) (by decide)
  unfold fn_cm_isNone
  rw [if_neg (show ¬ (7 : Int32) = 6 by decide), if_pos (show (7 : Int32) = 7 from rfl), e4, if_pos]
  rw [show (9218868437227405312 : Int64) = lN 9218868437227405312 by decide, pk_lLE (by omega) (by decide)]
  omega
theorem zl_tz0 {k : Int32} {x : Int64} {j w : Int32} (h : ¬ 0 ≤ k) : fn_co_towardsZero w k x j = 0 := by
  unfold fn_co_towardsZero
  rw [if_neg h]
/-- a double's whole, by its parts -/
theorem zl_whv {s e f : Nat} (hs : s ≤ 1) (he : e < 2047) (hf : f < 2 ^ 52) : fn_cm_whole (lN (s * 2 ^ 63 + e * 2 ^ 52 + f)) = fn_co_towardsZero (if s = 0 then 0 else 1) (nI e - 1023) (lN (2 ^ 52 + f)) 52 := by
  have h64 : s * 2 ^ 63 + e * 2 ^ 52 + f < 2 ^ 64 := by omega
  have e1 : ((lN (s * 2 ^ 63 + e * 2 ^ 52 + f)).toUInt64 >>> ((52 : Int32).toInt64.toUInt64 &&& Int64.toUInt64 63)).toInt64 = lN ((s * 2 ^ 63 + e * 2 ^ 52 + f) / 2 ^ 52) := zl_shr (w := 52) h64 (by decide)
  have e2 : lN ((s * 2 ^ 63 + e * 2 ^ 52 + f) / 2 ^ 52) &&& 2047 = lN ((s * 2 ^ 63 + e * 2 ^ 52 + f) / 2 ^ 52 % 2 ^ 11) := zl_and _ (w := 11) (by decide)
  have e3 : lN (s * 2 ^ 63 + e * 2 ^ 52 + f) &&& 4503599627370495 = lN ((s * 2 ^ 63 + e * 2 ^ 52 + f) % 2 ^ 52) := zl_and _ (w := 52) (by decide)
  have e5 : lN f ||| 4503599627370496 = lN (2 ^ 52 + f) := by
    have z := zl_orS (a := 1) (b := f) (w := 52) hf (by omega)
    rw [Nat.one_mul] at z
    exact (Int64.or_comm _ _).trans z
  have hn := zl_isN7 hs he hf
  have hs0 : (0 ≤ lN (s * 2 ^ 63 + e * 2 ^ 52 + f)) ↔ s = 0 := by
    have z := zl_i6t (lN (s * 2 ^ 63 + e * 2 ^ 52 + f))
    rw [zl_un h64] at z
    rw [Int64.le_iff_toInt_le, show (0 : Int64).toInt = 0 by decide, z]
    by_cases c : 2 * (s * 2 ^ 63 + e * 2 ^ 52 + f) < 2 ^ 64
    · rw [if_pos c]; omega
    · rw [if_neg c]; omega
  unfold fn_cm_whole
  rw [if_pos hn, e1, e2, e3, show (s * 2 ^ 63 + e * 2 ^ 52 + f) / 2 ^ 52 % 2 ^ 11 = e by omega, show (s * 2 ^ 63 + e * 2 ^ 52 + f) % 2 ^ 52 = f by omega, e5, lN_i]
  by_cases c : s = 0
  · rw [if_pos (hs0.mpr c), if_pos c]; rfl
  · rw [if_neg (fun z => c (hs0.mp z)), if_neg c]; rfl
theorem zl_exq : ∀ E, E < 256 → (nI (E + 896) - 1023 : Int32) = nI E - 127 := by decide +kernel
theorem zl_exn : ∀ E, E < 127 → ¬ (0 : Int32) ≤ nI E - 127 := by decide +kernel
theorem zl_exs : ∀ T, T < 23 → ((nI T - 149) + 1023 : Int32).toInt64 = lN (T + 874) := by decide +kernel
theorem zl_exm : ∀ T, T < 23 → ¬ (0 : Int32) ≤ nI (T + 874) - 1023 := by decide +kernel
/-- a float's number by its own parts, and by those of the double -/
theorem zl_tzq {E F : Nat} {w : Int32} (hE : E < 255) (hF : F < 2 ^ 23) : fn_co_towardsZero w (nI (E + 896) - 1023) (lN (2 ^ 52 + F * 2 ^ 29)) 52 = fn_co_towardsZero w (nI E - 127) (lN (2 ^ 23 + F)) 23 := by
  rw [zl_exq E (by omega)]
  rcases Nat.lt_or_ge E 127 with q | q
  · rw [zl_tz0 (zl_exn E q), zl_tz0 (zl_exn E q)]
  obtain ⟨p, rfl⟩ : ∃ p, E = p + 127 := ⟨E - 127, by omega⟩
  have ek : (nI (p + 127) - 127 : Int32) = nI p := by
    have z := pk_sub (a := p + 127) (b := 127) (by omega)
    rw [Nat.add_sub_cancel] at z
    exact z
  rw [ek]
  unfold fn_co_towardsZero
  by_cases c0 : 0 ≤ nI p
  rotate_left
  · rw [if_neg c0, if_neg c0]
  rw [if_pos c0, if_pos c0]
  by_cases c1 : nI p < 63
  rotate_left
  · rw [if_neg c1, if_neg c1]
  rw [if_pos c1, if_pos c1]
  have p63 : p < 63 := by
    rw [show (63 : Int32) = nI 63 by decide, nI_ltI (by omega) (by decide)] at c1; exact c1
  have l23 : nI p < 23 ↔ p < 23 := by rw [show (23 : Int32) = nI 23 by decide, nI_ltI (by omega) (by decide)]
  have l52 : nI p < 52 ↔ p < 52 := by rw [show (52 : Int32) = nI 52 by decide, nI_ltI (by omega) (by decide)]
  have em : 2 ^ 52 + F * 2 ^ 29 = (2 ^ 23 + F) * 2 ^ 29 := by omega
  rcases Nat.lt_or_ge p 23 with a | a
  · have s1 : (52 - nI p : Int32) = nI (52 - p) := pk_sub (a := 52) (by omega)
    have s2 : (23 - nI p : Int32) = nI (23 - p) := pk_sub (a := 23) (by omega)
    have ev : (2 ^ 23 + F) * 2 ^ 29 / 2 ^ (52 - p) = (2 ^ 23 + F) / 2 ^ (23 - p) := by
      rw [show 52 - p = (23 - p) + 29 by omega, Nat.pow_add, Nat.mul_div_mul_right _ _ (by decide)]
    rw [if_pos (l52.mpr (by omega)), if_pos (l23.mpr a), s1, s2, zl_shr (show 2 ^ 52 + F * 2 ^ 29 < 2 ^ 64 by omega) (by omega), zl_shr (show 2 ^ 23 + F < 2 ^ 64 by omega) (by omega), em, ev]
  rcases Nat.lt_or_ge p 52 with b | b
  · have s1 : (52 - nI p : Int32) = nI (52 - p) := pk_sub (a := 52) (by omega)
    have s2 : (nI p - 23 : Int32) = nI (p - 23) := pk_sub (b := 23) a
    have ev : (2 ^ 23 + F) * 2 ^ 29 / 2 ^ (52 - p) = (2 ^ 23 + F) * 2 ^ (p - 23) := by
      rw [show (29 : Nat) = (p - 23) + (52 - p) by omega, Nat.pow_add, ← Nat.mul_assoc, Nat.mul_div_cancel _ (Nat.pow_pos (by decide))]
    rw [if_pos (l52.mpr b), if_neg (fun z => absurd (l23.mp z) (by omega)), s1, s2, zl_shr (show 2 ^ 52 + F * 2 ^ 29 < 2 ^ 64 by omega) (by omega), zl_shl _ (show p - 23 < 64 by omega), em, ev]
  · have s1 : (nI p - 52 : Int32) = nI (p - 52) := pk_sub (b := 52) b
    have s2 : (nI p - 23 : Int32) = nI (p - 23) := pk_sub (b := 23) a
    have ev : (2 ^ 23 + F) * 2 ^ 29 * 2 ^ (p - 52) = (2 ^ 23 + F) * 2 ^ (p - 23) := by
      rw [Nat.mul_assoc, ← Nat.pow_add, show 29 + (p - 52) = p - 23 by omega]
    rw [if_neg (fun z => absurd (l52.mp z) (by omega)), if_neg (fun z => absurd (l23.mp z) (by omega)), s1, s2, zl_shl _ (show p - 52 < 64 by omega), zl_shl _ (show p - 23 < 64 by omega), em, ev]
theorem zl_num7 {x : Int64} (h : zz_ok 7 x) : fn_co_number (nI 7) x = fn_cm_whole x := by
  unfold fn_co_number
  rw [if_neg (show ¬ nI 7 = 6 by decide), if_pos (show nI 7 = 7 from rfl)]
  by_cases n : fn_cm_isNone (nI 7) x = 0
  · have nx : ¬ x = 9221120237041090560 := fun z => by rw [z] at n; exact absurd n (by decide)
    have n' : fn_cm_isNone 7 x = 0 := n
    rw [if_neg nx]
    unfold fn_cm_whole
    rw [if_pos n']
    by_cases c : 0 ≤ x
    · rw [if_pos c, if_pos c]; rfl
    · rw [if_neg c, if_neg c]; rfl
  · have ex := zl_ok7 h n
    rw [if_pos ex, ex]
    decide
theorem zl_sgn63 {b : Nat} (h : b < 2 ^ 63) : (-9223372036854775808 : Int64) ||| lN b = lN (1 * 2 ^ 63 + b) := zl_orS (a := 1) (b := b) (w := 63) h (by omega)
theorem zl_zor (x : Int64) : (0 : Int64) ||| x = x := Int64.zero_or
set_option maxHeartbeats 4000000 in
theorem zl_num6 {x : Int64} (h : zz_ok 6 x) : fn_co_number (nI 6) x = fn_cm_whole (fn_cm_floatToDouble x) := by
  by_cases n : fn_cm_isNone (nI 6) x = 0
  rotate_left
  · have ex := zl_ok6 h n
    rw [ex]
    decide
  have nx : ¬ x = 2143289344 := fun z => by rw [z] at n; exact absurd n (by decide)
  have h64 : x.toUInt64.toNat < 2 ^ 64 := UInt64.toNat_lt _
  have a1 := zl_shr (a := x.toUInt64.toNat) (w := 23) h64 (by decide)
  rw [← zl_of x] at a1
  have e1 : (((x.toUInt64 >>> ((23 : Int32).toInt64.toUInt64 &&& Int64.toUInt64 63)).toInt64) &&& 255) = lN (x.toUInt64.toNat / 2 ^ 23 % 2 ^ 8) := (congrArg (fun z : Int64 => z &&& 255) a1).trans (zl_and _ (w := 8) (by decide))
  have e2 : (x &&& 8388607) = lN (x.toUInt64.toNat % 2 ^ 23) := (congrArg (fun z : Int64 => z &&& 8388607) (zl_of x)).trans (zl_and _ (w := 23) (by decide))
  have e3 : (x &&& 2147483647) = lN (x.toUInt64.toNat % 2 ^ 31) := (congrArg (fun z : Int64 => z &&& 2147483647) (zl_of x)).trans (zl_and _ (w := 31) (by decide))
  have n2 : (x &&& 2147483647) ≤ 2139095040 := by
    rcases Decidable.em ((x &&& 2147483647) ≤ 2139095040) with q | q
    · exact q
    · exfalso
      unfold fn_cm_isNone at n
      rw [if_pos (show nI 6 = 6 from rfl), if_neg q] at n
      exact absurd n (by decide)
  rw [zl_fd]
  unfold fn_co_number fn_co_doubleOfFloat
  rw [if_pos (show nI 6 = 6 from rfl), if_neg nx, e1, e2, lN_i]
  rw [e3] at n2
  clear a1 e1 e2 e3 n nx h
  generalize x.toUInt64.toNat = X at h64 n2
  have hL : X % 2 ^ 31 = (X / 2 ^ 23 % 2 ^ 8) * 2 ^ 23 + X % 2 ^ 23 := by omega
  have hE : X / 2 ^ 23 % 2 ^ 8 < 256 := by omega
  have hF : X % 2 ^ 23 < 2 ^ 23 := by omega
  rw [hL] at n2
  clear hL
  generalize X / 2 ^ 23 % 2 ^ 8 = E at hE n2 ⊢
  generalize X % 2 ^ 23 = F at hF n2 ⊢
  rw [show (2139095040 : Int64) = lN 2139095040 by decide, pk_lLE (by omega) (by decide)] at n2
  have q2 : (nI E = 255) ↔ E = 255 := by
    rw [show (255 : Int32) = nI 255 by decide]; exact nI_eq (by omega) (by decide)
  have q4 : (nI E ≤ 0) ↔ E = 0 := by
    rw [show (0 : Int32) = nI 0 by decide, nI_leI (by omega) (by decide)]; omega
  have q5 : ((lN F : Int64) = 0) ↔ F = 0 := by
    rw [show (0 : Int64) = lN 0 by decide]; exact pk_lEQ (by omega) (by decide)
  have eM : lN F ||| 8388608 = lN (2 ^ 23 + F) := by
    have z := zl_orS (a := 1) (b := F) (w := 23) hF (by omega)
    rw [Nat.one_mul] at z
    exact (Int64.or_comm _ _).trans z
  rw [eM]
  -- s: the sign
  have main : ∀ (s : Nat) (S D1 D2 : Int64), s ≤ 1 → (∀ b, b < 2 ^ 63 → S ||| lN b = lN (s * 2 ^ 63 + b)) → fn_cm_whole D1 = fn_co_towardsZero (if s = 0 then 0 else 1) 128 (lN (2 ^ 23)) 23 → fn_cm_whole D2 = 0 → fn_co_towardsZero (if s = 0 then 0 else 1) (nI E - 127) (lN (2 ^ 23 + F)) 23 = fn_cm_whole (if nI E = 255 then (if (lN F : Int64) = 0 then D1 else 9221120237041090560) else (if nI E ≤ 0 then (if (lN F : Int64) = 0 then D2 else (S ||| (((((fn_topBit (lN F) 63) - 149) + 1023).toInt64 : Int64) <<< ((52 : Int32).toInt64 &&& 63))) ||| (((lN F : Int64) <<< ((52 - (fn_topBit (lN F) 63) : Int32).toInt64 &&& 63)) &&& 4503599627370495)) else (S ||| ((((nI E - 127) + 1023).toInt64 : Int64) <<< ((52 : Int32).toInt64 &&& 63))) ||| ((lN F : Int64) <<< ((29 : Int32).toInt64 &&& 63)))) := fun s S D1 D2 hs hS hD1 hD2 => by
    by_cases c5 : E = 255
    · have f0 : F = 0 := by omega
      rw [if_pos (q2.mpr c5), if_pos (q5.mpr f0), hD1, c5, f0]
      rfl
    rw [if_neg (fun z => c5 (q2.mp z))]
    by_cases c0 : E = 0
    · rw [if_pos (q4.mpr c0), zl_tz0 (by rw [c0]; decide)]
      by_cases f0 : F = 0
      · rw [if_pos (q5.mpr f0), hD2]
      · rw [if_neg (fun z => f0 (q5.mp z))]
        obtain ⟨N, T, m1, m2, m3, m4, m5, m6⟩ := zl_top (m := lN F) (fun z => f0 (q5.mp z))
        have eN : F = N := by
          have z := congrArg (fun y : Int64 => y.toUInt64.toNat) m1
          have z2 : (lN F).toUInt64.toNat = (lN N).toUInt64.toNat := z
          rw [zl_un (show F < 2 ^ 64 by omega), zl_un m2] at z2
          exact z2
        subst eN
        have hT : T < 23 := (Nat.pow_lt_pow_iff_right (a := 2) (by decide)).mp (by omega)
        have g1 : (lN (T + 874) : Int64) <<< ((52 : Int32).toInt64 &&& 63) = lN ((T + 874) * 2 ^ 52) := zl_shl _ (w := 52) (by decide)
        have g2 : (52 - nI T : Int32) = nI (52 - T) := pk_sub (a := 52) (by omega)
        have g3 : lN (F * 2 ^ (52 - T)) &&& 4503599627370495 = lN (F * 2 ^ (52 - T) % 2 ^ 52) := zl_and _ (w := 52) (by decide)
        have g4 := Nat.mod_lt (F * 2 ^ (52 - T)) (show 0 < 2 ^ 52 by decide)
        have g5 := zl_orS (a := s * 2 ^ 11 + (T + 874)) (b := F * 2 ^ (52 - T) % 2 ^ 52) (w := 52) g4 (by omega)
        rw [m4, zl_exs T hT, g1, hS _ (by omega), g2, zl_shl F (show 52 - T < 64 by omega), g3, show s * 2 ^ 63 + (T + 874) * 2 ^ 52 = (s * 2 ^ 11 + (T + 874)) * 2 ^ 52 by omega, g5, show (s * 2 ^ 11 + (T + 874)) * 2 ^ 52 + F * 2 ^ (52 - T) % 2 ^ 52 = s * 2 ^ 63 + (T + 874) * 2 ^ 52 + F * 2 ^ (52 - T) % 2 ^ 52 by omega, zl_whv hs (by omega) g4, zl_tz0 (zl_exm T hT)]
    · have g0 : (lN (E + 896) : Int64) = ((nI E - 127) + 1023 : Int32).toInt64 := (lN_add E 896).symm.trans (zl_fde E (by omega))
      have g1 : (lN (E + 896) : Int64) <<< ((52 : Int32).toInt64 &&& 63) = lN ((E + 896) * 2 ^ 52) := zl_shl _ (w := 52) (by decide)
      have g2 : (lN F : Int64) <<< ((29 : Int32).toInt64 &&& 63) = lN (F * 2 ^ 29) := zl_shl _ (w := 29) (by decide)
      have g5 := zl_orS (a := s * 2 ^ 11 + (E + 896)) (b := F * 2 ^ 29) (w := 52) (by omega) (by omega)
      rw [if_neg (fun z => c0 (q4.mp z)), ← g0, g1, hS _ (by omega), g2, show s * 2 ^ 63 + (E + 896) * 2 ^ 52 = (s * 2 ^ 11 + (E + 896)) * 2 ^ 52 by omega, g5, show (s * 2 ^ 11 + (E + 896)) * 2 ^ 52 + F * 2 ^ 29 = s * 2 ^ 63 + (E + 896) * 2 ^ 52 + F * 2 ^ 29 by omega, zl_whv hs (by omega) (by omega), zl_tzq (by omega) hF]
  by_cases cp : 0 ≤ x
  · rw [if_pos cp, if_pos cp]
    exact main 0 0 _ _ (by omega) (fun b hb => by rw [zl_zor, Nat.zero_mul, Nat.zero_add]) (by decide) (by decide)
  · rw [if_neg cp, if_neg cp]
    exact main 1 (-9223372036854775808) _ _ (by omega) (fun b hb => zl_sgn63 hb) (by decide) (by decide)
theorem zl_num {k : Nat} {x : Int64} (hk : k ≤ 8) (h : zz_ok k x) : fn_co_number (nI k) x = fn_cm_sumNumber (nI k) x := by
  rcases (show k = 6 ∨ k = 7 ∨ (k ≠ 6 ∧ k ≠ 7) by omega) with rfl | rfl | ⟨n6, n7⟩
  · rw [zl_num6 h]; rfl
  · rw [zl_num7 h]; rfl
  · have m6 : ¬ nI k = 6 := fun z => n6 (zl_inj (y := 6) z (by omega) (by omega))
    have m7 : ¬ nI k = 7 := fun z => n7 (zl_inj (y := 7) z (by omega) (by omega))
    unfold fn_co_number fn_cm_sumNumber
    rw [if_neg m6, if_neg m6, if_neg m7, if_neg m7]
