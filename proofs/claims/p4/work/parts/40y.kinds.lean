theorem zl_of (m : Int64) : m = lN m.toUInt64.toNat := Int64.toBitVec_inj.mp (BitVec.eq_of_toNat_eq (by
  show m.toBitVec.toNat = (BitVec.ofNat 64 m.toBitVec.toNat).toNat
  rw [BitVec.toNat_ofNat, Nat.mod_eq_of_lt m.toBitVec.isLt]))
theorem zl_un {a : Nat} (h : a < 2 ^ 64) : (lN a).toUInt64.toNat = a := by
  show (BitVec.ofNat 64 a).toNat = a
  rw [BitVec.toNat_ofNat, Nat.mod_eq_of_lt h]
theorem zl_sam : ∀ w, w < 64 → (((nI w : Int32).toInt64 &&& 63 : Int64).toBitVec).smod 64 = BitVec.ofNat 64 w := by decide +kernel
theorem zl_shl (a : Nat) {w : Nat} (hw : w < 64) : (lN a : Int64) <<< ((nI w : Int32).toInt64 &&& 63) = lN (a * 2 ^ w) := by
  refine Int64.toBitVec_inj.mp (BitVec.eq_of_toNat_eq ?_)
  rw [Int64.toBitVec_shiftLeft]
  show ((BitVec.ofNat 64 a) <<< ((((nI w : Int32).toInt64 &&& 63 : Int64).toBitVec).smod 64)).toNat = (BitVec.ofNat 64 (a * 2 ^ w)).toNat
  rw [zl_sam w hw]
  show ((BitVec.ofNat 64 a) <<< (BitVec.ofNat 64 w).toNat).toNat = _
  rw [BitVec.toNat_shiftLeft, BitVec.toNat_ofNat, BitVec.toNat_ofNat, BitVec.toNat_ofNat, Nat.shiftLeft_eq, Nat.mod_eq_of_lt (a := w) (by omega), Nat.mod_mul_mod]
theorem zl_shl1 {w : Nat} (hw : w < 64) : (1 : Int64) <<< ((nI w : Int32).toInt64 &&& 63) = lN (2 ^ w) := by
  have h := zl_shl 1 hw
  rw [Nat.one_mul] at h
  exact h
theorem zl_shr {a w : Nat} (ha : a < 2 ^ 64) (hw : w < 64) : ((lN a).toUInt64 >>> ((nI w : Int32).toInt64.toUInt64 &&& Int64.toUInt64 63)).toInt64 = lN (a / 2 ^ w) := by
  refine Int64.toBitVec_inj.mp (BitVec.eq_of_toNat_eq ?_)
  have e : ((lN a).toUInt64 >>> ((nI w : Int32).toInt64.toUInt64 &&& Int64.toUInt64 63)).toNat = a / 2 ^ w := by
    rw [UInt64.toNat_shiftRight, zl_shn w hw, Nat.mod_eq_of_lt hw, Nat.shiftRight_eq_div_pow, zl_un ha]
  show ((lN a).toUInt64 >>> ((nI w : Int32).toInt64.toUInt64 &&& Int64.toUInt64 63)).toNat = (BitVec.ofNat 64 (a / 2 ^ w)).toNat
  rw [e, BitVec.toNat_ofNat, Nat.mod_eq_of_lt (Nat.lt_of_le_of_lt (Nat.div_le_self _ _) ha)]
theorem zl_and (a : Nat) {w : Nat} (hw : w < 64) : lN a &&& lN (2 ^ w - 1) = lN (a % 2 ^ w) := by
  have hp : 2 ^ w ≤ 2 ^ 63 := Nat.pow_le_pow_right (by decide) (by omega)
  have h0 : 0 < 2 ^ w := Nat.pow_pos (by decide)
  have hm := Nat.mod_lt a h0
  refine Int64.toBitVec_inj.mp (BitVec.eq_of_toNat_eq ?_)
  show ((BitVec.ofNat 64 a) &&& (BitVec.ofNat 64 (2 ^ w - 1))).toNat = (BitVec.ofNat 64 (a % 2 ^ w)).toNat
  rw [BitVec.toNat_and, BitVec.toNat_ofNat, BitVec.toNat_ofNat, BitVec.toNat_ofNat, Nat.mod_eq_of_lt (a := 2 ^ w - 1) (by omega), Nat.and_two_pow_sub_one_eq_mod, Nat.mod_mod_of_dvd a (Nat.pow_dvd_pow 2 (show w ≤ 64 by omega)), Nat.mod_eq_of_lt (a := a % 2 ^ w) (by omega)]
theorem zl_mask (a : Nat) {w : Nat} (hw : w < 64) : lN a &&& (((1 : Int64) <<< ((nI w : Int32).toInt64 &&& 63)) - 1) = lN (a % 2 ^ w) := by
  have h0 : 0 < 2 ^ w := Nat.pow_pos (by decide)
  rw [zl_shl1 hw, show lN (2 ^ w) - 1 = lN (2 ^ w - 1) from lN_sub (a := 2 ^ w) (b := 1) (by omega)]
  exact zl_and a hw
theorem zl_orS {a b w : Nat} (h : b < 2 ^ w) (h2 : a * 2 ^ w + b < 2 ^ 64) : lN (a * 2 ^ w) ||| lN b = lN (a * 2 ^ w + b) := by
  refine Int64.toBitVec_inj.mp (BitVec.eq_of_toNat_eq ?_)
  show ((BitVec.ofNat 64 (a * 2 ^ w)) ||| (BitVec.ofNat 64 b)).toNat = (BitVec.ofNat 64 (a * 2 ^ w + b)).toNat
  rw [BitVec.toNat_or, BitVec.toNat_ofNat, BitVec.toNat_ofNat, BitVec.toNat_ofNat, Nat.mod_eq_of_lt h2, Nat.mod_eq_of_lt (a := a * 2 ^ w) (by omega), Nat.mod_eq_of_lt (a := b) (by omega), Nat.mul_comm a, Nat.two_pow_add_eq_or_of_lt h a]
theorem zl_tb {m : Int64} {N : Nat} (hN : m.toUInt64.toNat = N) (h0 : 0 < N) : ∀ n, n ≤ 63 → N < 2 ^ (n + 1) → ∃ t, t ≤ n ∧ fn_topBit m n = nI t ∧ 2 ^ t ≤ N ∧ N < 2 ^ (t + 1)
  | 0, _, h => ⟨0, Nat.le_refl _, rfl, h0, h⟩
  | n + 1, hn, h => by
    rw [fn_topBit]
    by_cases c : (m.toUInt64 >>> ((nI (n + 1) : Int32).toInt64.toUInt64 &&& Int64.toUInt64 63)).toInt64 &&& 1 = 1
    · rw [if_pos c]
      refine ⟨n + 1, Nat.le_refl _, rfl, ?_, h⟩
      have c0 : ¬ (m.toUInt64 >>> ((nI (n + 1) : Int32).toInt64.toUInt64 &&& Int64.toUInt64 63)).toInt64 &&& 1 = 0 := fun z => absurd (c.symm.trans z) (by decide)
      rcases Nat.lt_or_ge N (2 ^ (n + 1)) with q | q
      · exact absurd ((zl_bit m (show n + 1 < 64 by omega)).mpr (by rw [hN, Nat.div_eq_of_lt q])) c0
      · exact q
    · rw [if_neg c]
      have c0 : (m.toUInt64 >>> ((nI (n + 1) : Int32).toInt64.toUInt64 &&& Int64.toUInt64 63)).toInt64 &&& 1 = 0 := by
        rcases Decidable.em ((m.toUInt64 >>> ((nI (n + 1) : Int32).toInt64.toUInt64 &&& Int64.toUInt64 63)).toInt64 &&& 1 = 0) with q | q
        · exact q
        · exact absurd (zl_b1 q) c
      have q := zl_bitN (m := m) (n := n + 1) (by rw [hN]; exact h) (by omega) c0
      rw [hN] at q
      obtain ⟨t, h1, h2, h3, h4⟩ := zl_tb hN h0 n (by omega) q
      exact ⟨t, by omega, h2, h3, h4⟩
/-- class and reference put a number together: a part of w bits and one ahead, rounded up it may have one more -/
def zz_fc (E k j : Int32) (P : Int64) : Int64 := ((E + j).toInt64 <<< ((k : Int32).toInt64 &&& 63)) + (P - ((1 : Int64) <<< ((k : Int32).toInt64 &&& 63)))
def zz_fn (E k j : Int32) (P : Int64) : Int64 := ((E.toInt64 + j.toInt64 : Int64) <<< ((k : Int32).toInt64 &&& 63)) ||| (P &&& (((1 : Int64) <<< ((k : Int32).toInt64 &&& 63)) - 1))
def zz_fm (g : Int64 → Int64) (E k j : Int32) (P : Int64) : Int64 := if ((P.toUInt64 >>> ((k + 1 : Int32).toInt64.toUInt64 &&& Int64.toUInt64 63)).toInt64) = 1 then g ((((E.toInt64 + 1) + j.toInt64 : Int64) <<< ((k : Int32).toInt64 &&& 63)) ||| ((P.toUInt64 >>> ((1 : Int32).toInt64.toUInt64 &&& Int64.toUInt64 63)).toInt64 &&& (((1 : Int64) <<< ((k : Int32).toInt64 &&& 63)) - 1))) else g (zz_fn E k j P)
def zz_sg (k : Int32) (r : Int64) : Int64 := if k = 23 then ((r ||| 2147483648).toInt32).toInt64 else r ||| (-9223372036854775808)
def zz_rnd (F S : Int64 → Int64) (m : Int64) (E k : Int32) : Int64 := if k < E then (if ((1 : Int64) <<< (((E - k) - 1 : Int32).toInt64 &&& 63)) < (m &&& (((1 : Int64) <<< ((E - k : Int32).toInt64 &&& 63)) - 1)) then F (((m.toUInt64 >>> ((E - k : Int32).toInt64.toUInt64 &&& Int64.toUInt64 63)).toInt64) + 1) else (if (m &&& (((1 : Int64) <<< ((E - k : Int32).toInt64 &&& 63)) - 1)) = ((1 : Int64) <<< (((E - k) - 1 : Int32).toInt64 &&& 63)) then (if (((m.toUInt64 >>> ((E - k : Int32).toInt64.toUInt64 &&& Int64.toUInt64 63)).toInt64) &&& 1) = 1 then F (((m.toUInt64 >>> ((E - k : Int32).toInt64.toUInt64 &&& Int64.toUInt64 63)).toInt64) + 1) else F ((m.toUInt64 >>> ((E - k : Int32).toInt64.toUInt64 &&& Int64.toUInt64 63)).toInt64)) else F ((m.toUInt64 >>> ((E - k : Int32).toInt64.toUInt64 &&& Int64.toUInt64 63)).toInt64))) else S ((m : Int64) <<< ((k - E : Int32).toInt64 &&& 63))
theorem zl_nearE (x : Int64) (k j : Int32) : fn_co_nearest x k j = if x = 0 then 0 else (if 0 ≤ x then zz_rnd (zz_fc (fn_topBit x 63) k j) (zz_fc (fn_topBit x 63) k j) x (fn_topBit x 63) k else zz_rnd (zz_fc (fn_topBit (-x) 63) k j) (zz_fc (fn_topBit (-x) 63) k j) (-x) (fn_topBit (-x) 63) k) := rfl
theorem zl_realE (x : Int64) (k j : Int32) : fn_cm_real x k j = if x = 0 then 0 else (if 0 ≤ x then zz_rnd (zz_fm (fun r => r) (nI (fn_topBit x 63).toNatClampNeg) k j) (fun P => zz_fn (nI (fn_topBit x 63).toNatClampNeg) k j P) x (nI (fn_topBit x 63).toNatClampNeg) k else zz_rnd (zz_fm (zz_sg k) (nI (fn_topBit (-x) 63).toNatClampNeg) k j) (fun P => zz_sg k (zz_fn (nI (fn_topBit (-x) 63).toNatClampNeg) k j P)) (-x) (nI (fn_topBit (-x) 63).toNatClampNeg) k) := rfl
theorem zl_Fc {t w b P : Nat} (ht : t ≤ 64) (hb : b ≤ 1023) (hw : w < 64) (h1 : 2 ^ w ≤ P) : zz_fc (nI t) (nI w) (nI b) (lN P) = lN ((t + b) * 2 ^ w + (P - 2 ^ w)) := by
  unfold zz_fc
  rw [nI_add, nI_l (show t + b < 2 ^ 31 by omega), zl_shl _ hw, zl_shl1 hw, lN_sub h1, lN_add]
theorem zl_Fn {t w b P : Nat} (ht : t ≤ 64) (hb : b ≤ 1023) (hw : w < 64) (h2 : (t + b) * 2 ^ w + 2 ^ w ≤ 2 ^ 64) : zz_fn (nI t) (nI w) (nI b) (lN P) = lN ((t + b) * 2 ^ w + P % 2 ^ w) := by
  have hm := Nat.mod_lt P (show 0 < 2 ^ w from Nat.pow_pos (by decide))
  unfold zz_fn
  rw [nI_l (show t < 2 ^ 31 by omega), nI_l (show b < 2 ^ 31 by omega), lN_add, zl_shl _ hw, zl_mask P hw, zl_orS hm (by omega)]
theorem zl_FcN {t w b P : Nat} (ht : t ≤ 64) (hb : b ≤ 1023) (hw : w < 64) (h2 : (t + b) * 2 ^ w + 2 ^ w ≤ 2 ^ 64) (h1 : 2 ^ w ≤ P) (h3 : P < 2 ^ (w + 1)) : zz_fn (nI t) (nI w) (nI b) (lN P) = zz_fc (nI t) (nI w) (nI b) (lN P) := by
  rw [zl_Fc ht hb hw h1, zl_Fn ht hb hw h2, Nat.mod_eq_sub_mod h1, Nat.mod_eq_of_lt (by rw [Nat.pow_succ] at h3; omega)]
theorem zl_FcM {t w b P : Nat} (g : Int64 → Int64) (ht : t ≤ 63) (hb : b ≤ 1023) (hw : w < 62) (h2 : (t + 1 + b) * 2 ^ w + 2 ^ w ≤ 2 ^ 64) (h1 : 2 ^ w ≤ P) (h3 : P ≤ 2 ^ (w + 1)) : zz_fm g (nI t) (nI w) (nI b) (lN P) = g (zz_fc (nI t) (nI w) (nI b) (lN P)) := by
  have hp : 2 ^ (w + 1) ≤ 2 ^ 62 := Nat.pow_le_pow_right (by decide) (by omega)
  have h0 : 0 < 2 ^ w := Nat.pow_pos (by decide)
  have es : 2 ^ (w + 1) = 2 ^ w * 2 := Nat.pow_succ ..
  have em : (t + 1 + b) * 2 ^ w = (t + b) * 2 ^ w + 2 ^ w := by
    rw [show t + 1 + b = (t + b) + 1 by omega, Nat.add_mul, Nat.one_mul]
  unfold zz_fm
  rw [nI_1, zl_shr (show P < 2 ^ 64 by omega) (show w + 1 < 64 by omega)]
  rcases Nat.lt_or_ge P (2 ^ (w + 1)) with q | q
  · rw [if_neg (by
      rw [Nat.div_eq_of_lt q]
      decide), zl_FcN (by omega) hb (by omega) (by omega) h1 q]
  · have eP : P = 2 ^ (w + 1) := by omega
    rw [if_pos (by
      rw [eP, Nat.div_self (Nat.pow_pos (by decide))]
      rfl)]
    congr 1
    rw [zl_Fc (by omega) hb (by omega) h1]
    have e1 : ((lN P).toUInt64 >>> ((1 : Int32).toInt64.toUInt64 &&& Int64.toUInt64 63)).toInt64 = lN (2 ^ w) := by
      have e2 := zl_shr (a := P) (w := 1) (by omega) (by decide)
      rw [eP, es, Nat.pow_one, Nat.mul_div_cancel _ (by decide)] at e2
      rw [eP, es]; exact e2
    rw [e1, zl_mask _ (by omega), Nat.mod_self, nI_l (show t < 2 ^ 31 by omega), nI_l (show b < 2 ^ 31 by omega), lN_1, lN_add, zl_shl _ (by omega), zl_orS h0 (by omega), em]
    congr 1
    omega
/-- both sides round alike -/
theorem zl_rnd {N t w b : Nat} (g : Int64 → Int64) (h64 : N < 2 ^ 64) (ht : t ≤ 63) (h1 : 2 ^ t ≤ N) (h2 : N < 2 ^ (t + 1)) (hw : w < 62) (hb : b ≤ 1023) (h3 : (t + 1 + b) * 2 ^ w + 2 ^ w ≤ 2 ^ 64) : ∃ P : Nat, 2 ^ w ≤ P ∧ P ≤ 2 ^ (w + 1) ∧ zz_rnd (zz_fc (nI t) (nI w) (nI b)) (zz_fc (nI t) (nI w) (nI b)) (lN N) (nI t) (nI w) = zz_fc (nI t) (nI w) (nI b) (lN P) ∧ zz_rnd (zz_fm g (nI t) (nI w) (nI b)) (fun P => g (zz_fn (nI t) (nI w) (nI b) P)) (lN N) (nI t) (nI w) = g (zz_fc (nI t) (nI w) (nI b) (lN P)) := by
  have h0 : 0 < 2 ^ w := Nat.pow_pos (by decide)
  have em : (t + 1 + b) * 2 ^ w = (t + b) * 2 ^ w + 2 ^ w := by
    rw [show t + 1 + b = (t + b) + 1 by omega, Nat.add_mul, Nat.one_mul]
  unfold zz_rnd
  by_cases c : nI w < nI t
  · have c' : w < t := (nI_ltI (by omega) (by omega)).mp c
    have p0 : 0 < 2 ^ (t - w) := Nat.pow_pos (by decide)
    have b1 : 2 ^ w ≤ N / 2 ^ (t - w) := by
      rw [Nat.le_div_iff_mul_le p0, ← Nat.pow_add, show w + (t - w) = t by omega]; exact h1
    have b2 : N / 2 ^ (t - w) < 2 ^ (w + 1) := by
      rw [Nat.div_lt_iff_lt_mul p0, ← Nat.pow_add, show w + 1 + (t - w) = t + 1 by omega]; exact h2
    rw [if_pos c, if_pos c, pk_sub (show w ≤ t by omega), zl_shr h64 (show t - w < 64 by omega), lN_1]
    generalize hA : ((1 : Int64) <<< (((nI (t - w)) - 1 : Int32).toInt64 &&& 63)) = HA
    generalize hB : (lN N &&& (((1 : Int64) <<< ((nI (t - w) : Int32).toInt64 &&& 63)) - 1)) = RE
    by_cases a1 : HA < RE
    · rw [if_pos a1, if_pos a1]
      exact ⟨N / 2 ^ (t - w) + 1, by omega, by omega, rfl, zl_FcM g ht hb hw h3 (by omega) (by omega)⟩
    rw [if_neg a1, if_neg a1]
    by_cases a2 : RE = HA
    · rw [if_pos a2, if_pos a2]
      by_cases a3 : (lN (N / 2 ^ (t - w)) &&& 1) = 1
      · rw [if_pos a3, if_pos a3]
        exact ⟨N / 2 ^ (t - w) + 1, by omega, by omega, rfl, zl_FcM g ht hb hw h3 (by omega) (by omega)⟩
      · rw [if_neg a3, if_neg a3]
        exact ⟨N / 2 ^ (t - w), by omega, by omega, rfl, zl_FcM g ht hb hw h3 (by omega) (by omega)⟩
    · rw [if_neg a2, if_neg a2]
      exact ⟨N / 2 ^ (t - w), by omega, by omega, rfl, zl_FcM g ht hb hw h3 (by omega) (by omega)⟩
  · have c' : t ≤ w := by
      rcases Nat.lt_or_ge w t with q | q
      · exact absurd ((nI_ltI (by omega) (by omega)).mpr q) c
      · exact q
    have b1 : 2 ^ w ≤ N * 2 ^ (w - t) := by
      have := Nat.mul_le_mul_right (2 ^ (w - t)) h1
      rw [← Nat.pow_add, show t + (w - t) = w by omega] at this; exact this
    have b2 : N * 2 ^ (w - t) < 2 ^ (w + 1) := by
      have := Nat.mul_lt_mul_of_pos_right h2 (show 0 < 2 ^ (w - t) from Nat.pow_pos (by decide))
      rw [← Nat.pow_add, show t + 1 + (w - t) = w + 1 by omega] at this; exact this
    rw [if_neg c, if_neg c, pk_sub c', zl_shl N (show w - t < 64 by omega)]
    exact ⟨N * 2 ^ (w - t), b1, by omega, rfl, by rw [zl_FcN (by omega) hb (by omega) (by omega) b1 b2]⟩
theorem zl_neg31 {R : Nat} (h : R < 2 ^ 31) : ((lN R ||| 2147483648).toInt32).toInt64 = lN R ||| (-2147483648) := by
  have e1 : lN R ||| 2147483648 = lN (1 * 2 ^ 31 + R) := by
    have := zl_orS (a := 1) (b := R) (w := 31) h (by omega)
    rw [← this]
    exact Int64.or_comm _ _
  have e2 : lN R ||| (-2147483648) = lN (8589934591 * 2 ^ 31 + R) := by
    have := zl_orS (a := 8589934591) (b := R) (w := 31) h (by omega)
    rw [← this, show (-2147483648 : Int64) = lN (8589934591 * 2 ^ 31) by decide]
    exact Int64.or_comm _ _
  rw [e1, e2, lN_i]
  refine Int64.toInt_inj.mp ?_
  rw [zl_i2l]
  have a1 : (nI (1 * 2 ^ 31 + R)).toInt = (R : Int) - 2 ^ 31 := by
    show (BitVec.ofNat 32 (1 * 2 ^ 31 + R)).toInt = _
    rw [BitVec.toInt_eq_toNat_cond, BitVec.toNat_ofNat, Nat.mod_eq_of_lt (by omega), if_neg (by omega)]
    omega
  have a2 : (lN (8589934591 * 2 ^ 31 + R)).toInt = (R : Int) - 2 ^ 31 := by
    show (BitVec.ofNat 64 (8589934591 * 2 ^ 31 + R)).toInt = _
    rw [BitVec.toInt_eq_toNat_cond, BitVec.toNat_ofNat, Nat.mod_eq_of_lt (by omega), if_neg (by omega)]
    omega
  rw [a1, a2]
/-- the number nearest to a whole, for both kinds -/
theorem zl_top {m : Int64} (h : ¬ m = 0) : ∃ N t : Nat, m = lN N ∧ N < 2 ^ 64 ∧ t ≤ 63 ∧ fn_topBit m 63 = nI t ∧ 2 ^ t ≤ N ∧ N < 2 ^ (t + 1) := by
  have h64 : m.toUInt64.toNat < 2 ^ 64 := UInt64.toNat_lt _
  have h0 : 0 < m.toUInt64.toNat := by
    rcases Nat.eq_zero_or_pos m.toUInt64.toNat with q | q
    · exact absurd (by rw [zl_of m, q]; rfl) h
    · exact q
  obtain ⟨t, h1, h2, h3, h4⟩ := zl_tb rfl h0 63 (Nat.le_refl _) h64
  exact ⟨_, t, zl_of m, h64, h1, h2, h3, h4⟩
theorem zl_real {w b : Nat} (x : Int64) (hw : (w = 23 ∧ b = 127) ∨ (w = 52 ∧ b = 1023)) : fn_cm_real x (nI w) (nI b) = if 0 ≤ x then fn_co_nearest x (nI w) (nI b) else (if w = 23 then fn_co_nearest x (nI w) (nI b) ||| (-2147483648) else fn_co_nearest x (nI w) (nI b) ||| (-9223372036854775808)) := by
  rw [zl_realE, zl_nearE]
  by_cases c0 : x = 0
  · rw [if_pos c0, if_pos c0, c0]
    rfl
  rw [if_neg c0, if_neg c0]
  have hw2 : w < 62 ∧ b ≤ 1023 := by omega
  by_cases cp : 0 ≤ x
  · rw [if_pos cp, if_pos cp, if_pos cp]
    obtain ⟨N, t, e, h64, ht, et, h1, h2⟩ := zl_top c0
    have h3 : (t + 1 + b) * 2 ^ w + 2 ^ w ≤ 2 ^ 64 := by
      rcases hw with ⟨rfl, rfl⟩ | ⟨rfl, rfl⟩ <;> omega
    rw [et, nI_clamp (show t < 2 ^ 31 by omega), e]
    obtain ⟨P, p1, p2, p3, p4⟩ := zl_rnd (fun r => r) h64 ht h1 h2 hw2.1 hw2.2 h3
    rw [p3]
    exact p4
  · rw [if_neg cp, if_neg cp, if_neg cp]
    obtain ⟨N, t, e, h64, ht, et, h1, h2⟩ := zl_top (zl_neg0 c0)
    have h3 : (t + 1 + b) * 2 ^ w + 2 ^ w ≤ 2 ^ 64 := by
      rcases hw with ⟨rfl, rfl⟩ | ⟨rfl, rfl⟩ <;> omega
    rw [et, nI_clamp (show t < 2 ^ 31 by omega), e]
    obtain ⟨P, p1, p2, p3, p4⟩ := zl_rnd (zz_sg (nI w)) h64 ht h1 h2 hw2.1 hw2.2 h3
    rw [p3, p4, zl_Fc (by omega) hw2.2 (by omega) p1]
    rcases hw with ⟨rfl, rfl⟩ | ⟨rfl, rfl⟩
    · rw [if_pos rfl]
      show (if (nI 23 : Int32) = 23 then ((lN ((t + 127) * 2 ^ 23 + (P - 2 ^ 23)) ||| 2147483648).toInt32).toInt64 else _) = _
      rw [if_pos (show (nI 23 : Int32) = 23 from rfl)]
      exact zl_neg31 (by omega)
    · rw [if_neg (by decide)]
      show (if (nI 52 : Int32) = 23 then _ else lN ((t + 1023) * 2 ^ 52 + (P - 2 ^ 52)) ||| (-9223372036854775808)) = _
      rw [if_neg (show ¬ (nI 52 : Int32) = 23 by decide)]
theorem zl_fdw : ∀ T, T < 23 → (zz_wd (23 - T) + 896 : Int64) = ((nI T - 149) + 1023 : Int32).toInt64 := by decide +kernel
theorem zl_fde : ∀ E, E < 256 → ((lN E : Int64) + 896) = ((nI E - 127) + 1023 : Int32).toInt64 := by decide +kernel
theorem zl_fdf {F T : Nat} (hT : T ≤ 22) : ((lN (F * 2 ^ (23 - T)) &&& 8388607 : Int64) <<< ((29 : Int32).toInt64 &&& 63)) = (((lN F : Int64) <<< ((52 - nI T : Int32).toInt64 &&& 63)) &&& 4503599627370495) := by
  have e1 : lN (F * 2 ^ (23 - T)) &&& 8388607 = lN (F * 2 ^ (23 - T) % 2 ^ 23) := zl_and _ (w := 23) (by decide)
  have e2 : (52 - nI T : Int32) = nI (52 - T) := pk_sub (a := 52) (by omega)
  have e3 : lN (F * 2 ^ (52 - T)) &&& 4503599627370495 = lN (F * 2 ^ (52 - T) % 2 ^ 52) := zl_and _ (w := 52) (by decide)
  have e4 : (lN (F * 2 ^ (23 - T) % 2 ^ 23) : Int64) <<< ((29 : Int32).toInt64 &&& 63) = lN (F * 2 ^ (23 - T) % 2 ^ 23 * 2 ^ 29) := zl_shl _ (w := 29) (by decide)
  rw [e1, e2, zl_shl F (show 52 - T < 64 by omega), e3, e4, ← Nat.mul_mod_mul_right, ← Nat.pow_add, Nat.mul_assoc, ← Nat.pow_add, show 23 - T + 29 = 52 - T by omega]
/-- a float as a double -/
theorem zl_fd (x : Int64) : fn_cm_floatToDouble x = fn_co_doubleOfFloat x := by
  have h64 : x.toUInt64.toNat < 2 ^ 64 := UInt64.toNat_lt _
  have a1 := zl_shr (a := x.toUInt64.toNat) (w := 23) h64 (by decide)
  rw [← zl_of x] at a1
  have e1 : (((x.toUInt64 >>> ((23 : Int32).toInt64.toUInt64 &&& Int64.toUInt64 63)).toInt64) &&& 255) = lN (x.toUInt64.toNat / 2 ^ 23 % 2 ^ 8) := (congrArg (fun z : Int64 => z &&& 255) a1).trans (zl_and _ (w := 8) (by decide))
  have e2 : (x &&& 8388607) = lN (x.toUInt64.toNat % 2 ^ 23) := (congrArg (fun z : Int64 => z &&& 8388607) (zl_of x)).trans (zl_and _ (w := 23) (by decide))
  have e3 : (x &&& 2147483647) = lN (x.toUInt64.toNat % 2 ^ 31) := (congrArg (fun z : Int64 => z &&& 2147483647) (zl_of x)).trans (zl_and _ (w := 31) (by decide))
  unfold fn_cm_floatToDouble fn_co_doubleOfFloat fn_cm_isNone
  rw [if_pos (show (6 : Int32) = 6 from rfl), e1, e2, e3, lN_i]
  clear a1 e1 e2 e3
  generalize x.toUInt64.toNat = X at h64
  have hL : X % 2 ^ 31 = (X / 2 ^ 23 % 2 ^ 8) * 2 ^ 23 + X % 2 ^ 23 := by omega
  have hE : X / 2 ^ 23 % 2 ^ 8 < 256 := by omega
  have hF : X % 2 ^ 23 < 2 ^ 23 := by omega
  rw [hL]
  clear hL
  generalize X / 2 ^ 23 % 2 ^ 8 = E at hE ⊢
  generalize X % 2 ^ 23 = F at hF ⊢
  have hn : lN (E * 2 ^ 23 + F) ≤ 2139095040 ↔ E * 2 ^ 23 + F ≤ 2139095040 := by
    rw [show (2139095040 : Int64) = lN 2139095040 by decide]; exact pk_lLE (by omega) (by decide)
  have q1 : ((lN E : Int64) = 255) ↔ E = 255 := by
    rw [show (255 : Int64) = lN 255 by decide]; exact pk_lEQ (by omega) (by decide)
  have q2 : (nI E = 255) ↔ E = 255 := by
    rw [show (255 : Int32) = nI 255 by decide]; exact nI_eq (by omega) (by decide)
  have q3 : ((lN E : Int64) = 0) ↔ E = 0 := by
    rw [show (0 : Int64) = lN 0 by decide]; exact pk_lEQ (by omega) (by decide)
  have q4 : (nI E ≤ 0) ↔ E = 0 := by
    rw [show (0 : Int32) = nI 0 by decide, nI_leI (by omega) (by decide)]; omega
  have q5 : ((lN F : Int64) = 0) ↔ F = 0 := by
    rw [show (0 : Int64) = lN 0 by decide]; exact pk_lEQ (by omega) (by decide)
  by_cases cn : E * 2 ^ 23 + F ≤ 2139095040
  rotate_left
  · have c5 : E = 255 := by omega
    have f0 : ¬ F = 0 := by omega
    rw [if_neg (fun z => cn (hn.mp z)), if_neg (show ¬ ((1 : Int32) = 0) by decide)]
    by_cases cp : 0 ≤ x
    · rw [if_pos cp, if_pos (q2.mpr c5), if_neg (fun z => f0 (q5.mp z))]
    · rw [if_neg cp, if_pos (q2.mpr c5), if_neg (fun z => f0 (q5.mp z))]
  by_cases cp : 0 ≤ x
  · rw [if_pos (hn.mpr cn), if_pos (show (0 : Int32) = 0 from rfl), if_pos cp, if_pos cp]
    by_cases c5 : E = 255
    · have f0 : F = 0 := by omega
      rw [if_pos (q1.mpr c5), if_pos (q2.mpr c5), if_pos (q5.mpr f0)]
    rw [if_neg (fun z => c5 (q1.mp z)), if_neg (fun z => c5 (q2.mp z))]
    by_cases c0 : E = 0
    · rw [if_pos (q3.mpr c0), if_pos (q4.mpr c0)]
      by_cases f0 : F = 0
      · rw [if_pos (q5.mpr f0), if_pos (q5.mpr f0)]
      · rw [if_neg (fun z => f0 (q5.mp z)), if_neg (fun z => f0 (q5.mp z))]
        obtain ⟨N, T, n1, n2, n3, n4, n5, n6⟩ := zl_top (m := lN F) (fun z => f0 (q5.mp z))
        have eN : F = N := (pk_lEQ (by omega) (by omega)).mp n1
        subst eN
        have hT : T < 23 := (Nat.pow_lt_pow_iff_right (a := 2) (by decide)).mp (by omega)
        have eL : Nat.log2 F = T := (Nat.log2_eq_iff f0).mpr ⟨n5, n6⟩
        rw [n4, zl_un (show F < 2 ^ 64 by omega), eL, zl_fdw T hT]
        congr 1
        exact zl_fdf (by omega)
    · rw [if_neg (fun z => c0 (q3.mp z)), if_neg (fun z => c0 (q4.mp z)), zl_fde E (by omega)]
  · rw [if_pos (hn.mpr cn), if_pos (show (0 : Int32) = 0 from rfl), if_neg cp, if_neg cp]
    by_cases c5 : E = 255
    · have f0 : F = 0 := by omega
      rw [if_pos (q1.mpr c5), if_pos (q2.mpr c5), if_pos (q5.mpr f0)]
    rw [if_neg (fun z => c5 (q1.mp z)), if_neg (fun z => c5 (q2.mp z))]
    by_cases c0 : E = 0
    · rw [if_pos (q3.mpr c0), if_pos (q4.mpr c0)]
      by_cases f0 : F = 0
      · rw [if_pos (q5.mpr f0), if_pos (q5.mpr f0)]
      · rw [if_neg (fun z => f0 (q5.mp z)), if_neg (fun z => f0 (q5.mp z))]
        obtain ⟨N, T, n1, n2, n3, n4, n5, n6⟩ := zl_top (m := lN F) (fun z => f0 (q5.mp z))
        have eN : F = N := (pk_lEQ (by omega) (by omega)).mp n1
        subst eN
        have hT : T < 23 := (Nat.pow_lt_pow_iff_right (a := 2) (by decide)).mp (by omega)
        have eL : Nat.log2 F = T := (Nat.log2_eq_iff f0).mpr ⟨n5, n6⟩
        rw [n4, zl_un (show F < 2 ^ 64 by omega), eL, zl_fdw T hT]
        congr 1
        exact zl_fdf (by omega)
    · rw [if_neg (fun z => c0 (q3.mp z)), if_neg (fun z => c0 (q4.mp z)), zl_fde E (by omega)]
/-- widening: class and reference -/
theorem zl_wid {i j : Nat} (x : Int64) (hi : i ≤ 8) (hj : j ≤ 8) (hr : ¬ fn_co_reaches (nI i) (nI j) = 0) : fn_co_widened (nI i) (nI j) (fn_co_cleaned (nI i) x) = fn_cm_widened (nI i) (nI j) x := by
  unfold fn_co_widened fn_cm_widened
  by_cases c1 : nI i = nI j
  · rw [if_pos c1, if_pos c1]; rfl
  rw [if_neg c1, if_neg c1]
  by_cases c2 : 5 < nI j
  rotate_left
  · rw [if_neg c2, if_neg c2]; rfl
  rw [if_pos c2, if_pos c2]
  by_cases c3 : nI i = 6
  · rw [if_pos c3, if_pos c3, zl_fd]
    have ei : i = 6 := zl_inj (y := 6) c3 (by omega) (by omega)
    subst ei
    by_cases cn : fn_cm_isNone (nI 6) x = 0
    · rw [show fn_co_cleaned (nI 6) x = x from if_pos cn]
    · rw [show fn_co_cleaned (nI 6) x = 2143289344 from if_neg cn]
      have e : fn_cm_floatToDouble x = 9221120237041090560 := if_neg cn
      rw [← zl_fd x, e]
      decide
  rw [if_neg c3, if_neg c3]
  have hi5 : i ≤ 5 := by
    rcases (show i ≤ 5 ∨ i = 6 ∨ i = 7 ∨ i = 8 by omega) with q | rfl | rfl | rfl
    · exact q
    · exact absurd rfl c3
    · have : ∀ j, j < 9 → ¬ fn_co_reaches (nI 7) (nI j) = 0 → nI 7 = nI j := by decide +kernel
      exact absurd (this j (by omega) hr) c1
    · have : ∀ j, j < 9 → ¬ fn_co_reaches (nI 8) (nI j) = 0 → nI 8 = nI j := by decide +kernel
      exact absurd (this j (by omega) hr) c1
  have ec : fn_co_cleaned (nI i) x = x := by
    rcases (show i = 0 ∨ i = 1 ∨ i = 2 ∨ i = 3 ∨ i = 4 ∨ i = 5 by omega) with rfl | rfl | rfl | rfl | rfl | rfl <;> rfl
  rw [ec]
  by_cases c4 : nI j = 6
  · rw [if_pos c4, if_pos c4]
    have e := zl_real (w := 23) (b := 127) x (Or.inl ⟨rfl, rfl⟩)
    by_cases cp : 0 ≤ x
    · rw [if_pos cp]; rw [if_pos cp] at e; exact e.symm
    · rw [if_neg cp]; rw [if_neg cp, if_pos rfl] at e; exact e.symm
  · rw [if_neg c4, if_neg c4]
    have e := zl_real (w := 52) (b := 1023) x (Or.inr ⟨rfl, rfl⟩)
    by_cases cp : 0 ≤ x
    · rw [if_pos cp]; rw [if_pos cp] at e; exact e.symm
    · rw [if_neg cp]; rw [if_neg cp, if_neg (by decide)] at e; exact e.symm
