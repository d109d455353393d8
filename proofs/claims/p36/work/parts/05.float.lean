theorem zl_shn : ∀ n, n < 64 → ((nI n : Int32).toInt64.toUInt64 &&& Int64.toUInt64 63).toNat = n := by decide +kernel
theorem zl_and1 (u : UInt64) : (u.toInt64 &&& 1 = 0) ↔ u.toNat % 2 = 0 := by
  have e : (u.toInt64 &&& 1).toBitVec.toNat = u.toNat % 2 := by
    have h1 : (u.toInt64 &&& 1).toBitVec = u.toBitVec &&& 1#64 := rfl
    rw [h1, BitVec.toNat_and]
    exact Nat.and_one_is_mod _
  constructor
  · intro h; rw [h] at e; rw [← e]; rfl
  · intro h
    rw [h] at e
    exact Int64.toBitVec_inj.mp (BitVec.eq_of_toNat_eq e)
theorem zl_bit (m : Int64) {n : Nat} (hn : n < 64) : ((m.toUInt64 >>> ((nI n : Int32).toInt64.toUInt64 &&& Int64.toUInt64 63)).toInt64 &&& 1 = 0) ↔ (m.toUInt64.toNat / 2 ^ n) % 2 = 0 := by
  rw [zl_and1, UInt64.toNat_shiftRight, zl_shn n hn, Nat.mod_eq_of_lt hn, Nat.shiftRight_eq_div_pow]
theorem zl_bitN {m : Int64} {n : Nat} (hlt : m.toUInt64.toNat < 2 ^ (n + 1)) (hn : n < 64) (h : (m.toUInt64 >>> ((nI n : Int32).toInt64.toUInt64 &&& Int64.toUInt64 63)).toInt64 &&& 1 = 0) : m.toUInt64.toNat < 2 ^ n := by
  rw [zl_bit m hn] at h
  have h2 : m.toUInt64.toNat / 2 ^ n < 2 := by rw [Nat.div_lt_iff_lt_mul (Nat.pow_pos (by decide))]; rw [Nat.pow_succ] at hlt; omega
  have h4 : ∀ q : Nat, q < 2 → q % 2 = 0 → q = 0 := by intro q; omega
  have h3 : m.toUInt64.toNat / 2 ^ n = 0 := h4 _ h2 h
  rcases Nat.lt_or_ge m.toUInt64.toNat (2 ^ n) with q | q
  · exact q
  · have := Nat.div_pos q (Nat.pow_pos (by decide)); omega
theorem zl_bitK {m : Int64} {n : Nat} (hm : ¬ m = 0) (hlt : m.toUInt64.toNat < 2 ^ (n + 1)) (hn : n < 64) (h : (m.toUInt64 >>> ((nI n : Int32).toInt64.toUInt64 &&& Int64.toUInt64 63)).toInt64 &&& 1 = 0) : ∃ K, n = K + 1 := by
  cases n with
  | succ K => exact ⟨K, rfl⟩
  | zero =>
    have h1 := zl_bitN hlt hn h
    exact absurd (Int64.toBitVec_inj.mp (BitVec.eq_of_toNat_eq (show m.toBitVec.toNat = (0 : Int64).toBitVec.toNat from by have : m.toUInt64.toNat = m.toBitVec.toNat := rfl
                                                                                                                           simp at h1 ⊢; omega))) hm
theorem zl_neg0 {x : Int64} (h : ¬ x = 0) : ¬ -x = 0 := fun q => h (by have := congrArg (fun z : Int64 => -z) q; simpa using this)
theorem zl_b1 {u : UInt64} (h : ¬ u.toInt64 &&& 1 = 0) : u.toInt64 &&& 1 = 1 := by
  have e : (u.toInt64 &&& 1).toBitVec.toNat = u.toNat % 2 := by
    have h1 : (u.toInt64 &&& 1).toBitVec = u.toBitVec &&& 1#64 := rfl
    rw [h1, BitVec.toNat_and]
    exact Nat.and_one_is_mod _
  have h2 : u.toNat % 2 = 1 := by
    rcases Nat.mod_two_eq_zero_or_one u.toNat with q | q
    · exact absurd ((zl_and1 u).mpr q) h
    · exact q
  rw [h2] at e
  exact Int64.toBitVec_inj.mp (BitVec.eq_of_toNat_eq e)
theorem zl_tbS {m : Int64} {K : Nat} (c : (m.toUInt64 >>> ((nI (K + 1) : Int32).toInt64.toUInt64 &&& Int64.toUInt64 63)).toInt64 &&& 1 = 0) : fn_topBit m (K + 1) = fn_topBit m K := by
  rw [fn_topBit, if_neg (fun z => absurd (z.symm.trans c) (by decide))]
theorem zl_tbE {m : Int64} {n : Nat} (hn : n ≤ 63) (he : fn_topBit m 63 = fn_topBit m n) (c : ¬ (m.toUInt64 >>> ((nI n : Int32).toInt64.toUInt64 &&& Int64.toUInt64 63)).toInt64 &&& 1 = 0) : (fn_topBit m 63).toNatClampNeg = n := by
  cases n with
  | zero => rw [he]; rfl
  | succ K => rw [he, fn_topBit, if_pos (zl_b1 c), nI_clamp (by omega)]
theorem dg_X8_real_0 : (decode cX8_real 0 = .ok (.lload_n 0, 1)) ∧ (decode cX8_real 1 = .ok (.lconst 0, 1)) ∧ (decode cX8_real 2 = .ok (.lcmp, 1)) ∧ (decode cX8_real 3 = .ok (.ifCond .ne 5, 3)) ∧ (decode cX8_real 6 = .ok (.lconst 0, 1)) ∧ (decode cX8_real 7 = .ok (.lreturn, 1)) ∧ (decode cX8_real 8 = .ok (.lload_n 0, 1)) ∧ (decode cX8_real 9 = .ok (.lconst 0, 1)) ∧ (decode cX8_real 10 = .ok (.lcmp, 1)) ∧ (decode cX8_real 11 = .ok (.ifCond .ge 7, 3)) ∧ (decode cX8_real 14 = .ok (.iconst 1, 1)) ∧ (decode cX8_real 15 = .ok (.goto 4, 3)) ∧ (decode cX8_real 18 = .ok (.iconst 0, 1)) ∧ (decode cX8_real 19 = .ok (.istore 4, 2)) ∧ (decode cX8_real 21 = .ok (.iload 4, 2)) ∧ (decode cX8_real 23 = .ok (.ifCond .eq 8, 3)) := by decide +kernel
theorem dX8_real_0 : decode cX8_real 0 = .ok (.lload_n 0, 1) := dg_X8_real_0.1
theorem dX8_real_1 : decode cX8_real 1 = .ok (.lconst 0, 1) := dg_X8_real_0.2.1
theorem dX8_real_2 : decode cX8_real 2 = .ok (.lcmp, 1) := dg_X8_real_0.2.2.1
theorem dX8_real_3 : decode cX8_real 3 = .ok (.ifCond .ne 5, 3) := dg_X8_real_0.2.2.2.1
theorem dX8_real_6 : decode cX8_real 6 = .ok (.lconst 0, 1) := dg_X8_real_0.2.2.2.2.1
theorem dX8_real_7 : decode cX8_real 7 = .ok (.lreturn, 1) := dg_X8_real_0.2.2.2.2.2.1
theorem dX8_real_8 : decode cX8_real 8 = .ok (.lload_n 0, 1) := dg_X8_real_0.2.2.2.2.2.2.1
theorem dX8_real_9 : decode cX8_real 9 = .ok (.lconst 0, 1) := dg_X8_real_0.2.2.2.2.2.2.2.1
theorem dX8_real_10 : decode cX8_real 10 = .ok (.lcmp, 1) := dg_X8_real_0.2.2.2.2.2.2.2.2.1
theorem dX8_real_11 : decode cX8_real 11 = .ok (.ifCond .ge 7, 3) := dg_X8_real_0.2.2.2.2.2.2.2.2.2.1
theorem dX8_real_14 : decode cX8_real 14 = .ok (.iconst 1, 1) := dg_X8_real_0.2.2.2.2.2.2.2.2.2.2.1
theorem dX8_real_15 : decode cX8_real 15 = .ok (.goto 4, 3) := dg_X8_real_0.2.2.2.2.2.2.2.2.2.2.2.1
theorem dX8_real_18 : decode cX8_real 18 = .ok (.iconst 0, 1) := dg_X8_real_0.2.2.2.2.2.2.2.2.2.2.2.2.1
theorem dX8_real_19 : decode cX8_real 19 = .ok (.istore 4, 2) := dg_X8_real_0.2.2.2.2.2.2.2.2.2.2.2.2.2.1
theorem dX8_real_21 : decode cX8_real 21 = .ok (.iload 4, 2) := dg_X8_real_0.2.2.2.2.2.2.2.2.2.2.2.2.2.2.1
theorem dX8_real_23 : decode cX8_real 23 = .ok (.ifCond .eq 8, 3) := dg_X8_real_0.2.2.2.2.2.2.2.2.2.2.2.2.2.2.2
theorem dg_X8_real_26 : (decode cX8_real 26 = .ok (.lload_n 0, 1)) ∧ (decode cX8_real 27 = .ok (.lneg, 1)) ∧ (decode cX8_real 28 = .ok (.goto 4, 3)) ∧ (decode cX8_real 31 = .ok (.lload_n 0, 1)) ∧ (decode cX8_real 32 = .ok (.lstore 5, 2)) ∧ (decode cX8_real 34 = .ok (.bipush 63, 2)) ∧ (decode cX8_real 36 = .ok (.istore 7, 2)) ∧ (decode cX8_real 38 = .ok (.lload 5, 2)) ∧ (decode cX8_real 40 = .ok (.iload 7, 2)) ∧ (decode cX8_real 42 = .ok (.lushr, 1)) ∧ (decode cX8_real 43 = .ok (.lconst 1, 1)) ∧ (decode cX8_real 44 = .ok (.land, 1)) ∧ (decode cX8_real 45 = .ok (.lconst 0, 1)) ∧ (decode cX8_real 46 = .ok (.lcmp, 1)) ∧ (decode cX8_real 47 = .ok (.ifCond .ne 9, 3)) ∧ (decode cX8_real 50 = .ok (.iinc 7 (-1), 3)) := by decide +kernel
theorem dX8_real_26 : decode cX8_real 26 = .ok (.lload_n 0, 1) := dg_X8_real_26.1
theorem dX8_real_27 : decode cX8_real 27 = .ok (.lneg, 1) := dg_X8_real_26.2.1
theorem dX8_real_28 : decode cX8_real 28 = .ok (.goto 4, 3) := dg_X8_real_26.2.2.1
theorem dX8_real_31 : decode cX8_real 31 = .ok (.lload_n 0, 1) := dg_X8_real_26.2.2.2.1
theorem dX8_real_32 : decode cX8_real 32 = .ok (.lstore 5, 2) := dg_X8_real_26.2.2.2.2.1
theorem dX8_real_34 : decode cX8_real 34 = .ok (.bipush 63, 2) := dg_X8_real_26.2.2.2.2.2.1
theorem dX8_real_36 : decode cX8_real 36 = .ok (.istore 7, 2) := dg_X8_real_26.2.2.2.2.2.2.1
theorem dX8_real_38 : decode cX8_real 38 = .ok (.lload 5, 2) := dg_X8_real_26.2.2.2.2.2.2.2.1
theorem dX8_real_40 : decode cX8_real 40 = .ok (.iload 7, 2) := dg_X8_real_26.2.2.2.2.2.2.2.2.1
theorem dX8_real_42 : decode cX8_real 42 = .ok (.lushr, 1) := dg_X8_real_26.2.2.2.2.2.2.2.2.2.1
theorem dX8_real_43 : decode cX8_real 43 = .ok (.lconst 1, 1) := dg_X8_real_26.2.2.2.2.2.2.2.2.2.2.1
theorem dX8_real_44 : decode cX8_real 44 = .ok (.land, 1) := dg_X8_real_26.2.2.2.2.2.2.2.2.2.2.2.1
theorem dX8_real_45 : decode cX8_real 45 = .ok (.lconst 0, 1) := dg_X8_real_26.2.2.2.2.2.2.2.2.2.2.2.2.1
theorem dX8_real_46 : decode cX8_real 46 = .ok (.lcmp, 1) := dg_X8_real_26.2.2.2.2.2.2.2.2.2.2.2.2.2.1
theorem dX8_real_47 : decode cX8_real 47 = .ok (.ifCond .ne 9, 3) := dg_X8_real_26.2.2.2.2.2.2.2.2.2.2.2.2.2.2.1
theorem dX8_real_50 : decode cX8_real 50 = .ok (.iinc 7 (-1), 3) := dg_X8_real_26.2.2.2.2.2.2.2.2.2.2.2.2.2.2.2
theorem dg_X8_real_53 : (decode cX8_real 53 = .ok (.goto (-15), 3)) ∧ (decode cX8_real 56 = .ok (.iload 7, 2)) ∧ (decode cX8_real 58 = .ok (.i2l, 1)) ∧ (decode cX8_real 59 = .ok (.lstore 10, 2)) ∧ (decode cX8_real 61 = .ok (.iload 7, 2)) ∧ (decode cX8_real 63 = .ok (.iload_n 2, 1)) ∧ (decode cX8_real 64 = .ok (.if_icmp .gt 15, 3)) ∧ (decode cX8_real 67 = .ok (.lload 5, 2)) ∧ (decode cX8_real 69 = .ok (.iload_n 2, 1)) ∧ (decode cX8_real 70 = .ok (.iload 7, 2)) ∧ (decode cX8_real 72 = .ok (.isub, 1)) ∧ (decode cX8_real 73 = .ok (.lshl, 1)) ∧ (decode cX8_real 74 = .ok (.lstore 8, 2)) ∧ (decode cX8_real 76 = .ok (.goto 89, 3)) ∧ (decode cX8_real 79 = .ok (.iload 7, 2)) ∧ (decode cX8_real 81 = .ok (.iload_n 2, 1)) := by decide +kernel
theorem dX8_real_53 : decode cX8_real 53 = .ok (.goto (-15), 3) := dg_X8_real_53.1
theorem dX8_real_56 : decode cX8_real 56 = .ok (.iload 7, 2) := dg_X8_real_53.2.1
theorem dX8_real_58 : decode cX8_real 58 = .ok (.i2l, 1) := dg_X8_real_53.2.2.1
theorem dX8_real_59 : decode cX8_real 59 = .ok (.lstore 10, 2) := dg_X8_real_53.2.2.2.1
theorem dX8_real_61 : decode cX8_real 61 = .ok (.iload 7, 2) := dg_X8_real_53.2.2.2.2.1
theorem dX8_real_63 : decode cX8_real 63 = .ok (.iload_n 2, 1) := dg_X8_real_53.2.2.2.2.2.1
theorem dX8_real_64 : decode cX8_real 64 = .ok (.if_icmp .gt 15, 3) := dg_X8_real_53.2.2.2.2.2.2.1
theorem dX8_real_67 : decode cX8_real 67 = .ok (.lload 5, 2) := dg_X8_real_53.2.2.2.2.2.2.2.1
theorem dX8_real_69 : decode cX8_real 69 = .ok (.iload_n 2, 1) := dg_X8_real_53.2.2.2.2.2.2.2.2.1
theorem dX8_real_70 : decode cX8_real 70 = .ok (.iload 7, 2) := dg_X8_real_53.2.2.2.2.2.2.2.2.2.1
theorem dX8_real_72 : decode cX8_real 72 = .ok (.isub, 1) := dg_X8_real_53.2.2.2.2.2.2.2.2.2.2.1
theorem dX8_real_73 : decode cX8_real 73 = .ok (.lshl, 1) := dg_X8_real_53.2.2.2.2.2.2.2.2.2.2.2.1
theorem dX8_real_74 : decode cX8_real 74 = .ok (.lstore 8, 2) := dg_X8_real_53.2.2.2.2.2.2.2.2.2.2.2.2.1
theorem dX8_real_76 : decode cX8_real 76 = .ok (.goto 89, 3) := dg_X8_real_53.2.2.2.2.2.2.2.2.2.2.2.2.2.1
theorem dX8_real_79 : decode cX8_real 79 = .ok (.iload 7, 2) := dg_X8_real_53.2.2.2.2.2.2.2.2.2.2.2.2.2.2.1
theorem dX8_real_81 : decode cX8_real 81 = .ok (.iload_n 2, 1) := dg_X8_real_53.2.2.2.2.2.2.2.2.2.2.2.2.2.2.2
theorem dg_X8_real_82 : (decode cX8_real 82 = .ok (.isub, 1)) ∧ (decode cX8_real 83 = .ok (.istore 12, 2)) ∧ (decode cX8_real 85 = .ok (.lload 5, 2)) ∧ (decode cX8_real 87 = .ok (.iload 12, 2)) ∧ (decode cX8_real 89 = .ok (.lushr, 1)) ∧ (decode cX8_real 90 = .ok (.lstore 8, 2)) ∧ (decode cX8_real 92 = .ok (.lload 5, 2)) ∧ (decode cX8_real 94 = .ok (.lconst 1, 1)) ∧ (decode cX8_real 95 = .ok (.iload 12, 2)) ∧ (decode cX8_real 97 = .ok (.lshl, 1)) ∧ (decode cX8_real 98 = .ok (.lconst 1, 1)) ∧ (decode cX8_real 99 = .ok (.lsub, 1)) ∧ (decode cX8_real 100 = .ok (.land, 1)) ∧ (decode cX8_real 101 = .ok (.lstore 13, 2)) ∧ (decode cX8_real 103 = .ok (.lconst 1, 1)) ∧ (decode cX8_real 104 = .ok (.iload 12, 2)) := by decide +kernel
theorem dX8_real_82 : decode cX8_real 82 = .ok (.isub, 1) := dg_X8_real_82.1
theorem dX8_real_83 : decode cX8_real 83 = .ok (.istore 12, 2) := dg_X8_real_82.2.1
theorem dX8_real_85 : decode cX8_real 85 = .ok (.lload 5, 2) := dg_X8_real_82.2.2.1
theorem dX8_real_87 : decode cX8_real 87 = .ok (.iload 12, 2) := dg_X8_real_82.2.2.2.1
theorem dX8_real_89 : decode cX8_real 89 = .ok (.lushr, 1) := dg_X8_real_82.2.2.2.2.1
theorem dX8_real_90 : decode cX8_real 90 = .ok (.lstore 8, 2) := dg_X8_real_82.2.2.2.2.2.1
theorem dX8_real_92 : decode cX8_real 92 = .ok (.lload 5, 2) := dg_X8_real_82.2.2.2.2.2.2.1
theorem dX8_real_94 : decode cX8_real 94 = .ok (.lconst 1, 1) := dg_X8_real_82.2.2.2.2.2.2.2.1
theorem dX8_real_95 : decode cX8_real 95 = .ok (.iload 12, 2) := dg_X8_real_82.2.2.2.2.2.2.2.2.1
theorem dX8_real_97 : decode cX8_real 97 = .ok (.lshl, 1) := dg_X8_real_82.2.2.2.2.2.2.2.2.2.1
theorem dX8_real_98 : decode cX8_real 98 = .ok (.lconst 1, 1) := dg_X8_real_82.2.2.2.2.2.2.2.2.2.2.1
theorem dX8_real_99 : decode cX8_real 99 = .ok (.lsub, 1) := dg_X8_real_82.2.2.2.2.2.2.2.2.2.2.2.1
theorem dX8_real_100 : decode cX8_real 100 = .ok (.land, 1) := dg_X8_real_82.2.2.2.2.2.2.2.2.2.2.2.2.1
theorem dX8_real_101 : decode cX8_real 101 = .ok (.lstore 13, 2) := dg_X8_real_82.2.2.2.2.2.2.2.2.2.2.2.2.2.1
theorem dX8_real_103 : decode cX8_real 103 = .ok (.lconst 1, 1) := dg_X8_real_82.2.2.2.2.2.2.2.2.2.2.2.2.2.2.1
theorem dX8_real_104 : decode cX8_real 104 = .ok (.iload 12, 2) := dg_X8_real_82.2.2.2.2.2.2.2.2.2.2.2.2.2.2.2
theorem dg_X8_real_106 : (decode cX8_real 106 = .ok (.iconst 1, 1)) ∧ (decode cX8_real 107 = .ok (.isub, 1)) ∧ (decode cX8_real 108 = .ok (.lshl, 1)) ∧ (decode cX8_real 109 = .ok (.lstore 15, 2)) ∧ (decode cX8_real 111 = .ok (.lload 13, 2)) ∧ (decode cX8_real 113 = .ok (.lload 15, 2)) ∧ (decode cX8_real 115 = .ok (.lcmp, 1)) ∧ (decode cX8_real 116 = .ok (.ifCond .gt 20, 3)) ∧ (decode cX8_real 119 = .ok (.lload 13, 2)) ∧ (decode cX8_real 121 = .ok (.lload 15, 2)) ∧ (decode cX8_real 123 = .ok (.lcmp, 1)) ∧ (decode cX8_real 124 = .ok (.ifCond .ne 18, 3)) ∧ (decode cX8_real 127 = .ok (.lload 8, 2)) ∧ (decode cX8_real 129 = .ok (.lconst 1, 1)) ∧ (decode cX8_real 130 = .ok (.land, 1)) ∧ (decode cX8_real 131 = .ok (.lconst 1, 1)) := by decide +kernel
theorem dX8_real_106 : decode cX8_real 106 = .ok (.iconst 1, 1) := dg_X8_real_106.1
theorem dX8_real_107 : decode cX8_real 107 = .ok (.isub, 1) := dg_X8_real_106.2.1
theorem dX8_real_108 : decode cX8_real 108 = .ok (.lshl, 1) := dg_X8_real_106.2.2.1
theorem dX8_real_109 : decode cX8_real 109 = .ok (.lstore 15, 2) := dg_X8_real_106.2.2.2.1
theorem dX8_real_111 : decode cX8_real 111 = .ok (.lload 13, 2) := dg_X8_real_106.2.2.2.2.1
theorem dX8_real_113 : decode cX8_real 113 = .ok (.lload 15, 2) := dg_X8_real_106.2.2.2.2.2.1
theorem dX8_real_115 : decode cX8_real 115 = .ok (.lcmp, 1) := dg_X8_real_106.2.2.2.2.2.2.1
theorem dX8_real_116 : decode cX8_real 116 = .ok (.ifCond .gt 20, 3) := dg_X8_real_106.2.2.2.2.2.2.2.1
theorem dX8_real_119 : decode cX8_real 119 = .ok (.lload 13, 2) := dg_X8_real_106.2.2.2.2.2.2.2.2.1
theorem dX8_real_121 : decode cX8_real 121 = .ok (.lload 15, 2) := dg_X8_real_106.2.2.2.2.2.2.2.2.2.1
theorem dX8_real_123 : decode cX8_real 123 = .ok (.lcmp, 1) := dg_X8_real_106.2.2.2.2.2.2.2.2.2.2.1
theorem dX8_real_124 : decode cX8_real 124 = .ok (.ifCond .ne 18, 3) := dg_X8_real_106.2.2.2.2.2.2.2.2.2.2.2.1
theorem dX8_real_127 : decode cX8_real 127 = .ok (.lload 8, 2) := dg_X8_real_106.2.2.2.2.2.2.2.2.2.2.2.2.1
theorem dX8_real_129 : decode cX8_real 129 = .ok (.lconst 1, 1) := dg_X8_real_106.2.2.2.2.2.2.2.2.2.2.2.2.2.1
theorem dX8_real_130 : decode cX8_real 130 = .ok (.land, 1) := dg_X8_real_106.2.2.2.2.2.2.2.2.2.2.2.2.2.2.1
theorem dX8_real_131 : decode cX8_real 131 = .ok (.lconst 1, 1) := dg_X8_real_106.2.2.2.2.2.2.2.2.2.2.2.2.2.2.2
theorem dg_X8_real_132 : (decode cX8_real 132 = .ok (.lcmp, 1)) ∧ (decode cX8_real 133 = .ok (.ifCond .ne 9, 3)) ∧ (decode cX8_real 136 = .ok (.lload 8, 2)) ∧ (decode cX8_real 138 = .ok (.lconst 1, 1)) ∧ (decode cX8_real 139 = .ok (.ladd, 1)) ∧ (decode cX8_real 140 = .ok (.lstore 8, 2)) ∧ (decode cX8_real 142 = .ok (.lload 8, 2)) ∧ (decode cX8_real 144 = .ok (.iload_n 2, 1)) ∧ (decode cX8_real 145 = .ok (.iconst 1, 1)) ∧ (decode cX8_real 146 = .ok (.iadd, 1)) ∧ (decode cX8_real 147 = .ok (.lushr, 1)) ∧ (decode cX8_real 148 = .ok (.lconst 1, 1)) ∧ (decode cX8_real 149 = .ok (.lcmp, 1)) ∧ (decode cX8_real 150 = .ok (.ifCond .ne 15, 3)) ∧ (decode cX8_real 153 = .ok (.lload 8, 2)) ∧ (decode cX8_real 155 = .ok (.iconst 1, 1)) := by decide +kernel
theorem dX8_real_132 : decode cX8_real 132 = .ok (.lcmp, 1) := dg_X8_real_132.1
theorem dX8_real_133 : decode cX8_real 133 = .ok (.ifCond .ne 9, 3) := dg_X8_real_132.2.1
theorem dX8_real_136 : decode cX8_real 136 = .ok (.lload 8, 2) := dg_X8_real_132.2.2.1
theorem dX8_real_138 : decode cX8_real 138 = .ok (.lconst 1, 1) := dg_X8_real_132.2.2.2.1
theorem dX8_real_139 : decode cX8_real 139 = .ok (.ladd, 1) := dg_X8_real_132.2.2.2.2.1
theorem dX8_real_140 : decode cX8_real 140 = .ok (.lstore 8, 2) := dg_X8_real_132.2.2.2.2.2.1
theorem dX8_real_142 : decode cX8_real 142 = .ok (.lload 8, 2) := dg_X8_real_132.2.2.2.2.2.2.1
theorem dX8_real_144 : decode cX8_real 144 = .ok (.iload_n 2, 1) := dg_X8_real_132.2.2.2.2.2.2.2.1
theorem dX8_real_145 : decode cX8_real 145 = .ok (.iconst 1, 1) := dg_X8_real_132.2.2.2.2.2.2.2.2.1
theorem dX8_real_146 : decode cX8_real 146 = .ok (.iadd, 1) := dg_X8_real_132.2.2.2.2.2.2.2.2.2.1
theorem dX8_real_147 : decode cX8_real 147 = .ok (.lushr, 1) := dg_X8_real_132.2.2.2.2.2.2.2.2.2.2.1
theorem dX8_real_148 : decode cX8_real 148 = .ok (.lconst 1, 1) := dg_X8_real_132.2.2.2.2.2.2.2.2.2.2.2.1
theorem dX8_real_149 : decode cX8_real 149 = .ok (.lcmp, 1) := dg_X8_real_132.2.2.2.2.2.2.2.2.2.2.2.2.1
theorem dX8_real_150 : decode cX8_real 150 = .ok (.ifCond .ne 15, 3) := dg_X8_real_132.2.2.2.2.2.2.2.2.2.2.2.2.2.1
theorem dX8_real_153 : decode cX8_real 153 = .ok (.lload 8, 2) := dg_X8_real_132.2.2.2.2.2.2.2.2.2.2.2.2.2.2.1
theorem dX8_real_155 : decode cX8_real 155 = .ok (.iconst 1, 1) := dg_X8_real_132.2.2.2.2.2.2.2.2.2.2.2.2.2.2.2
theorem dg_X8_real_156 : (decode cX8_real 156 = .ok (.lushr, 1)) ∧ (decode cX8_real 157 = .ok (.lstore 8, 2)) ∧ (decode cX8_real 159 = .ok (.lload 10, 2)) ∧ (decode cX8_real 161 = .ok (.lconst 1, 1)) ∧ (decode cX8_real 162 = .ok (.ladd, 1)) ∧ (decode cX8_real 163 = .ok (.lstore 10, 2)) ∧ (decode cX8_real 165 = .ok (.lload 10, 2)) ∧ (decode cX8_real 167 = .ok (.iload_n 3, 1)) ∧ (decode cX8_real 168 = .ok (.i2l, 1)) ∧ (decode cX8_real 169 = .ok (.ladd, 1)) ∧ (decode cX8_real 170 = .ok (.iload_n 2, 1)) ∧ (decode cX8_real 171 = .ok (.lshl, 1)) ∧ (decode cX8_real 172 = .ok (.lload 8, 2)) ∧ (decode cX8_real 174 = .ok (.lconst 1, 1)) ∧ (decode cX8_real 175 = .ok (.iload_n 2, 1)) ∧ (decode cX8_real 176 = .ok (.lshl, 1)) := by decide +kernel
theorem dX8_real_156 : decode cX8_real 156 = .ok (.lushr, 1) := dg_X8_real_156.1
theorem dX8_real_157 : decode cX8_real 157 = .ok (.lstore 8, 2) := dg_X8_real_156.2.1
theorem dX8_real_159 : decode cX8_real 159 = .ok (.lload 10, 2) := dg_X8_real_156.2.2.1
theorem dX8_real_161 : decode cX8_real 161 = .ok (.lconst 1, 1) := dg_X8_real_156.2.2.2.1
theorem dX8_real_162 : decode cX8_real 162 = .ok (.ladd, 1) := dg_X8_real_156.2.2.2.2.1
theorem dX8_real_163 : decode cX8_real 163 = .ok (.lstore 10, 2) := dg_X8_real_156.2.2.2.2.2.1
theorem dX8_real_165 : decode cX8_real 165 = .ok (.lload 10, 2) := dg_X8_real_156.2.2.2.2.2.2.1
theorem dX8_real_167 : decode cX8_real 167 = .ok (.iload_n 3, 1) := dg_X8_real_156.2.2.2.2.2.2.2.1
theorem dX8_real_168 : decode cX8_real 168 = .ok (.i2l, 1) := dg_X8_real_156.2.2.2.2.2.2.2.2.1
theorem dX8_real_169 : decode cX8_real 169 = .ok (.ladd, 1) := dg_X8_real_156.2.2.2.2.2.2.2.2.2.1
theorem dX8_real_170 : decode cX8_real 170 = .ok (.iload_n 2, 1) := dg_X8_real_156.2.2.2.2.2.2.2.2.2.2.1
theorem dX8_real_171 : decode cX8_real 171 = .ok (.lshl, 1) := dg_X8_real_156.2.2.2.2.2.2.2.2.2.2.2.1
theorem dX8_real_172 : decode cX8_real 172 = .ok (.lload 8, 2) := dg_X8_real_156.2.2.2.2.2.2.2.2.2.2.2.2.1
theorem dX8_real_174 : decode cX8_real 174 = .ok (.lconst 1, 1) := dg_X8_real_156.2.2.2.2.2.2.2.2.2.2.2.2.2.1
theorem dX8_real_175 : decode cX8_real 175 = .ok (.iload_n 2, 1) := dg_X8_real_156.2.2.2.2.2.2.2.2.2.2.2.2.2.2.1
theorem dX8_real_176 : decode cX8_real 176 = .ok (.lshl, 1) := dg_X8_real_156.2.2.2.2.2.2.2.2.2.2.2.2.2.2.2
theorem dg_X8_real_177 : (decode cX8_real 177 = .ok (.lconst 1, 1)) ∧ (decode cX8_real 178 = .ok (.lsub, 1)) ∧ (decode cX8_real 179 = .ok (.land, 1)) ∧ (decode cX8_real 180 = .ok (.lor, 1)) ∧ (decode cX8_real 181 = .ok (.lstore 12, 2)) ∧ (decode cX8_real 183 = .ok (.iload_n 2, 1)) ∧ (decode cX8_real 184 = .ok (.bipush 23, 2)) ∧ (decode cX8_real 186 = .ok (.if_icmp .ne 24, 3)) ∧ (decode cX8_real 189 = .ok (.iload 4, 2)) ∧ (decode cX8_real 191 = .ok (.ifCond .eq 14, 3)) ∧ (decode cX8_real 194 = .ok (.lload 12, 2)) ∧ (decode cX8_real 196 = .ok (.ldc2_w 140, 3)) ∧ (decode cX8_real 199 = .ok (.lor, 1)) ∧ (decode cX8_real 200 = .ok (.l2i, 1)) ∧ (decode cX8_real 201 = .ok (.i2l, 1)) ∧ (decode cX8_real 202 = .ok (.goto 24, 3)) := by decide +kernel
theorem dX8_real_177 : decode cX8_real 177 = .ok (.lconst 1, 1) := dg_X8_real_177.1
theorem dX8_real_178 : decode cX8_real 178 = .ok (.lsub, 1) := dg_X8_real_177.2.1
theorem dX8_real_179 : decode cX8_real 179 = .ok (.land, 1) := dg_X8_real_177.2.2.1
theorem dX8_real_180 : decode cX8_real 180 = .ok (.lor, 1) := dg_X8_real_177.2.2.2.1
theorem dX8_real_181 : decode cX8_real 181 = .ok (.lstore 12, 2) := dg_X8_real_177.2.2.2.2.1
theorem dX8_real_183 : decode cX8_real 183 = .ok (.iload_n 2, 1) := dg_X8_real_177.2.2.2.2.2.1
theorem dX8_real_184 : decode cX8_real 184 = .ok (.bipush 23, 2) := dg_X8_real_177.2.2.2.2.2.2.1
theorem dX8_real_186 : decode cX8_real 186 = .ok (.if_icmp .ne 24, 3) := dg_X8_real_177.2.2.2.2.2.2.2.1
theorem dX8_real_189 : decode cX8_real 189 = .ok (.iload 4, 2) := dg_X8_real_177.2.2.2.2.2.2.2.2.1
theorem dX8_real_191 : decode cX8_real 191 = .ok (.ifCond .eq 14, 3) := dg_X8_real_177.2.2.2.2.2.2.2.2.2.1
theorem dX8_real_194 : decode cX8_real 194 = .ok (.lload 12, 2) := dg_X8_real_177.2.2.2.2.2.2.2.2.2.2.1
theorem dX8_real_196 : decode cX8_real 196 = .ok (.ldc2_w 140, 3) := dg_X8_real_177.2.2.2.2.2.2.2.2.2.2.2.1
theorem dX8_real_199 : decode cX8_real 199 = .ok (.lor, 1) := dg_X8_real_177.2.2.2.2.2.2.2.2.2.2.2.2.1
theorem dX8_real_200 : decode cX8_real 200 = .ok (.l2i, 1) := dg_X8_real_177.2.2.2.2.2.2.2.2.2.2.2.2.2.1
theorem dX8_real_201 : decode cX8_real 201 = .ok (.i2l, 1) := dg_X8_real_177.2.2.2.2.2.2.2.2.2.2.2.2.2.2.1
theorem dX8_real_202 : decode cX8_real 202 = .ok (.goto 24, 3) := dg_X8_real_177.2.2.2.2.2.2.2.2.2.2.2.2.2.2.2
theorem dg_X8_real_205 : (decode cX8_real 205 = .ok (.lload 12, 2)) ∧ (decode cX8_real 207 = .ok (.goto 19, 3)) ∧ (decode cX8_real 210 = .ok (.iload 4, 2)) ∧ (decode cX8_real 212 = .ok (.ifCond .eq 12, 3)) ∧ (decode cX8_real 215 = .ok (.lload 12, 2)) ∧ (decode cX8_real 217 = .ok (.ldc2_w 142, 3)) ∧ (decode cX8_real 220 = .ok (.lor, 1)) ∧ (decode cX8_real 221 = .ok (.goto 5, 3)) ∧ (decode cX8_real 224 = .ok (.lload 12, 2)) ∧ (decode cX8_real 226 = .ok (.lreturn, 1)) := by decide +kernel
theorem dX8_real_205 : decode cX8_real 205 = .ok (.lload 12, 2) := dg_X8_real_205.1
theorem dX8_real_207 : decode cX8_real 207 = .ok (.goto 19, 3) := dg_X8_real_205.2.1
theorem dX8_real_210 : decode cX8_real 210 = .ok (.iload 4, 2) := dg_X8_real_205.2.2.1
theorem dX8_real_212 : decode cX8_real 212 = .ok (.ifCond .eq 12, 3) := dg_X8_real_205.2.2.2.1
theorem dX8_real_215 : decode cX8_real 215 = .ok (.lload 12, 2) := dg_X8_real_205.2.2.2.2.1
theorem dX8_real_217 : decode cX8_real 217 = .ok (.ldc2_w 142, 3) := dg_X8_real_205.2.2.2.2.2.1
theorem dX8_real_220 : decode cX8_real 220 = .ok (.lor, 1) := dg_X8_real_205.2.2.2.2.2.2.1
theorem dX8_real_221 : decode cX8_real 221 = .ok (.goto 5, 3) := dg_X8_real_205.2.2.2.2.2.2.2.1
theorem dX8_real_224 : decode cX8_real 224 = .ok (.lload 12, 2) := dg_X8_real_205.2.2.2.2.2.2.2.2.1
theorem dX8_real_226 : decode cX8_real 226 = .ok (.lreturn, 1) := dg_X8_real_205.2.2.2.2.2.2.2.2.2
theorem zk_954 : Cond.constantLong RX8 140 (2147483648) ∈ zz_w := zz_in (List.mem_append_right _ (List.mem_append_right _ (List.mem_append_right _ (List.mem_append_right _ (List.mem_append_left _ (List.mem_of_getElem? (i := 234) (by decide +kernel))))))) rfl
def fn_cm_real (x : Int64) (k : Int32) (j : Int32) : Int64 := (if x = 0 then 0 else (if 0 ≤ x then (if k < (nI ((fn_topBit x 63).toNatClampNeg)) then (if ((1 : Int64) <<< ((((nI ((fn_topBit x 63).toNatClampNeg)) - k) - 1 : Int32).toInt64 &&& 63)) < (x &&& (((1 : Int64) <<< (((nI ((fn_topBit x 63).toNatClampNeg)) - k : Int32).toInt64 &&& 63)) - 1)) then (if (((((x.toUInt64 >>> (((nI ((fn_topBit x 63).toNatClampNeg)) - k : Int32).toInt64.toUInt64 &&& Int64.toUInt64 63)).toInt64) + 1).toUInt64 >>> ((k + 1 : Int32).toInt64.toUInt64 &&& Int64.toUInt64 63)).toInt64) = 1 then (((((nI ((fn_topBit x 63).toNatClampNeg)).toInt64) + 1) + j.toInt64 : Int64) <<< ((k : Int32).toInt64 &&& 63)) ||| ((((((x.toUInt64 >>> (((nI ((fn_topBit x 63).toNatClampNeg)) - k : Int32).toInt64.toUInt64 &&& Int64.toUInt64 63)).toInt64) + 1).toUInt64 >>> ((1 : Int32).toInt64.toUInt64 &&& Int64.toUInt64 63)).toInt64) &&& (((1 : Int64) <<< ((k : Int32).toInt64 &&& 63)) - 1)) else ((((nI ((fn_topBit x 63).toNatClampNeg)).toInt64) + j.toInt64 : Int64) <<< ((k : Int32).toInt64 &&& 63)) ||| ((((x.toUInt64 >>> (((nI ((fn_topBit x 63).toNatClampNeg)) - k : Int32).toInt64.toUInt64 &&& Int64.toUInt64 63)).toInt64) + 1) &&& (((1 : Int64) <<< ((k : Int32).toInt64 &&& 63)) - 1))) else (if (x &&& (((1 : Int64) <<< (((nI ((fn_topBit x 63).toNatClampNeg)) - k : Int32).toInt64 &&& 63)) - 1)) = ((1 : Int64) <<< ((((nI ((fn_topBit x 63).toNatClampNeg)) - k) - 1 : Int32).toInt64 &&& 63)) then (if (((x.toUInt64 >>> (((nI ((fn_topBit x 63).toNatClampNeg)) - k : Int32).toInt64.toUInt64 &&& Int64.toUInt64 63)).toInt64) &&& 1) = 1 then (if (((((x.toUInt64 >>> (((nI ((fn_topBit x 63).toNatClampNeg)) - k : Int32).toInt64.toUInt64 &&& Int64.toUInt64 63)).toInt64) + 1).toUInt64 >>> ((k + 1 : Int32).toInt64.toUInt64 &&& Int64.toUInt64 63)).toInt64) = 1 then (((((nI ((fn_topBit x 63).toNatClampNeg)).toInt64) + 1) + j.toInt64 : Int64) <<< ((k : Int32).toInt64 &&& 63)) ||| ((((((x.toUInt64 >>> (((nI ((fn_topBit x 63).toNatClampNeg)) - k : Int32).toInt64.toUInt64 &&& Int64.toUInt64 63)).toInt64) + 1).toUInt64 >>> ((1 : Int32).toInt64.toUInt64 &&& Int64.toUInt64 63)).toInt64) &&& (((1 : Int64) <<< ((k : Int32).toInt64 &&& 63)) - 1)) else ((((nI ((fn_topBit x 63).toNatClampNeg)).toInt64) + j.toInt64 : Int64) <<< ((k : Int32).toInt64 &&& 63)) ||| ((((x.toUInt64 >>> (((nI ((fn_topBit x 63).toNatClampNeg)) - k : Int32).toInt64.toUInt64 &&& Int64.toUInt64 63)).toInt64) + 1) &&& (((1 : Int64) <<< ((k : Int32).toInt64 &&& 63)) - 1))) else (if ((((x.toUInt64 >>> (((nI ((fn_topBit x 63).toNatClampNeg)) - k : Int32).toInt64.toUInt64 &&& Int64.toUInt64 63)).toInt64).toUInt64 >>> ((k + 1 : Int32).toInt64.toUInt64 &&& Int64.toUInt64 63)).toInt64) = 1 then (((((nI ((fn_topBit x 63).toNatClampNeg)).toInt64) + 1) + j.toInt64 : Int64) <<< ((k : Int32).toInt64 &&& 63)) ||| (((((x.toUInt64 >>> (((nI ((fn_topBit x 63).toNatClampNeg)) - k : Int32).toInt64.toUInt64 &&& Int64.toUInt64 63)).toInt64).toUInt64 >>> ((1 : Int32).toInt64.toUInt64 &&& Int64.toUInt64 63)).toInt64) &&& (((1 : Int64) <<< ((k : Int32).toInt64 &&& 63)) - 1)) else ((((nI ((fn_topBit x 63).toNatClampNeg)).toInt64) + j.toInt64 : Int64) <<< ((k : Int32).toInt64 &&& 63)) ||| (((x.toUInt64 >>> (((nI ((fn_topBit x 63).toNatClampNeg)) - k : Int32).toInt64.toUInt64 &&& Int64.toUInt64 63)).toInt64) &&& (((1 : Int64) <<< ((k : Int32).toInt64 &&& 63)) - 1)))) else (if ((((x.toUInt64 >>> (((nI ((fn_topBit x 63).toNatClampNeg)) - k : Int32).toInt64.toUInt64 &&& Int64.toUInt64 63)).toInt64).toUInt64 >>> ((k + 1 : Int32).toInt64.toUInt64 &&& Int64.toUInt64 63)).toInt64) = 1 then (((((nI ((fn_topBit x 63).toNatClampNeg)).toInt64) + 1) + j.toInt64 : Int64) <<< ((k : Int32).toInt64 &&& 63)) ||| (((((x.toUInt64 >>> (((nI ((fn_topBit x 63).toNatClampNeg)) - k : Int32).toInt64.toUInt64 &&& Int64.toUInt64 63)).toInt64).toUInt64 >>> ((1 : Int32).toInt64.toUInt64 &&& Int64.toUInt64 63)).toInt64) &&& (((1 : Int64) <<< ((k : Int32).toInt64 &&& 63)) - 1)) else ((((nI ((fn_topBit x 63).toNatClampNeg)).toInt64) + j.toInt64 : Int64) <<< ((k : Int32).toInt64 &&& 63)) ||| (((x.toUInt64 >>> (((nI ((fn_topBit x 63).toNatClampNeg)) - k : Int32).toInt64.toUInt64 &&& Int64.toUInt64 63)).toInt64) &&& (((1 : Int64) <<< ((k : Int32).toInt64 &&& 63)) - 1))))) else ((((nI ((fn_topBit x 63).toNatClampNeg)).toInt64) + j.toInt64 : Int64) <<< ((k : Int32).toInt64 &&& 63)) ||| (((x : Int64) <<< ((k - (nI ((fn_topBit x 63).toNatClampNeg)) : Int32).toInt64 &&& 63)) &&& (((1 : Int64) <<< ((k : Int32).toInt64 &&& 63)) - 1))) else (if k < (nI ((fn_topBit (-x) 63).toNatClampNeg)) then (if ((1 : Int64) <<< ((((nI ((fn_topBit (-x) 63).toNatClampNeg)) - k) - 1 : Int32).toInt64 &&& 63)) < ((-x) &&& (((1 : Int64) <<< (((nI ((fn_topBit (-x) 63).toNatClampNeg)) - k : Int32).toInt64 &&& 63)) - 1)) then (if ((((((-x).toUInt64 >>> (((nI ((fn_topBit (-x) 63).toNatClampNeg)) - k : Int32).toInt64.toUInt64 &&& Int64.toUInt64 63)).toInt64) + 1).toUInt64 >>> ((k + 1 : Int32).toInt64.toUInt64 &&& Int64.toUInt64 63)).toInt64) = 1 then (if k = 23 then ((((((((nI ((fn_topBit (-x) 63).toNatClampNeg)).toInt64) + 1) + j.toInt64 : Int64) <<< ((k : Int32).toInt64 &&& 63)) ||| (((((((-x).toUInt64 >>> (((nI ((fn_topBit (-x) 63).toNatClampNeg)) - k : Int32).toInt64.toUInt64 &&& Int64.toUInt64 63)).toInt64) + 1).toUInt64 >>> ((1 : Int32).toInt64.toUInt64 &&& Int64.toUInt64 63)).toInt64) &&& (((1 : Int64) <<< ((k : Int32).toInt64 &&& 63)) - 1))) ||| 2147483648).toInt32).toInt64 else ((((((nI ((fn_topBit (-x) 63).toNatClampNeg)).toInt64) + 1) + j.toInt64 : Int64) <<< ((k : Int32).toInt64 &&& 63)) ||| (((((((-x).toUInt64 >>> (((nI ((fn_topBit (-x) 63).toNatClampNeg)) - k : Int32).toInt64.toUInt64 &&& Int64.toUInt64 63)).toInt64) + 1).toUInt64 >>> ((1 : Int32).toInt64.toUInt64 &&& Int64.toUInt64 63)).toInt64) &&& (((1 : Int64) <<< ((k : Int32).toInt64 &&& 63)) - 1))) ||| (-9223372036854775808)) else (if k = 23 then (((((((nI ((fn_topBit (-x) 63).toNatClampNeg)).toInt64) + j.toInt64 : Int64) <<< ((k : Int32).toInt64 &&& 63)) ||| (((((-x).toUInt64 >>> (((nI ((fn_topBit (-x) 63).toNatClampNeg)) - k : Int32).toInt64.toUInt64 &&& Int64.toUInt64 63)).toInt64) + 1) &&& (((1 : Int64) <<< ((k : Int32).toInt64 &&& 63)) - 1))) ||| 2147483648).toInt32).toInt64 else (((((nI ((fn_topBit (-x) 63).toNatClampNeg)).toInt64) + j.toInt64 : Int64) <<< ((k : Int32).toInt64 &&& 63)) ||| (((((-x).toUInt64 >>> (((nI ((fn_topBit (-x) 63).toNatClampNeg)) - k : Int32).toInt64.toUInt64 &&& Int64.toUInt64 63)).toInt64) + 1) &&& (((1 : Int64) <<< ((k : Int32).toInt64 &&& 63)) - 1))) ||| (-9223372036854775808))) else (if ((-x) &&& (((1 : Int64) <<< (((nI ((fn_topBit (-x) 63).toNatClampNeg)) - k : Int32).toInt64 &&& 63)) - 1)) = ((1 : Int64) <<< ((((nI ((fn_topBit (-x) 63).toNatClampNeg)) - k) - 1 : Int32).toInt64 &&& 63)) then (if ((((-x).toUInt64 >>> (((nI ((fn_topBit (-x) 63).toNatClampNeg)) - k : Int32).toInt64.toUInt64 &&& Int64.toUInt64 63)).toInt64) &&& 1) = 1 then (if ((((((-x).toUInt64 >>> (((nI ((fn_topBit (-x) 63).toNatClampNeg)) - k : Int32).toInt64.toUInt64 &&& Int64.toUInt64 63)).toInt64) + 1).toUInt64 >>> ((k + 1 : Int32).toInt64.toUInt64 &&& Int64.toUInt64 63)).toInt64) = 1 then (if k = 23 then ((((((((nI ((fn_topBit (-x) 63).toNatClampNeg)).toInt64) + 1) + j.toInt64 : Int64) <<< ((k : Int32).toInt64 &&& 63)) ||| (((((((-x).toUInt64 >>> (((nI ((fn_topBit (-x) 63).toNatClampNeg)) - k : Int32).toInt64.toUInt64 &&& Int64.toUInt64 63)).toInt64) + 1).toUInt64 >>> ((1 : Int32).toInt64.toUInt64 &&& Int64.toUInt64 63)).toInt64) &&& (((1 : Int64) <<< ((k : Int32).toInt64 &&& 63)) - 1))) ||| 2147483648).toInt32).toInt64 else ((((((nI ((fn_topBit (-x) 63).toNatClampNeg)).toInt64) + 1) + j.toInt64 : Int64) <<< ((k : Int32).toInt64 &&& 63)) ||| (((((((-x).toUInt64 >>> (((nI ((fn_topBit (-x) 63).toNatClampNeg)) - k : Int32).toInt64.toUInt64 &&& Int64.toUInt64 63)).toInt64) + 1).toUInt64 >>> ((1 : Int32).toInt64.toUInt64 &&& Int64.toUInt64 63)).toInt64) &&& (((1 : Int64) <<< ((k : Int32).toInt64 &&& 63)) - 1))) ||| (-9223372036854775808)) else (if k = 23 then (((((((nI ((fn_topBit (-x) 63).toNatClampNeg)).toInt64) + j.toInt64 : Int64) <<< ((k : Int32).toInt64 &&& 63)) ||| (((((-x).toUInt64 >>> (((nI ((fn_topBit (-x) 63).toNatClampNeg)) - k : Int32).toInt64.toUInt64 &&& Int64.toUInt64 63)).toInt64) + 1) &&& (((1 : Int64) <<< ((k : Int32).toInt64 &&& 63)) - 1))) ||| 2147483648).toInt32).toInt64 else (((((nI ((fn_topBit (-x) 63).toNatClampNeg)).toInt64) + j.toInt64 : Int64) <<< ((k : Int32).toInt64 &&& 63)) ||| (((((-x).toUInt64 >>> (((nI ((fn_topBit (-x) 63).toNatClampNeg)) - k : Int32).toInt64.toUInt64 &&& Int64.toUInt64 63)).toInt64) + 1) &&& (((1 : Int64) <<< ((k : Int32).toInt64 &&& 63)) - 1))) ||| (-9223372036854775808))) else (if (((((-x).toUInt64 >>> (((nI ((fn_topBit (-x) 63).toNatClampNeg)) - k : Int32).toInt64.toUInt64 &&& Int64.toUInt64 63)).toInt64).toUInt64 >>> ((k + 1 : Int32).toInt64.toUInt64 &&& Int64.toUInt64 63)).toInt64) = 1 then (if k = 23 then ((((((((nI ((fn_topBit (-x) 63).toNatClampNeg)).toInt64) + 1) + j.toInt64 : Int64) <<< ((k : Int32).toInt64 &&& 63)) ||| ((((((-x).toUInt64 >>> (((nI ((fn_topBit (-x) 63).toNatClampNeg)) - k : Int32).toInt64.toUInt64 &&& Int64.toUInt64 63)).toInt64).toUInt64 >>> ((1 : Int32).toInt64.toUInt64 &&& Int64.toUInt64 63)).toInt64) &&& (((1 : Int64) <<< ((k : Int32).toInt64 &&& 63)) - 1))) ||| 2147483648).toInt32).toInt64 else ((((((nI ((fn_topBit (-x) 63).toNatClampNeg)).toInt64) + 1) + j.toInt64 : Int64) <<< ((k : Int32).toInt64 &&& 63)) ||| ((((((-x).toUInt64 >>> (((nI ((fn_topBit (-x) 63).toNatClampNeg)) - k : Int32).toInt64.toUInt64 &&& Int64.toUInt64 63)).toInt64).toUInt64 >>> ((1 : Int32).toInt64.toUInt64 &&& Int64.toUInt64 63)).toInt64) &&& (((1 : Int64) <<< ((k : Int32).toInt64 &&& 63)) - 1))) ||| (-9223372036854775808)) else (if k = 23 then (((((((nI ((fn_topBit (-x) 63).toNatClampNeg)).toInt64) + j.toInt64 : Int64) <<< ((k : Int32).toInt64 &&& 63)) ||| ((((-x).toUInt64 >>> (((nI ((fn_topBit (-x) 63).toNatClampNeg)) - k : Int32).toInt64.toUInt64 &&& Int64.toUInt64 63)).toInt64) &&& (((1 : Int64) <<< ((k : Int32).toInt64 &&& 63)) - 1))) ||| 2147483648).toInt32).toInt64 else (((((nI ((fn_topBit (-x) 63).toNatClampNeg)).toInt64) + j.toInt64 : Int64) <<< ((k : Int32).toInt64 &&& 63)) ||| ((((-x).toUInt64 >>> (((nI ((fn_topBit (-x) 63).toNatClampNeg)) - k : Int32).toInt64.toUInt64 &&& Int64.toUInt64 63)).toInt64) &&& (((1 : Int64) <<< ((k : Int32).toInt64 &&& 63)) - 1))) ||| (-9223372036854775808)))) else (if (((((-x).toUInt64 >>> (((nI ((fn_topBit (-x) 63).toNatClampNeg)) - k : Int32).toInt64.toUInt64 &&& Int64.toUInt64 63)).toInt64).toUInt64 >>> ((k + 1 : Int32).toInt64.toUInt64 &&& Int64.toUInt64 63)).toInt64) = 1 then (if k = 23 then ((((((((nI ((fn_topBit (-x) 63).toNatClampNeg)).toInt64) + 1) + j.toInt64 : Int64) <<< ((k : Int32).toInt64 &&& 63)) ||| ((((((-x).toUInt64 >>> (((nI ((fn_topBit (-x) 63).toNatClampNeg)) - k : Int32).toInt64.toUInt64 &&& Int64.toUInt64 63)).toInt64).toUInt64 >>> ((1 : Int32).toInt64.toUInt64 &&& Int64.toUInt64 63)).toInt64) &&& (((1 : Int64) <<< ((k : Int32).toInt64 &&& 63)) - 1))) ||| 2147483648).toInt32).toInt64 else ((((((nI ((fn_topBit (-x) 63).toNatClampNeg)).toInt64) + 1) + j.toInt64 : Int64) <<< ((k : Int32).toInt64 &&& 63)) ||| ((((((-x).toUInt64 >>> (((nI ((fn_topBit (-x) 63).toNatClampNeg)) - k : Int32).toInt64.toUInt64 &&& Int64.toUInt64 63)).toInt64).toUInt64 >>> ((1 : Int32).toInt64.toUInt64 &&& Int64.toUInt64 63)).toInt64) &&& (((1 : Int64) <<< ((k : Int32).toInt64 &&& 63)) - 1))) ||| (-9223372036854775808)) else (if k = 23 then (((((((nI ((fn_topBit (-x) 63).toNatClampNeg)).toInt64) + j.toInt64 : Int64) <<< ((k : Int32).toInt64 &&& 63)) ||| ((((-x).toUInt64 >>> (((nI ((fn_topBit (-x) 63).toNatClampNeg)) - k : Int32).toInt64.toUInt64 &&& Int64.toUInt64 63)).toInt64) &&& (((1 : Int64) <<< ((k : Int32).toInt64 &&& 63)) - 1))) ||| 2147483648).toInt32).toInt64 else (((((nI ((fn_topBit (-x) 63).toNatClampNeg)).toInt64) + j.toInt64 : Int64) <<< ((k : Int32).toInt64 &&& 63)) ||| ((((-x).toUInt64 >>> (((nI ((fn_topBit (-x) 63).toNatClampNeg)) - k : Int32).toInt64.toUInt64 &&& Int64.toUInt64 63)).toInt64) &&& (((1 : Int64) <<< ((k : Int32).toInt64 &&& 63)) - 1))) ||| (-9223372036854775808))))) else (if k = 23 then (((((((nI ((fn_topBit (-x) 63).toNatClampNeg)).toInt64) + j.toInt64 : Int64) <<< ((k : Int32).toInt64 &&& 63)) ||| (((-x : Int64) <<< ((k - (nI ((fn_topBit (-x) 63).toNatClampNeg)) : Int32).toInt64 &&& 63)) &&& (((1 : Int64) <<< ((k : Int32).toInt64 &&& 63)) - 1))) ||| 2147483648).toInt32).toInt64 else (((((nI ((fn_topBit (-x) 63).toNatClampNeg)).toInt64) + j.toInt64 : Int64) <<< ((k : Int32).toInt64 &&& 63)) ||| (((-x : Int64) <<< ((k - (nI ((fn_topBit (-x) 63).toNatClampNeg)) : Int32).toInt64 &&& 63)) &&& (((1 : Int64) <<< ((k : Int32).toInt64 &&& 63)) - 1))) ||| (-9223372036854775808)))))
abbrev rm_cm_real : Room := { frames := 0, cells := 0, slots := 0, locals := 0 }
abbrev po_cm_real (g : zz_G) (x : Int64) (k : Int32) (j : Int32) : Int64 → va_W → Prop := fun (r : Int64) (u : va_W) => r = fn_cm_real x k j ∧ u = []
set_option maxHeartbeats 4000000 in
set_option maxRecDepth 100000 in
theorem cm_real (g : zz_G) (x : Int64) (k : Int32) (j : Int32) : zz_L g yX8_real (.code yX8_real cX8_real 17 (some .long)) rm_cm_real [.long x, .int k, .int j] [] (po_cm_real g x k j) := by
  refine zz_L.intro (own := RX8) (cc := cX8_real) (nL := 17) (by decide) rfl (Nat.le_of_ble_eq_true rfl) ?_
  intro p l e s m args below meth c A H locs ls hC hnm hs hZ hl
  obtain ⟨hx, hb, hml, hown, hts, hr, hlocks, hK⟩ := id hC
  have hl : lv_has ls 17 [(0, .long x), (2, .int k), (3, .int j)] := hl
  have hZ : zz_Z g A s.heap [] H locs := hZ
  refine lv_lload_n hx hb dX8_real_0 rfl (lv_at hl 0 rfl) ?_
  refine lv_lconst (v := 0) hx hb dX8_real_1 (by decide) ?_
  refine zz_lcmp_ne (tgt := 8) hC dX8_real_2 dX8_real_3 (by decide) (fun c1 => ?_) (fun c1 => ?_)
  · refine lv_lload_n hx hb dX8_real_8 rfl (lv_at hl 0 rfl) ?_
    refine lv_lconst (v := 0) hx hb dX8_real_9 (by decide) ?_
    refine zz_lcmp_ge (tgt := 18) hC dX8_real_10 dX8_real_11 (by decide) (fun c2 => ?_) (fun c2 => ?_)
    · refine lv_iconst (v := 0) hx hb dX8_real_18 (by decide) ?_
      refine lv_istore (lv' := [(4, .int 0), (0, .long x), (2, .int k), (3, .int j)]) hx hb dX8_real_19 hl (by decide) rfl (fun ls hl => ?_)
      refine lv_iload hx hb dX8_real_21 (lv_at hl 0 rfl) ?_
      refine lv_if_eq (tgt := 31) hx hb dX8_real_23 (by decide) (fun c3 => ?_) (fun c => absurd (by decide) c)
      refine lv_lload_n hx hb dX8_real_31 rfl (lv_at hl 1 rfl) ?_
      refine lv_lstore (lv' := [(5, .long x), (4, .int 0), (0, .long x), (2, .int k), (3, .int j)]) hx hb dX8_real_32 hl (by decide) rfl (fun ls hl => ?_)
      refine lv_bipush (v := 63) hx hb dX8_real_34 (by decide) ?_
      refine lv_istore (lv' := [(7, .int 63), (5, .long x), (4, .int 0), (0, .long x), (2, .int k), (3, .int j)]) hx hb dX8_real_36 hl (by decide) rfl (fun ls hl => ?_)
      have LP4 : ∀ (N : Nat) (n : Nat) (H : Heap) (locs : List Loc) (ls : Array Slot), (n ≤ 63) → (x.toUInt64.toNat < 2 ^ (n + 1)) → (fn_topBit x 63 = fn_topBit x n) → n < N → zz_Z g A s.heap [] H locs → lv_has ls 17 [(7, .int (nI n)), (5, .long x), (4, .int 0), (0, .long x), (2, .int k), (3, .int j)] → W p l e rm_cm_real s m args below meth c H locs 0 0 (zz_QL below g args s A rm_cm_real.cells rm_cm_real.slots (po_cm_real g x k j)) (F0 m 38 ls []) := by
        intro N
        induction N with
        | zero =>
          intro n H locs ls hn6 hlt he hN
          exact absurd hN (Nat.not_lt_zero _)
        | succ N ih =>
          intro n H locs ls hn6 hlt he hN hZ hl
          refine lv_lload hx hb dX8_real_38 (lv_at hl 1 rfl) ?_
          refine lv_iload hx hb dX8_real_40 (lv_at hl 0 rfl) ?_
          refine lv_lushr hx hb dX8_real_42 rfl ?_
          refine lv_lconst (v := 1) hx hb dX8_real_43 (by decide) ?_
          refine lv_land hx hb dX8_real_44 ?_
          refine lv_lconst (v := 0) hx hb dX8_real_45 (by decide) ?_
          refine zz_lcmp_ne (tgt := 56) hC dX8_real_46 dX8_real_47 (by decide) (fun c5 => ?_) (fun c5 => ?_)
          · have d_n : (fn_topBit x 63).toNatClampNeg = n := zl_tbE hn6 he c5
            refine lv_iload hx hb dX8_real_56 (lv_at hl 0 rfl) ?_
            refine lv_i2l hx hb dX8_real_58 rfl ?_
            refine lv_lstore (lv' := [(10, .long ((nI n).toInt64)), (7, .int (nI n)), (5, .long x), (4, .int 0), (0, .long x), (2, .int k), (3, .int j)]) hx hb dX8_real_59 hl (by decide) rfl (fun ls hl => ?_)
            refine lv_iload hx hb dX8_real_61 (lv_at hl 1 rfl) ?_
            refine lv_iload_n hx hb dX8_real_63 rfl (lv_at hl 5 rfl) ?_
            refine lv_icmp_gt (tgt := 79) hx hb dX8_real_64 (by decide) (fun c6 => ?_) (fun c6 => ?_)
            · refine lv_iload hx hb dX8_real_79 (lv_at hl 1 rfl) ?_
              refine lv_iload_n hx hb dX8_real_81 rfl (lv_at hl 5 rfl) ?_
              refine lv_isub hx hb dX8_real_82 ?_
              refine lv_istore (lv' := [(12, .int ((nI n) - k)), (10, .long ((nI n).toInt64)), (7, .int (nI n)), (5, .long x), (4, .int 0), (0, .long x), (2, .int k), (3, .int j)]) hx hb dX8_real_83 hl (by decide) rfl (fun ls hl => ?_)
              refine lv_lload hx hb dX8_real_85 (lv_at hl 3 rfl) ?_
              refine lv_iload hx hb dX8_real_87 (lv_at hl 0 rfl) ?_
              refine lv_lushr hx hb dX8_real_89 rfl ?_
              refine lv_lstore (lv' := [(8, .long ((x.toUInt64 >>> (((nI n) - k : Int32).toInt64.toUInt64 &&& Int64.toUInt64 63)).toInt64)), (12, .int ((nI n) - k)), (10, .long ((nI n).toInt64)), (7, .int (nI n)), (5, .long x), (4, .int 0), (0, .long x), (2, .int k), (3, .int j)]) hx hb dX8_real_90 hl (by decide) rfl (fun ls hl => ?_)
              refine lv_lload hx hb dX8_real_92 (lv_at hl 4 rfl) ?_
              refine lv_lconst (v := 1) hx hb dX8_real_94 (by decide) ?_
              refine lv_iload hx hb dX8_real_95 (lv_at hl 1 rfl) ?_
              refine lv_lshl hx hb dX8_real_97 rfl ?_
              refine lv_lconst (v := 1) hx hb dX8_real_98 (by decide) ?_
              refine lv_lsub hx hb dX8_real_99 ?_
              refine lv_land hx hb dX8_real_100 ?_
              refine lv_lstore (lv' := [(13, .long (x &&& (((1 : Int64) <<< (((nI n) - k : Int32).toInt64 &&& 63)) - 1))), (8, .long ((x.toUInt64 >>> (((nI n) - k : Int32).toInt64.toUInt64 &&& Int64.toUInt64 63)).toInt64)), (12, .int ((nI n) - k)), (10, .long ((nI n).toInt64)), (7, .int (nI n)), (5, .long x), (4, .int 0), (0, .long x), (2, .int k), (3, .int j)]) hx hb dX8_real_101 hl (by decide) rfl (fun ls hl => ?_)
              refine lv_lconst (v := 1) hx hb dX8_real_103 (by decide) ?_
              refine lv_iload hx hb dX8_real_104 (lv_at hl 2 rfl) ?_
              refine lv_iconst (v := 1) hx hb dX8_real_106 (by decide) ?_
              refine lv_isub hx hb dX8_real_107 ?_
              refine lv_lshl hx hb dX8_real_108 rfl ?_
              refine lv_lstore (lv' := [(15, .long ((1 : Int64) <<< ((((nI n) - k) - 1 : Int32).toInt64 &&& 63))), (13, .long (x &&& (((1 : Int64) <<< (((nI n) - k : Int32).toInt64 &&& 63)) - 1))), (8, .long ((x.toUInt64 >>> (((nI n) - k : Int32).toInt64.toUInt64 &&& Int64.toUInt64 63)).toInt64)), (12, .int ((nI n) - k)), (10, .long ((nI n).toInt64)), (7, .int (nI n)), (5, .long x), (4, .int 0), (0, .long x), (2, .int k), (3, .int j)]) hx hb dX8_real_109 hl (by decide) rfl (fun ls hl => ?_)
              refine lv_lload hx hb dX8_real_111 (lv_at hl 1 rfl) ?_
              refine lv_lload hx hb dX8_real_113 (lv_at hl 0 rfl) ?_
              refine zz_lcmp_gt (tgt := 136) hC dX8_real_115 dX8_real_116 (by decide) (fun c7 => ?_) (fun c7 => ?_)
              · refine lv_lload hx hb dX8_real_136 (lv_at hl 2 rfl) ?_
                refine lv_lconst (v := 1) hx hb dX8_real_138 (by decide) ?_
                refine lv_ladd hx hb dX8_real_139 ?_
                refine lv_lstore (lv' := [(8, .long (((x.toUInt64 >>> (((nI n) - k : Int32).toInt64.toUInt64 &&& Int64.toUInt64 63)).toInt64) + 1)), (15, .long ((1 : Int64) <<< ((((nI n) - k) - 1 : Int32).toInt64 &&& 63))), (13, .long (x &&& (((1 : Int64) <<< (((nI n) - k : Int32).toInt64 &&& 63)) - 1))), (12, .int ((nI n) - k)), (10, .long ((nI n).toInt64)), (7, .int (nI n)), (5, .long x), (4, .int 0), (0, .long x), (2, .int k), (3, .int j)]) hx hb dX8_real_140 hl (by decide) rfl (fun ls hl => ?_)
                refine lv_lload hx hb dX8_real_142 (lv_at hl 0 rfl) ?_
                refine lv_iload_n hx hb dX8_real_144 rfl (lv_at hl 9 rfl) ?_
                refine lv_iconst (v := 1) hx hb dX8_real_145 (by decide) ?_
                refine lv_iadd hx hb dX8_real_146 ?_
                refine lv_lushr hx hb dX8_real_147 rfl ?_
                refine lv_lconst (v := 1) hx hb dX8_real_148 (by decide) ?_
                refine zz_lcmp_ne (tgt := 165) hC dX8_real_149 dX8_real_150 (by decide) (fun c8 => ?_) (fun c8 => ?_)
                · refine lv_lload hx hb dX8_real_165 (lv_at hl 4 rfl) ?_
                  refine lv_iload_n hx hb dX8_real_167 rfl (lv_at hl 10 rfl) ?_
                  refine lv_i2l hx hb dX8_real_168 rfl ?_
                  refine lv_ladd hx hb dX8_real_169 ?_
                  refine lv_iload_n hx hb dX8_real_170 rfl (lv_at hl 9 rfl) ?_
                  refine lv_lshl hx hb dX8_real_171 rfl ?_
                  refine lv_lload hx hb dX8_real_172 (lv_at hl 0 rfl) ?_
                  refine lv_lconst (v := 1) hx hb dX8_real_174 (by decide) ?_
                  refine lv_iload_n hx hb dX8_real_175 rfl (lv_at hl 9 rfl) ?_
                  refine lv_lshl hx hb dX8_real_176 rfl ?_
                  refine lv_lconst (v := 1) hx hb dX8_real_177 (by decide) ?_
                  refine lv_lsub hx hb dX8_real_178 ?_
                  refine lv_land hx hb dX8_real_179 ?_
                  refine lv_lor hx hb dX8_real_180 ?_
                  refine lv_lstore (lv' := [(12, .long (((((nI n).toInt64) + j.toInt64 : Int64) <<< ((k : Int32).toInt64 &&& 63)) ||| ((((x.toUInt64 >>> (((nI n) - k : Int32).toInt64.toUInt64 &&& Int64.toUInt64 63)).toInt64) + 1) &&& (((1 : Int64) <<< ((k : Int32).toInt64 &&& 63)) - 1)))), (8, .long (((x.toUInt64 >>> (((nI n) - k : Int32).toInt64.toUInt64 &&& Int64.toUInt64 63)).toInt64) + 1)), (15, .long ((1 : Int64) <<< ((((nI n) - k) - 1 : Int32).toInt64 &&& 63))), (10, .long ((nI n).toInt64)), (7, .int (nI n)), (5, .long x), (4, .int 0), (0, .long x), (2, .int k), (3, .int j)]) hx hb dX8_real_181 hl (by decide) rfl (fun ls hl => ?_)
                  refine lv_iload_n hx hb dX8_real_183 rfl (lv_at hl 8 rfl) ?_
                  refine lv_bipush (v := 23) hx hb dX8_real_184 (by decide) ?_
                  refine lv_icmp_ne (tgt := 210) hx hb dX8_real_186 (by decide) (fun c9 => ?_) (fun c9 => ?_)
                  · refine lv_iload hx hb dX8_real_210 (lv_at hl 6 rfl) ?_
                    refine lv_if_eq (tgt := 224) hx hb dX8_real_212 (by decide) (fun c10 => ?_) (fun c => absurd (by decide) c)
                    refine lv_lload hx hb dX8_real_224 (lv_at hl 0 rfl) ?_
                    exact zz_lret hC hZ (⟨by refine Eq.symm ?_; rw [fn_cm_real]; refine (if_neg (by (try simp only [d_n]); exact c1)).trans ?_; refine (if_pos (by (try simp only [d_n]); exact c2)).trans ?_; refine (if_pos (by (try simp only [d_n]); exact c6)).trans ?_; refine (if_pos (by (try simp only [d_n]); exact c7)).trans ?_; refine (if_neg (by (try simp only [d_n]); exact c8)).trans ?_; first | (simp only [d_n]; done) | rfl, rfl⟩) (Nat.le_of_ble_eq_true rfl) (Nat.le_of_ble_eq_true rfl) dX8_real_226
                  · refine lv_iload hx hb dX8_real_189 (lv_at hl 6 rfl) ?_
                    refine lv_if_eq (tgt := 205) hx hb dX8_real_191 (by decide) (fun c11 => ?_) (fun c => absurd (by decide) c)
                    refine lv_lload hx hb dX8_real_205 (lv_at hl 0 rfl) ?_
                    refine lv_goto (tgt := 226) hx hb dX8_real_207 (by decide) ?_
                    exact zz_lret hC hZ (⟨by refine Eq.symm ?_; rw [fn_cm_real]; refine (if_neg (by (try simp only [d_n]); exact c1)).trans ?_; refine (if_pos (by (try simp only [d_n]); exact c2)).trans ?_; refine (if_pos (by (try simp only [d_n]); exact c6)).trans ?_; refine (if_pos (by (try simp only [d_n]); exact c7)).trans ?_; refine (if_neg (by (try simp only [d_n]); exact c8)).trans ?_; first | (simp only [d_n]; done) | rfl, rfl⟩) (Nat.le_of_ble_eq_true rfl) (Nat.le_of_ble_eq_true rfl) dX8_real_226
                · refine lv_lload hx hb dX8_real_153 (lv_at hl 0 rfl) ?_
                  refine lv_iconst (v := 1) hx hb dX8_real_155 (by decide) ?_
                  refine lv_lushr hx hb dX8_real_156 rfl ?_
                  refine lv_lstore (lv' := [(8, .long (((((x.toUInt64 >>> (((nI n) - k : Int32).toInt64.toUInt64 &&& Int64.toUInt64 63)).toInt64) + 1).toUInt64 >>> ((1 : Int32).toInt64.toUInt64 &&& Int64.toUInt64 63)).toInt64)), (15, .long ((1 : Int64) <<< ((((nI n) - k) - 1 : Int32).toInt64 &&& 63))), (13, .long (x &&& (((1 : Int64) <<< (((nI n) - k : Int32).toInt64 &&& 63)) - 1))), (12, .int ((nI n) - k)), (10, .long ((nI n).toInt64)), (7, .int (nI n)), (5, .long x), (4, .int 0), (0, .long x), (2, .int k), (3, .int j)]) hx hb dX8_real_157 hl (by decide) rfl (fun ls hl => ?_)
                  refine lv_lload hx hb dX8_real_159 (lv_at hl 4 rfl) ?_
                  refine lv_lconst (v := 1) hx hb dX8_real_161 (by decide) ?_
                  refine lv_ladd hx hb dX8_real_162 ?_
                  refine lv_lstore (lv' := [(10, .long (((nI n).toInt64) + 1)), (8, .long (((((x.toUInt64 >>> (((nI n) - k : Int32).toInt64.toUInt64 &&& Int64.toUInt64 63)).toInt64) + 1).toUInt64 >>> ((1 : Int32).toInt64.toUInt64 &&& Int64.toUInt64 63)).toInt64)), (15, .long ((1 : Int64) <<< ((((nI n) - k) - 1 : Int32).toInt64 &&& 63))), (13, .long (x &&& (((1 : Int64) <<< (((nI n) - k : Int32).toInt64 &&& 63)) - 1))), (12, .int ((nI n) - k)), (7, .int (nI n)), (5, .long x), (4, .int 0), (0, .long x), (2, .int k), (3, .int j)]) hx hb dX8_real_163 hl (by decide) rfl (fun ls hl => ?_)
                  refine lv_lload hx hb dX8_real_165 (lv_at hl 0 rfl) ?_
                  refine lv_iload_n hx hb dX8_real_167 rfl (lv_at hl 10 rfl) ?_
                  refine lv_i2l hx hb dX8_real_168 rfl ?_
                  refine lv_ladd hx hb dX8_real_169 ?_
                  refine lv_iload_n hx hb dX8_real_170 rfl (lv_at hl 9 rfl) ?_
                  refine lv_lshl hx hb dX8_real_171 rfl ?_
                  refine lv_lload hx hb dX8_real_172 (lv_at hl 1 rfl) ?_
                  refine lv_lconst (v := 1) hx hb dX8_real_174 (by decide) ?_
                  refine lv_iload_n hx hb dX8_real_175 rfl (lv_at hl 9 rfl) ?_
                  refine lv_lshl hx hb dX8_real_176 rfl ?_
                  refine lv_lconst (v := 1) hx hb dX8_real_177 (by decide) ?_
                  refine lv_lsub hx hb dX8_real_178 ?_
                  refine lv_land hx hb dX8_real_179 ?_
                  refine lv_lor hx hb dX8_real_180 ?_
                  refine lv_lstore (lv' := [(12, .long ((((((nI n).toInt64) + 1) + j.toInt64 : Int64) <<< ((k : Int32).toInt64 &&& 63)) ||| ((((((x.toUInt64 >>> (((nI n) - k : Int32).toInt64.toUInt64 &&& Int64.toUInt64 63)).toInt64) + 1).toUInt64 >>> ((1 : Int32).toInt64.toUInt64 &&& Int64.toUInt64 63)).toInt64) &&& (((1 : Int64) <<< ((k : Int32).toInt64 &&& 63)) - 1)))), (10, .long (((nI n).toInt64) + 1)), (8, .long (((((x.toUInt64 >>> (((nI n) - k : Int32).toInt64.toUInt64 &&& Int64.toUInt64 63)).toInt64) + 1).toUInt64 >>> ((1 : Int32).toInt64.toUInt64 &&& Int64.toUInt64 63)).toInt64)), (15, .long ((1 : Int64) <<< ((((nI n) - k) - 1 : Int32).toInt64 &&& 63))), (7, .int (nI n)), (5, .long x), (4, .int 0), (0, .long x), (2, .int k), (3, .int j)]) hx hb dX8_real_181 hl (by decide) rfl (fun ls hl => ?_)
                  refine lv_iload_n hx hb dX8_real_183 rfl (lv_at hl 8 rfl) ?_
                  refine lv_bipush (v := 23) hx hb dX8_real_184 (by decide) ?_
                  refine lv_icmp_ne (tgt := 210) hx hb dX8_real_186 (by decide) (fun c12 => ?_) (fun c12 => ?_)
                  · refine lv_iload hx hb dX8_real_210 (lv_at hl 6 rfl) ?_
                    refine lv_if_eq (tgt := 224) hx hb dX8_real_212 (by decide) (fun c13 => ?_) (fun c => absurd (by decide) c)
                    refine lv_lload hx hb dX8_real_224 (lv_at hl 0 rfl) ?_
                    exact zz_lret hC hZ (⟨by refine Eq.symm ?_; rw [fn_cm_real]; refine (if_neg (by (try simp only [d_n]); exact c1)).trans ?_; refine (if_pos (by (try simp only [d_n]); exact c2)).trans ?_; refine (if_pos (by (try simp only [d_n]); exact c6)).trans ?_; refine (if_pos (by (try simp only [d_n]); exact c7)).trans ?_; refine (if_pos (by (try simp only [d_n]); exact c8)).trans ?_; first | (simp only [d_n]; done) | rfl, rfl⟩) (Nat.le_of_ble_eq_true rfl) (Nat.le_of_ble_eq_true rfl) dX8_real_226
                  · refine lv_iload hx hb dX8_real_189 (lv_at hl 6 rfl) ?_
                    refine lv_if_eq (tgt := 205) hx hb dX8_real_191 (by decide) (fun c14 => ?_) (fun c => absurd (by decide) c)
                    refine lv_lload hx hb dX8_real_205 (lv_at hl 0 rfl) ?_
                    refine lv_goto (tgt := 226) hx hb dX8_real_207 (by decide) ?_
                    exact zz_lret hC hZ (⟨by refine Eq.symm ?_; rw [fn_cm_real]; refine (if_neg (by (try simp only [d_n]); exact c1)).trans ?_; refine (if_pos (by (try simp only [d_n]); exact c2)).trans ?_; refine (if_pos (by (try simp only [d_n]); exact c6)).trans ?_; refine (if_pos (by (try simp only [d_n]); exact c7)).trans ?_; refine (if_pos (by (try simp only [d_n]); exact c8)).trans ?_; first | (simp only [d_n]; done) | rfl, rfl⟩) (Nat.le_of_ble_eq_true rfl) (Nat.le_of_ble_eq_true rfl) dX8_real_226
              · refine lv_lload hx hb dX8_real_119 (lv_at hl 1 rfl) ?_
                refine lv_lload hx hb dX8_real_121 (lv_at hl 0 rfl) ?_
                refine zz_lcmp_ne (tgt := 142) hC dX8_real_123 dX8_real_124 (by decide) (fun c15 => ?_) (fun c15 => ?_)
                · refine lv_lload hx hb dX8_real_142 (lv_at hl 2 rfl) ?_
                  refine lv_iload_n hx hb dX8_real_144 rfl (lv_at hl 9 rfl) ?_
                  refine lv_iconst (v := 1) hx hb dX8_real_145 (by decide) ?_
                  refine lv_iadd hx hb dX8_real_146 ?_
                  refine lv_lushr hx hb dX8_real_147 rfl ?_
                  refine lv_lconst (v := 1) hx hb dX8_real_148 (by decide) ?_
                  refine zz_lcmp_ne (tgt := 165) hC dX8_real_149 dX8_real_150 (by decide) (fun c16 => ?_) (fun c16 => ?_)
                  · refine lv_lload hx hb dX8_real_165 (lv_at hl 4 rfl) ?_
                    refine lv_iload_n hx hb dX8_real_167 rfl (lv_at hl 10 rfl) ?_
                    refine lv_i2l hx hb dX8_real_168 rfl ?_
                    refine lv_ladd hx hb dX8_real_169 ?_
                    refine lv_iload_n hx hb dX8_real_170 rfl (lv_at hl 9 rfl) ?_
                    refine lv_lshl hx hb dX8_real_171 rfl ?_
                    refine lv_lload hx hb dX8_real_172 (lv_at hl 2 rfl) ?_
                    refine lv_lconst (v := 1) hx hb dX8_real_174 (by decide) ?_
                    refine lv_iload_n hx hb dX8_real_175 rfl (lv_at hl 9 rfl) ?_
                    refine lv_lshl hx hb dX8_real_176 rfl ?_
                    refine lv_lconst (v := 1) hx hb dX8_real_177 (by decide) ?_
                    refine lv_lsub hx hb dX8_real_178 ?_
                    refine lv_land hx hb dX8_real_179 ?_
                    refine lv_lor hx hb dX8_real_180 ?_
                    refine lv_lstore (lv' := [(12, .long (((((nI n).toInt64) + j.toInt64 : Int64) <<< ((k : Int32).toInt64 &&& 63)) ||| (((x.toUInt64 >>> (((nI n) - k : Int32).toInt64.toUInt64 &&& Int64.toUInt64 63)).toInt64) &&& (((1 : Int64) <<< ((k : Int32).toInt64 &&& 63)) - 1)))), (15, .long ((1 : Int64) <<< ((((nI n) - k) - 1 : Int32).toInt64 &&& 63))), (8, .long ((x.toUInt64 >>> (((nI n) - k : Int32).toInt64.toUInt64 &&& Int64.toUInt64 63)).toInt64)), (10, .long ((nI n).toInt64)), (7, .int (nI n)), (5, .long x), (4, .int 0), (0, .long x), (2, .int k), (3, .int j)]) hx hb dX8_real_181 hl (by decide) rfl (fun ls hl => ?_)
                    refine lv_iload_n hx hb dX8_real_183 rfl (lv_at hl 8 rfl) ?_
                    refine lv_bipush (v := 23) hx hb dX8_real_184 (by decide) ?_
                    refine lv_icmp_ne (tgt := 210) hx hb dX8_real_186 (by decide) (fun c17 => ?_) (fun c17 => ?_)
                    · refine lv_iload hx hb dX8_real_210 (lv_at hl 6 rfl) ?_
                      refine lv_if_eq (tgt := 224) hx hb dX8_real_212 (by decide) (fun c18 => ?_) (fun c => absurd (by decide) c)
                      refine lv_lload hx hb dX8_real_224 (lv_at hl 0 rfl) ?_
                      exact zz_lret hC hZ (⟨by refine Eq.symm ?_; rw [fn_cm_real]; refine (if_neg (by (try simp only [d_n]); exact c1)).trans ?_; refine (if_pos (by (try simp only [d_n]); exact c2)).trans ?_; refine (if_pos (by (try simp only [d_n]); exact c6)).trans ?_; refine (if_neg (by (try simp only [d_n]); exact c7)).trans ?_; refine (if_neg (by (try simp only [d_n]); exact c15)).trans ?_; refine (if_neg (by (try simp only [d_n]); exact c16)).trans ?_; first | (simp only [d_n]; done) | rfl, rfl⟩) (Nat.le_of_ble_eq_true rfl) (Nat.le_of_ble_eq_true rfl) dX8_real_226
                    · refine lv_iload hx hb dX8_real_189 (lv_at hl 6 rfl) ?_
                      refine lv_if_eq (tgt := 205) hx hb dX8_real_191 (by decide) (fun c19 => ?_) (fun c => absurd (by decide) c)
                      refine lv_lload hx hb dX8_real_205 (lv_at hl 0 rfl) ?_
                      refine lv_goto (tgt := 226) hx hb dX8_real_207 (by decide) ?_
                      exact zz_lret hC hZ (⟨by refine Eq.symm ?_; rw [fn_cm_real]; refine (if_neg (by (try simp only [d_n]); exact c1)).trans ?_; refine (if_pos (by (try simp only [d_n]); exact c2)).trans ?_; refine (if_pos (by (try simp only [d_n]); exact c6)).trans ?_; refine (if_neg (by (try simp only [d_n]); exact c7)).trans ?_; refine (if_neg (by (try simp only [d_n]); exact c15)).trans ?_; refine (if_neg (by (try simp only [d_n]); exact c16)).trans ?_; first | (simp only [d_n]; done) | rfl, rfl⟩) (Nat.le_of_ble_eq_true rfl) (Nat.le_of_ble_eq_true rfl) dX8_real_226
                  · refine lv_lload hx hb dX8_real_153 (lv_at hl 2 rfl) ?_
                    refine lv_iconst (v := 1) hx hb dX8_real_155 (by decide) ?_
                    refine lv_lushr hx hb dX8_real_156 rfl ?_
                    refine lv_lstore (lv' := [(8, .long ((((x.toUInt64 >>> (((nI n) - k : Int32).toInt64.toUInt64 &&& Int64.toUInt64 63)).toInt64).toUInt64 >>> ((1 : Int32).toInt64.toUInt64 &&& Int64.toUInt64 63)).toInt64)), (15, .long ((1 : Int64) <<< ((((nI n) - k) - 1 : Int32).toInt64 &&& 63))), (13, .long (x &&& (((1 : Int64) <<< (((nI n) - k : Int32).toInt64 &&& 63)) - 1))), (12, .int ((nI n) - k)), (10, .long ((nI n).toInt64)), (7, .int (nI n)), (5, .long x), (4, .int 0), (0, .long x), (2, .int k), (3, .int j)]) hx hb dX8_real_157 hl (by decide) rfl (fun ls hl => ?_)
                    refine lv_lload hx hb dX8_real_159 (lv_at hl 4 rfl) ?_
                    refine lv_lconst (v := 1) hx hb dX8_real_161 (by decide) ?_
                    refine lv_ladd hx hb dX8_real_162 ?_
                    refine lv_lstore (lv' := [(10, .long (((nI n).toInt64) + 1)), (8, .long ((((x.toUInt64 >>> (((nI n) - k : Int32).toInt64.toUInt64 &&& Int64.toUInt64 63)).toInt64).toUInt64 >>> ((1 : Int32).toInt64.toUInt64 &&& Int64.toUInt64 63)).toInt64)), (15, .long ((1 : Int64) <<< ((((nI n) - k) - 1 : Int32).toInt64 &&& 63))), (13, .long (x &&& (((1 : Int64) <<< (((nI n) - k : Int32).toInt64 &&& 63)) - 1))), (12, .int ((nI n) - k)), (7, .int (nI n)), (5, .long x), (4, .int 0), (0, .long x), (2, .int k), (3, .int j)]) hx hb dX8_real_163 hl (by decide) rfl (fun ls hl => ?_)
                    refine lv_lload hx hb dX8_real_165 (lv_at hl 0 rfl) ?_
                    refine lv_iload_n hx hb dX8_real_167 rfl (lv_at hl 10 rfl) ?_
                    refine lv_i2l hx hb dX8_real_168 rfl ?_
                    refine lv_ladd hx hb dX8_real_169 ?_
                    refine lv_iload_n hx hb dX8_real_170 rfl (lv_at hl 9 rfl) ?_
                    refine lv_lshl hx hb dX8_real_171 rfl ?_
                    refine lv_lload hx hb dX8_real_172 (lv_at hl 1 rfl) ?_
                    refine lv_lconst (v := 1) hx hb dX8_real_174 (by decide) ?_
                    refine lv_iload_n hx hb dX8_real_175 rfl (lv_at hl 9 rfl) ?_
                    refine lv_lshl hx hb dX8_real_176 rfl ?_
                    refine lv_lconst (v := 1) hx hb dX8_real_177 (by decide) ?_
                    refine lv_lsub hx hb dX8_real_178 ?_
                    refine lv_land hx hb dX8_real_179 ?_
                    refine lv_lor hx hb dX8_real_180 ?_
                    refine lv_lstore (lv' := [(12, .long ((((((nI n).toInt64) + 1) + j.toInt64 : Int64) <<< ((k : Int32).toInt64 &&& 63)) ||| (((((x.toUInt64 >>> (((nI n) - k : Int32).toInt64.toUInt64 &&& Int64.toUInt64 63)).toInt64).toUInt64 >>> ((1 : Int32).toInt64.toUInt64 &&& Int64.toUInt64 63)).toInt64) &&& (((1 : Int64) <<< ((k : Int32).toInt64 &&& 63)) - 1)))), (10, .long (((nI n).toInt64) + 1)), (8, .long ((((x.toUInt64 >>> (((nI n) - k : Int32).toInt64.toUInt64 &&& Int64.toUInt64 63)).toInt64).toUInt64 >>> ((1 : Int32).toInt64.toUInt64 &&& Int64.toUInt64 63)).toInt64)), (15, .long ((1 : Int64) <<< ((((nI n) - k) - 1 : Int32).toInt64 &&& 63))), (7, .int (nI n)), (5, .long x), (4, .int 0), (0, .long x), (2, .int k), (3, .int j)]) hx hb dX8_real_181 hl (by decide) rfl (fun ls hl => ?_)
                    refine lv_iload_n hx hb dX8_real_183 rfl (lv_at hl 8 rfl) ?_
                    refine lv_bipush (v := 23) hx hb dX8_real_184 (by decide) ?_
                    refine lv_icmp_ne (tgt := 210) hx hb dX8_real_186 (by decide) (fun c20 => ?_) (fun c20 => ?_)
                    · refine lv_iload hx hb dX8_real_210 (lv_at hl 6 rfl) ?_
                      refine lv_if_eq (tgt := 224) hx hb dX8_real_212 (by decide) (fun c21 => ?_) (fun c => absurd (by decide) c)
                      refine lv_lload hx hb dX8_real_224 (lv_at hl 0 rfl) ?_
                      exact zz_lret hC hZ (⟨by refine Eq.symm ?_; rw [fn_cm_real]; refine (if_neg (by (try simp only [d_n]); exact c1)).trans ?_; refine (if_pos (by (try simp only [d_n]); exact c2)).trans ?_; refine (if_pos (by (try simp only [d_n]); exact c6)).trans ?_; refine (if_neg (by (try simp only [d_n]); exact c7)).trans ?_; refine (if_neg (by (try simp only [d_n]); exact c15)).trans ?_; refine (if_pos (by (try simp only [d_n]); exact c16)).trans ?_; first | (simp only [d_n]; done) | rfl, rfl⟩) (Nat.le_of_ble_eq_true rfl) (Nat.le_of_ble_eq_true rfl) dX8_real_226
                    · refine lv_iload hx hb dX8_real_189 (lv_at hl 6 rfl) ?_
                      refine lv_if_eq (tgt := 205) hx hb dX8_real_191 (by decide) (fun c22 => ?_) (fun c => absurd (by decide) c)
                      refine lv_lload hx hb dX8_real_205 (lv_at hl 0 rfl) ?_
                      refine lv_goto (tgt := 226) hx hb dX8_real_207 (by decide) ?_
                      exact zz_lret hC hZ (⟨by refine Eq.symm ?_; rw [fn_cm_real]; refine (if_neg (by (try simp only [d_n]); exact c1)).trans ?_; refine (if_pos (by (try simp only [d_n]); exact c2)).trans ?_; refine (if_pos (by (try simp only [d_n]); exact c6)).trans ?_; refine (if_neg (by (try simp only [d_n]); exact c7)).trans ?_; refine (if_neg (by (try simp only [d_n]); exact c15)).trans ?_; refine (if_pos (by (try simp only [d_n]); exact c16)).trans ?_; first | (simp only [d_n]; done) | rfl, rfl⟩) (Nat.le_of_ble_eq_true rfl) (Nat.le_of_ble_eq_true rfl) dX8_real_226
                · refine lv_lload hx hb dX8_real_127 (lv_at hl 2 rfl) ?_
                  refine lv_lconst (v := 1) hx hb dX8_real_129 (by decide) ?_
                  refine lv_land hx hb dX8_real_130 ?_
                  refine lv_lconst (v := 1) hx hb dX8_real_131 (by decide) ?_
                  refine zz_lcmp_ne (tgt := 142) hC dX8_real_132 dX8_real_133 (by decide) (fun c23 => ?_) (fun c23 => ?_)
                  · refine lv_lload hx hb dX8_real_142 (lv_at hl 2 rfl) ?_
                    refine lv_iload_n hx hb dX8_real_144 rfl (lv_at hl 9 rfl) ?_
                    refine lv_iconst (v := 1) hx hb dX8_real_145 (by decide) ?_
                    refine lv_iadd hx hb dX8_real_146 ?_
                    refine lv_lushr hx hb dX8_real_147 rfl ?_
                    refine lv_lconst (v := 1) hx hb dX8_real_148 (by decide) ?_
                    refine zz_lcmp_ne (tgt := 165) hC dX8_real_149 dX8_real_150 (by decide) (fun c24 => ?_) (fun c24 => ?_)
                    · refine lv_lload hx hb dX8_real_165 (lv_at hl 4 rfl) ?_
                      refine lv_iload_n hx hb dX8_real_167 rfl (lv_at hl 10 rfl) ?_
                      refine lv_i2l hx hb dX8_real_168 rfl ?_
                      refine lv_ladd hx hb dX8_real_169 ?_
                      refine lv_iload_n hx hb dX8_real_170 rfl (lv_at hl 9 rfl) ?_
                      refine lv_lshl hx hb dX8_real_171 rfl ?_
                      refine lv_lload hx hb dX8_real_172 (lv_at hl 2 rfl) ?_
                      refine lv_lconst (v := 1) hx hb dX8_real_174 (by decide) ?_
                      refine lv_iload_n hx hb dX8_real_175 rfl (lv_at hl 9 rfl) ?_
                      refine lv_lshl hx hb dX8_real_176 rfl ?_
                      refine lv_lconst (v := 1) hx hb dX8_real_177 (by decide) ?_
                      refine lv_lsub hx hb dX8_real_178 ?_
                      refine lv_land hx hb dX8_real_179 ?_
                      refine lv_lor hx hb dX8_real_180 ?_
                      refine lv_lstore (lv' := [(12, .long (((((nI n).toInt64) + j.toInt64 : Int64) <<< ((k : Int32).toInt64 &&& 63)) ||| (((x.toUInt64 >>> (((nI n) - k : Int32).toInt64.toUInt64 &&& Int64.toUInt64 63)).toInt64) &&& (((1 : Int64) <<< ((k : Int32).toInt64 &&& 63)) - 1)))), (15, .long ((1 : Int64) <<< ((((nI n) - k) - 1 : Int32).toInt64 &&& 63))), (8, .long ((x.toUInt64 >>> (((nI n) - k : Int32).toInt64.toUInt64 &&& Int64.toUInt64 63)).toInt64)), (10, .long ((nI n).toInt64)), (7, .int (nI n)), (5, .long x), (4, .int 0), (0, .long x), (2, .int k), (3, .int j)]) hx hb dX8_real_181 hl (by decide) rfl (fun ls hl => ?_)
                      refine lv_iload_n hx hb dX8_real_183 rfl (lv_at hl 8 rfl) ?_
                      refine lv_bipush (v := 23) hx hb dX8_real_184 (by decide) ?_
                      refine lv_icmp_ne (tgt := 210) hx hb dX8_real_186 (by decide) (fun c25 => ?_) (fun c25 => ?_)
                      · refine lv_iload hx hb dX8_real_210 (lv_at hl 6 rfl) ?_
                        refine lv_if_eq (tgt := 224) hx hb dX8_real_212 (by decide) (fun c26 => ?_) (fun c => absurd (by decide) c)
                        refine lv_lload hx hb dX8_real_224 (lv_at hl 0 rfl) ?_
                        exact zz_lret hC hZ (⟨by refine Eq.symm ?_; rw [fn_cm_real]; refine (if_neg (by (try simp only [d_n]); exact c1)).trans ?_; refine (if_pos (by (try simp only [d_n]); exact c2)).trans ?_; refine (if_pos (by (try simp only [d_n]); exact c6)).trans ?_; refine (if_neg (by (try simp only [d_n]); exact c7)).trans ?_; refine (if_pos (by (try simp only [d_n]); exact c15)).trans ?_; refine (if_neg (by (try simp only [d_n]); exact c23)).trans ?_; refine (if_neg (by (try simp only [d_n]); exact c24)).trans ?_; first | (simp only [d_n]; done) | rfl, rfl⟩) (Nat.le_of_ble_eq_true rfl) (Nat.le_of_ble_eq_true rfl) dX8_real_226
                      · refine lv_iload hx hb dX8_real_189 (lv_at hl 6 rfl) ?_
                        refine lv_if_eq (tgt := 205) hx hb dX8_real_191 (by decide) (fun c27 => ?_) (fun c => absurd (by decide) c)
                        refine lv_lload hx hb dX8_real_205 (lv_at hl 0 rfl) ?_
                        refine lv_goto (tgt := 226) hx hb dX8_real_207 (by decide) ?_
                        exact zz_lret hC hZ (⟨by refine Eq.symm ?_; rw [fn_cm_real]; refine (if_neg (by (try simp only [d_n]); exact c1)).trans ?_; refine (if_pos (by (try simp only [d_n]); exact c2)).trans ?_; refine (if_pos (by (try simp only [d_n]); exact c6)).trans ?_; refine (if_neg (by (try simp only [d_n]); exact c7)).trans ?_; refine (if_pos (by (try simp only [d_n]); exact c15)).trans ?_; refine (if_neg (by (try simp only [d_n]); exact c23)).trans ?_; refine (if_neg (by (try simp only [d_n]); exact c24)).trans ?_; first | (simp only [d_n]; done) | rfl, rfl⟩) (Nat.le_of_ble_eq_true rfl) (Nat.le_of_ble_eq_true rfl) dX8_real_226
                    · refine lv_lload hx hb dX8_real_153 (lv_at hl 2 rfl) ?_
                      refine lv_iconst (v := 1) hx hb dX8_real_155 (by decide) ?_
                      refine lv_lushr hx hb dX8_real_156 rfl ?_
                      refine lv_lstore (lv' := [(8, .long ((((x.toUInt64 >>> (((nI n) - k : Int32).toInt64.toUInt64 &&& Int64.toUInt64 63)).toInt64).toUInt64 >>> ((1 : Int32).toInt64.toUInt64 &&& Int64.toUInt64 63)).toInt64)), (15, .long ((1 : Int64) <<< ((((nI n) - k) - 1 : Int32).toInt64 &&& 63))), (13, .long (x &&& (((1 : Int64) <<< (((nI n) - k : Int32).toInt64 &&& 63)) - 1))), (12, .int ((nI n) - k)), (10, .long ((nI n).toInt64)), (7, .int (nI n)), (5, .long x), (4, .int 0), (0, .long x), (2, .int k), (3, .int j)]) hx hb dX8_real_157 hl (by decide) rfl (fun ls hl => ?_)
                      refine lv_lload hx hb dX8_real_159 (lv_at hl 4 rfl) ?_
                      refine lv_lconst (v := 1) hx hb dX8_real_161 (by decide) ?_
                      refine lv_ladd hx hb dX8_real_162 ?_
                      refine lv_lstore (lv' := [(10, .long (((nI n).toInt64) + 1)), (8, .long ((((x.toUInt64 >>> (((nI n) - k : Int32).toInt64.toUInt64 &&& Int64.toUInt64 63)).toInt64).toUInt64 >>> ((1 : Int32).toInt64.toUInt64 &&& Int64.toUInt64 63)).toInt64)), (15, .long ((1 : Int64) <<< ((((nI n) - k) - 1 : Int32).toInt64 &&& 63))), (13, .long (x &&& (((1 : Int64) <<< (((nI n) - k : Int32).toInt64 &&& 63)) - 1))), (12, .int ((nI n) - k)), (7, .int (nI n)), (5, .long x), (4, .int 0), (0, .long x), (2, .int k), (3, .int j)]) hx hb dX8_real_163 hl (by decide) rfl (fun ls hl => ?_)
                      refine lv_lload hx hb dX8_real_165 (lv_at hl 0 rfl) ?_
                      refine lv_iload_n hx hb dX8_real_167 rfl (lv_at hl 10 rfl) ?_
                      refine lv_i2l hx hb dX8_real_168 rfl ?_
                      refine lv_ladd hx hb dX8_real_169 ?_
                      refine lv_iload_n hx hb dX8_real_170 rfl (lv_at hl 9 rfl) ?_
                      refine lv_lshl hx hb dX8_real_171 rfl ?_
                      refine lv_lload hx hb dX8_real_172 (lv_at hl 1 rfl) ?_
                      refine lv_lconst (v := 1) hx hb dX8_real_174 (by decide) ?_
                      refine lv_iload_n hx hb dX8_real_175 rfl (lv_at hl 9 rfl) ?_
                      refine lv_lshl hx hb dX8_real_176 rfl ?_
                      refine lv_lconst (v := 1) hx hb dX8_real_177 (by decide) ?_
                      refine lv_lsub hx hb dX8_real_178 ?_
                      refine lv_land hx hb dX8_real_179 ?_
                      refine lv_lor hx hb dX8_real_180 ?_
                      refine lv_lstore (lv' := [(12, .long ((((((nI n).toInt64) + 1) + j.toInt64 : Int64) <<< ((k : Int32).toInt64 &&& 63)) ||| (((((x.toUInt64 >>> (((nI n) - k : Int32).toInt64.toUInt64 &&& Int64.toUInt64 63)).toInt64).toUInt64 >>> ((1 : Int32).toInt64.toUInt64 &&& Int64.toUInt64 63)).toInt64) &&& (((1 : Int64) <<< ((k : Int32).toInt64 &&& 63)) - 1)))), (10, .long (((nI n).toInt64) + 1)), (8, .long ((((x.toUInt64 >>> (((nI n) - k : Int32).toInt64.toUInt64 &&& Int64.toUInt64 63)).toInt64).toUInt64 >>> ((1 : Int32).toInt64.toUInt64 &&& Int64.toUInt64 63)).toInt64)), (15, .long ((1 : Int64) <<< ((((nI n) - k) - 1 : Int32).toInt64 &&& 63))), (7, .int (nI n)), (5, .long x), (4, .int 0), (0, .long x), (2, .int k), (3, .int j)]) hx hb dX8_real_181 hl (by decide) rfl (fun ls hl => ?_)
                      refine lv_iload_n hx hb dX8_real_183 rfl (lv_at hl 8 rfl) ?_
                      refine lv_bipush (v := 23) hx hb dX8_real_184 (by decide) ?_
                      refine lv_icmp_ne (tgt := 210) hx hb dX8_real_186 (by decide) (fun c28 => ?_) (fun c28 => ?_)
                      · refine lv_iload hx hb dX8_real_210 (lv_at hl 6 rfl) ?_
                        refine lv_if_eq (tgt := 224) hx hb dX8_real_212 (by decide) (fun c29 => ?_) (fun c => absurd (by decide) c)
                        refine lv_lload hx hb dX8_real_224 (lv_at hl 0 rfl) ?_
                        exact zz_lret hC hZ (⟨by refine Eq.symm ?_; rw [fn_cm_real]; refine (if_neg (by (try simp only [d_n]); exact c1)).trans ?_; refine (if_pos (by (try simp only [d_n]); exact c2)).trans ?_; refine (if_pos (by (try simp only [d_n]); exact c6)).trans ?_; refine (if_neg (by (try simp only [d_n]); exact c7)).trans ?_; refine (if_pos (by (try simp only [d_n]); exact c15)).trans ?_; refine (if_neg (by (try simp only [d_n]); exact c23)).trans ?_; refine (if_pos (by (try simp only [d_n]); exact c24)).trans ?_; first | (simp only [d_n]; done) | rfl, rfl⟩) (Nat.le_of_ble_eq_true rfl) (Nat.le_of_ble_eq_true rfl) dX8_real_226
                      · refine lv_iload hx hb dX8_real_189 (lv_at hl 6 rfl) ?_
                        refine lv_if_eq (tgt := 205) hx hb dX8_real_191 (by decide) (fun c30 => ?_) (fun c => absurd (by decide) c)
                        refine lv_lload hx hb dX8_real_205 (lv_at hl 0 rfl) ?_
                        refine lv_goto (tgt := 226) hx hb dX8_real_207 (by decide) ?_
                        exact zz_lret hC hZ (⟨by refine Eq.symm ?_; rw [fn_cm_real]; refine (if_neg (by (try simp only [d_n]); exact c1)).trans ?_; refine (if_pos (by (try simp only [d_n]); exact c2)).trans ?_; refine (if_pos (by (try simp only [d_n]); exact c6)).trans ?_; refine (if_neg (by (try simp only [d_n]); exact c7)).trans ?_; refine (if_pos (by (try simp only [d_n]); exact c15)).trans ?_; refine (if_neg (by (try simp only [d_n]); exact c23)).trans ?_; refine (if_pos (by (try simp only [d_n]); exact c24)).trans ?_; first | (simp only [d_n]; done) | rfl, rfl⟩) (Nat.le_of_ble_eq_true rfl) (Nat.le_of_ble_eq_true rfl) dX8_real_226
                  · refine lv_lload hx hb dX8_real_136 (lv_at hl 2 rfl) ?_
                    refine lv_lconst (v := 1) hx hb dX8_real_138 (by decide) ?_
                    refine lv_ladd hx hb dX8_real_139 ?_
                    refine lv_lstore (lv' := [(8, .long (((x.toUInt64 >>> (((nI n) - k : Int32).toInt64.toUInt64 &&& Int64.toUInt64 63)).toInt64) + 1)), (15, .long ((1 : Int64) <<< ((((nI n) - k) - 1 : Int32).toInt64 &&& 63))), (13, .long (x &&& (((1 : Int64) <<< (((nI n) - k : Int32).toInt64 &&& 63)) - 1))), (12, .int ((nI n) - k)), (10, .long ((nI n).toInt64)), (7, .int (nI n)), (5, .long x), (4, .int 0), (0, .long x), (2, .int k), (3, .int j)]) hx hb dX8_real_140 hl (by decide) rfl (fun ls hl => ?_)
                    refine lv_lload hx hb dX8_real_142 (lv_at hl 0 rfl) ?_
                    refine lv_iload_n hx hb dX8_real_144 rfl (lv_at hl 9 rfl) ?_
                    refine lv_iconst (v := 1) hx hb dX8_real_145 (by decide) ?_
                    refine lv_iadd hx hb dX8_real_146 ?_
                    refine lv_lushr hx hb dX8_real_147 rfl ?_
                    refine lv_lconst (v := 1) hx hb dX8_real_148 (by decide) ?_
                    refine zz_lcmp_ne (tgt := 165) hC dX8_real_149 dX8_real_150 (by decide) (fun c31 => ?_) (fun c31 => ?_)
                    · refine lv_lload hx hb dX8_real_165 (lv_at hl 4 rfl) ?_
                      refine lv_iload_n hx hb dX8_real_167 rfl (lv_at hl 10 rfl) ?_
                      refine lv_i2l hx hb dX8_real_168 rfl ?_
                      refine lv_ladd hx hb dX8_real_169 ?_
                      refine lv_iload_n hx hb dX8_real_170 rfl (lv_at hl 9 rfl) ?_
                      refine lv_lshl hx hb dX8_real_171 rfl ?_
                      refine lv_lload hx hb dX8_real_172 (lv_at hl 0 rfl) ?_
                      refine lv_lconst (v := 1) hx hb dX8_real_174 (by decide) ?_
                      refine lv_iload_n hx hb dX8_real_175 rfl (lv_at hl 9 rfl) ?_
                      refine lv_lshl hx hb dX8_real_176 rfl ?_
                      refine lv_lconst (v := 1) hx hb dX8_real_177 (by decide) ?_
                      refine lv_lsub hx hb dX8_real_178 ?_
                      refine lv_land hx hb dX8_real_179 ?_
                      refine lv_lor hx hb dX8_real_180 ?_
                      refine lv_lstore (lv' := [(12, .long (((((nI n).toInt64) + j.toInt64 : Int64) <<< ((k : Int32).toInt64 &&& 63)) ||| ((((x.toUInt64 >>> (((nI n) - k : Int32).toInt64.toUInt64 &&& Int64.toUInt64 63)).toInt64) + 1) &&& (((1 : Int64) <<< ((k : Int32).toInt64 &&& 63)) - 1)))), (8, .long (((x.toUInt64 >>> (((nI n) - k : Int32).toInt64.toUInt64 &&& Int64.toUInt64 63)).toInt64) + 1)), (15, .long ((1 : Int64) <<< ((((nI n) - k) - 1 : Int32).toInt64 &&& 63))), (10, .long ((nI n).toInt64)), (7, .int (nI n)), (5, .long x), (4, .int 0), (0, .long x), (2, .int k), (3, .int j)]) hx hb dX8_real_181 hl (by decide) rfl (fun ls hl => ?_)
                      refine lv_iload_n hx hb dX8_real_183 rfl (lv_at hl 8 rfl) ?_
                      refine lv_bipush (v := 23) hx hb dX8_real_184 (by decide) ?_
                      refine lv_icmp_ne (tgt := 210) hx hb dX8_real_186 (by decide) (fun c32 => ?_) (fun c32 => ?_)
                      · refine lv_iload hx hb dX8_real_210 (lv_at hl 6 rfl) ?_
                        refine lv_if_eq (tgt := 224) hx hb dX8_real_212 (by decide) (fun c33 => ?_) (fun c => absurd (by decide) c)
                        refine lv_lload hx hb dX8_real_224 (lv_at hl 0 rfl) ?_
                        exact zz_lret hC hZ (⟨by refine Eq.symm ?_; rw [fn_cm_real]; refine (if_neg (by (try simp only [d_n]); exact c1)).trans ?_; refine (if_pos (by (try simp only [d_n]); exact c2)).trans ?_; refine (if_pos (by (try simp only [d_n]); exact c6)).trans ?_; refine (if_neg (by (try simp only [d_n]); exact c7)).trans ?_; refine (if_pos (by (try simp only [d_n]); exact c15)).trans ?_; refine (if_pos (by (try simp only [d_n]); exact c23)).trans ?_; refine (if_neg (by (try simp only [d_n]); exact c31)).trans ?_; first | (simp only [d_n]; done) | rfl, rfl⟩) (Nat.le_of_ble_eq_true rfl) (Nat.le_of_ble_eq_true rfl) dX8_real_226
                      · refine lv_iload hx hb dX8_real_189 (lv_at hl 6 rfl) ?_
                        refine lv_if_eq (tgt := 205) hx hb dX8_real_191 (by decide) (fun c34 => ?_) (fun c => absurd (by decide) c)
                        refine lv_lload hx hb dX8_real_205 (lv_at hl 0 rfl) ?_
                        refine lv_goto (tgt := 226) hx hb dX8_real_207 (by decide) ?_
                        exact zz_lret hC hZ (⟨by refine Eq.symm ?_; rw [fn_cm_real]; refine (if_neg (by (try simp only [d_n]); exact c1)).trans ?_; refine (if_pos (by (try simp only [d_n]); exact c2)).trans ?_; refine (if_pos (by (try simp only [d_n]); exact c6)).trans ?_; refine (if_neg (by (try simp only [d_n]); exact c7)).trans ?_; refine (if_pos (by (try simp only [d_n]); exact c15)).trans ?_; refine (if_pos (by (try simp only [d_n]); exact c23)).trans ?_; refine (if_neg (by (try simp only [d_n]); exact c31)).trans ?_; first | (simp only [d_n]; done) | rfl, rfl⟩) (Nat.le_of_ble_eq_true rfl) (Nat.le_of_ble_eq_true rfl) dX8_real_226
                    · refine lv_lload hx hb dX8_real_153 (lv_at hl 0 rfl) ?_
                      refine lv_iconst (v := 1) hx hb dX8_real_155 (by decide) ?_
                      refine lv_lushr hx hb dX8_real_156 rfl ?_
                      refine lv_lstore (lv' := [(8, .long (((((x.toUInt64 >>> (((nI n) - k : Int32).toInt64.toUInt64 &&& Int64.toUInt64 63)).toInt64) + 1).toUInt64 >>> ((1 : Int32).toInt64.toUInt64 &&& Int64.toUInt64 63)).toInt64)), (15, .long ((1 : Int64) <<< ((((nI n) - k) - 1 : Int32).toInt64 &&& 63))), (13, .long (x &&& (((1 : Int64) <<< (((nI n) - k : Int32).toInt64 &&& 63)) - 1))), (12, .int ((nI n) - k)), (10, .long ((nI n).toInt64)), (7, .int (nI n)), (5, .long x), (4, .int 0), (0, .long x), (2, .int k), (3, .int j)]) hx hb dX8_real_157 hl (by decide) rfl (fun ls hl => ?_)
                      refine lv_lload hx hb dX8_real_159 (lv_at hl 4 rfl) ?_
                      refine lv_lconst (v := 1) hx hb dX8_real_161 (by decide) ?_
                      refine lv_ladd hx hb dX8_real_162 ?_
                      refine lv_lstore (lv' := [(10, .long (((nI n).toInt64) + 1)), (8, .long (((((x.toUInt64 >>> (((nI n) - k : Int32).toInt64.toUInt64 &&& Int64.toUInt64 63)).toInt64) + 1).toUInt64 >>> ((1 : Int32).toInt64.toUInt64 &&& Int64.toUInt64 63)).toInt64)), (15, .long ((1 : Int64) <<< ((((nI n) - k) - 1 : Int32).toInt64 &&& 63))), (13, .long (x &&& (((1 : Int64) <<< (((nI n) - k : Int32).toInt64 &&& 63)) - 1))), (12, .int ((nI n) - k)), (7, .int (nI n)), (5, .long x), (4, .int 0), (0, .long x), (2, .int k), (3, .int j)]) hx hb dX8_real_163 hl (by decide) rfl (fun ls hl => ?_)
                      refine lv_lload hx hb dX8_real_165 (lv_at hl 0 rfl) ?_
                      refine lv_iload_n hx hb dX8_real_167 rfl (lv_at hl 10 rfl) ?_
                      refine lv_i2l hx hb dX8_real_168 rfl ?_
                      refine lv_ladd hx hb dX8_real_169 ?_
                      refine lv_iload_n hx hb dX8_real_170 rfl (lv_at hl 9 rfl) ?_
                      refine lv_lshl hx hb dX8_real_171 rfl ?_
                      refine lv_lload hx hb dX8_real_172 (lv_at hl 1 rfl) ?_
                      refine lv_lconst (v := 1) hx hb dX8_real_174 (by decide) ?_
                      refine lv_iload_n hx hb dX8_real_175 rfl (lv_at hl 9 rfl) ?_
                      refine lv_lshl hx hb dX8_real_176 rfl ?_
                      refine lv_lconst (v := 1) hx hb dX8_real_177 (by decide) ?_
                      refine lv_lsub hx hb dX8_real_178 ?_
                      refine lv_land hx hb dX8_real_179 ?_
                      refine lv_lor hx hb dX8_real_180 ?_
                      refine lv_lstore (lv' := [(12, .long ((((((nI n).toInt64) + 1) + j.toInt64 : Int64) <<< ((k : Int32).toInt64 &&& 63)) ||| ((((((x.toUInt64 >>> (((nI n) - k : Int32).toInt64.toUInt64 &&& Int64.toUInt64 63)).toInt64) + 1).toUInt64 >>> ((1 : Int32).toInt64.toUInt64 &&& Int64.toUInt64 63)).toInt64) &&& (((1 : Int64) <<< ((k : Int32).toInt64 &&& 63)) - 1)))), (10, .long (((nI n).toInt64) + 1)), (8, .long (((((x.toUInt64 >>> (((nI n) - k : Int32).toInt64.toUInt64 &&& Int64.toUInt64 63)).toInt64) + 1).toUInt64 >>> ((1 : Int32).toInt64.toUInt64 &&& Int64.toUInt64 63)).toInt64)), (15, .long ((1 : Int64) <<< ((((nI n) - k) - 1 : Int32).toInt64 &&& 63))), (7, .int (nI n)), (5, .long x), (4, .int 0), (0, .long x), (2, .int k), (3, .int j)]) hx hb dX8_real_181 hl (by decide) rfl (fun ls hl => ?_)
                      refine lv_iload_n hx hb dX8_real_183 rfl (lv_at hl 8 rfl) ?_
                      refine lv_bipush (v := 23) hx hb dX8_real_184 (by decide) ?_
                      refine lv_icmp_ne (tgt := 210) hx hb dX8_real_186 (by decide) (fun c35 => ?_) (fun c35 => ?_)
                      · refine lv_iload hx hb dX8_real_210 (lv_at hl 6 rfl) ?_
                        refine lv_if_eq (tgt := 224) hx hb dX8_real_212 (by decide) (fun c36 => ?_) (fun c => absurd (by decide) c)
                        refine lv_lload hx hb dX8_real_224 (lv_at hl 0 rfl) ?_
                        exact zz_lret hC hZ (⟨by refine Eq.symm ?_; rw [fn_cm_real]; refine (if_neg (by (try simp only [d_n]); exact c1)).trans ?_; refine (if_pos (by (try simp only [d_n]); exact c2)).trans ?_; refine (if_pos (by (try simp only [d_n]); exact c6)).trans ?_; refine (if_neg (by (try simp only [d_n]); exact c7)).trans ?_; refine (if_pos (by (try simp only [d_n]); exact c15)).trans ?_; refine (if_pos (by (try simp only [d_n]); exact c23)).trans ?_; refine (if_pos (by (try simp only [d_n]); exact c31)).trans ?_; first | (simp only [d_n]; done) | rfl, rfl⟩) (Nat.le_of_ble_eq_true rfl) (Nat.le_of_ble_eq_true rfl) dX8_real_226
                      · refine lv_iload hx hb dX8_real_189 (lv_at hl 6 rfl) ?_
                        refine lv_if_eq (tgt := 205) hx hb dX8_real_191 (by decide) (fun c37 => ?_) (fun c => absurd (by decide) c)
                        refine lv_lload hx hb dX8_real_205 (lv_at hl 0 rfl) ?_
                        refine lv_goto (tgt := 226) hx hb dX8_real_207 (by decide) ?_
                        exact zz_lret hC hZ (⟨by refine Eq.symm ?_; rw [fn_cm_real]; refine (if_neg (by (try simp only [d_n]); exact c1)).trans ?_; refine (if_pos (by (try simp only [d_n]); exact c2)).trans ?_; refine (if_pos (by (try simp only [d_n]); exact c6)).trans ?_; refine (if_neg (by (try simp only [d_n]); exact c7)).trans ?_; refine (if_pos (by (try simp only [d_n]); exact c15)).trans ?_; refine (if_pos (by (try simp only [d_n]); exact c23)).trans ?_; refine (if_pos (by (try simp only [d_n]); exact c31)).trans ?_; first | (simp only [d_n]; done) | rfl, rfl⟩) (Nat.le_of_ble_eq_true rfl) (Nat.le_of_ble_eq_true rfl) dX8_real_226
            · refine lv_lload hx hb dX8_real_67 (lv_at hl 2 rfl) ?_
              refine lv_iload_n hx hb dX8_real_69 rfl (lv_at hl 5 rfl) ?_
              refine lv_iload hx hb dX8_real_70 (lv_at hl 1 rfl) ?_
              refine lv_isub hx hb dX8_real_72 ?_
              refine lv_lshl hx hb dX8_real_73 rfl ?_
              refine lv_lstore (lv' := [(8, .long ((x : Int64) <<< ((k - (nI n) : Int32).toInt64 &&& 63))), (10, .long ((nI n).toInt64)), (7, .int (nI n)), (5, .long x), (4, .int 0), (0, .long x), (2, .int k), (3, .int j)]) hx hb dX8_real_74 hl (by decide) rfl (fun ls hl => ?_)
              refine lv_goto (tgt := 165) hx hb dX8_real_76 (by decide) ?_
              refine lv_lload hx hb dX8_real_165 (lv_at hl 1 rfl) ?_
              refine lv_iload_n hx hb dX8_real_167 rfl (lv_at hl 7 rfl) ?_
              refine lv_i2l hx hb dX8_real_168 rfl ?_
              refine lv_ladd hx hb dX8_real_169 ?_
              refine lv_iload_n hx hb dX8_real_170 rfl (lv_at hl 6 rfl) ?_
              refine lv_lshl hx hb dX8_real_171 rfl ?_
              refine lv_lload hx hb dX8_real_172 (lv_at hl 0 rfl) ?_
              refine lv_lconst (v := 1) hx hb dX8_real_174 (by decide) ?_
              refine lv_iload_n hx hb dX8_real_175 rfl (lv_at hl 6 rfl) ?_
              refine lv_lshl hx hb dX8_real_176 rfl ?_
              refine lv_lconst (v := 1) hx hb dX8_real_177 (by decide) ?_
              refine lv_lsub hx hb dX8_real_178 ?_
              refine lv_land hx hb dX8_real_179 ?_
              refine lv_lor hx hb dX8_real_180 ?_
              refine lv_lstore (lv' := [(12, .long (((((nI n).toInt64) + j.toInt64 : Int64) <<< ((k : Int32).toInt64 &&& 63)) ||| (((x : Int64) <<< ((k - (nI n) : Int32).toInt64 &&& 63)) &&& (((1 : Int64) <<< ((k : Int32).toInt64 &&& 63)) - 1)))), (8, .long ((x : Int64) <<< ((k - (nI n) : Int32).toInt64 &&& 63))), (10, .long ((nI n).toInt64)), (7, .int (nI n)), (5, .long x), (4, .int 0), (0, .long x), (2, .int k), (3, .int j)]) hx hb dX8_real_181 hl (by decide) rfl (fun ls hl => ?_)
              refine lv_iload_n hx hb dX8_real_183 rfl (lv_at hl 7 rfl) ?_
              refine lv_bipush (v := 23) hx hb dX8_real_184 (by decide) ?_
              refine lv_icmp_ne (tgt := 210) hx hb dX8_real_186 (by decide) (fun c38 => ?_) (fun c38 => ?_)
              · refine lv_iload hx hb dX8_real_210 (lv_at hl 5 rfl) ?_
                refine lv_if_eq (tgt := 224) hx hb dX8_real_212 (by decide) (fun c39 => ?_) (fun c => absurd (by decide) c)
                refine lv_lload hx hb dX8_real_224 (lv_at hl 0 rfl) ?_
                exact zz_lret hC hZ (⟨by refine Eq.symm ?_; rw [fn_cm_real]; refine (if_neg (by (try simp only [d_n]); exact c1)).trans ?_; refine (if_pos (by (try simp only [d_n]); exact c2)).trans ?_; refine (if_neg (by (try simp only [d_n]); exact c6)).trans ?_; first | (simp only [d_n]; done) | rfl, rfl⟩) (Nat.le_of_ble_eq_true rfl) (Nat.le_of_ble_eq_true rfl) dX8_real_226
              · refine lv_iload hx hb dX8_real_189 (lv_at hl 5 rfl) ?_
                refine lv_if_eq (tgt := 205) hx hb dX8_real_191 (by decide) (fun c40 => ?_) (fun c => absurd (by decide) c)
                refine lv_lload hx hb dX8_real_205 (lv_at hl 0 rfl) ?_
                refine lv_goto (tgt := 226) hx hb dX8_real_207 (by decide) ?_
                exact zz_lret hC hZ (⟨by refine Eq.symm ?_; rw [fn_cm_real]; refine (if_neg (by (try simp only [d_n]); exact c1)).trans ?_; refine (if_pos (by (try simp only [d_n]); exact c2)).trans ?_; refine (if_neg (by (try simp only [d_n]); exact c6)).trans ?_; first | (simp only [d_n]; done) | rfl, rfl⟩) (Nat.le_of_ble_eq_true rfl) (Nat.le_of_ble_eq_true rfl) dX8_real_226
          · obtain ⟨K, rfl⟩ : ∃ K, n = K + 1 := zl_bitK (c1) hlt (by omega) c5
            refine lv_iinc (v := nI K) (lv' := [(7, .int (nI K)), (5, .long x), (4, .int 0), (0, .long x), (2, .int k), (3, .int j)]) hx hb dX8_real_50 hl (k := 0) rfl (pk_m1 _) (by decide) rfl (fun ls hl => ?_)
            refine lv_goto (tgt := 38) hx hb dX8_real_53 (by decide) ?_
            exact ih K H locs ls (by omega) (zl_bitN hlt (by omega) c5) (he.trans (zl_tbS c5)) (by omega) hZ (lv_sub hl [0, 1, 2, 3, 4, 5] rfl)
      exact LP4 _ 63 H locs ls (by omega) (UInt64.toNat_lt _) (rfl) (Nat.lt_succ_self _) hZ (lv_sub hl [0, 1, 2, 3, 4, 5] rfl)
    · refine lv_iconst (v := 1) hx hb dX8_real_14 (by decide) ?_
      refine lv_goto (tgt := 19) hx hb dX8_real_15 (by decide) ?_
      refine lv_istore (lv' := [(4, .int 1), (0, .long x), (2, .int k), (3, .int j)]) hx hb dX8_real_19 hl (by decide) rfl (fun ls hl => ?_)
      refine lv_iload hx hb dX8_real_21 (lv_at hl 0 rfl) ?_
      refine lv_if_eq (tgt := 31) hx hb dX8_real_23 (by decide) (fun c => absurd c (by decide)) (fun c41 => ?_)
      refine lv_lload_n hx hb dX8_real_26 rfl (lv_at hl 1 rfl) ?_
      refine lv_lneg hx hb dX8_real_27 ?_
      refine lv_goto (tgt := 32) hx hb dX8_real_28 (by decide) ?_
      refine lv_lstore (lv' := [(5, .long (-x)), (4, .int 1), (0, .long x), (2, .int k), (3, .int j)]) hx hb dX8_real_32 hl (by decide) rfl (fun ls hl => ?_)
      refine lv_bipush (v := 63) hx hb dX8_real_34 (by decide) ?_
      refine lv_istore (lv' := [(7, .int 63), (5, .long (-x)), (4, .int 1), (0, .long x), (2, .int k), (3, .int j)]) hx hb dX8_real_36 hl (by decide) rfl (fun ls hl => ?_)
      have LP42 : ∀ (N : Nat) (n : Nat) (H : Heap) (locs : List Loc) (ls : Array Slot), (n ≤ 63) → ((-x).toUInt64.toNat < 2 ^ (n + 1)) → (fn_topBit (-x) 63 = fn_topBit (-x) n) → n < N → zz_Z g A s.heap [] H locs → lv_has ls 17 [(7, .int (nI n)), (5, .long (-x)), (4, .int 1), (0, .long x), (2, .int k), (3, .int j)] → W p l e rm_cm_real s m args below meth c H locs 0 0 (zz_QL below g args s A rm_cm_real.cells rm_cm_real.slots (po_cm_real g x k j)) (F0 m 38 ls []) := by
        intro N
        induction N with
        | zero =>
          intro n H locs ls hn6 hlt he hN
          exact absurd hN (Nat.not_lt_zero _)
        | succ N ih =>
          intro n H locs ls hn6 hlt he hN hZ hl
          refine lv_lload hx hb dX8_real_38 (lv_at hl 1 rfl) ?_
          refine lv_iload hx hb dX8_real_40 (lv_at hl 0 rfl) ?_
          refine lv_lushr hx hb dX8_real_42 rfl ?_
          refine lv_lconst (v := 1) hx hb dX8_real_43 (by decide) ?_
          refine lv_land hx hb dX8_real_44 ?_
          refine lv_lconst (v := 0) hx hb dX8_real_45 (by decide) ?_
          refine zz_lcmp_ne (tgt := 56) hC dX8_real_46 dX8_real_47 (by decide) (fun c43 => ?_) (fun c43 => ?_)
          · have d_n : (fn_topBit (-x) 63).toNatClampNeg = n := zl_tbE hn6 he c43
            refine lv_iload hx hb dX8_real_56 (lv_at hl 0 rfl) ?_
            refine lv_i2l hx hb dX8_real_58 rfl ?_
            refine lv_lstore (lv' := [(10, .long ((nI n).toInt64)), (7, .int (nI n)), (5, .long (-x)), (4, .int 1), (0, .long x), (2, .int k), (3, .int j)]) hx hb dX8_real_59 hl (by decide) rfl (fun ls hl => ?_)
            refine lv_iload hx hb dX8_real_61 (lv_at hl 1 rfl) ?_
            refine lv_iload_n hx hb dX8_real_63 rfl (lv_at hl 5 rfl) ?_
            refine lv_icmp_gt (tgt := 79) hx hb dX8_real_64 (by decide) (fun c44 => ?_) (fun c44 => ?_)
            · refine lv_iload hx hb dX8_real_79 (lv_at hl 1 rfl) ?_
              refine lv_iload_n hx hb dX8_real_81 rfl (lv_at hl 5 rfl) ?_
              refine lv_isub hx hb dX8_real_82 ?_
              refine lv_istore (lv' := [(12, .int ((nI n) - k)), (10, .long ((nI n).toInt64)), (7, .int (nI n)), (5, .long (-x)), (4, .int 1), (0, .long x), (2, .int k), (3, .int j)]) hx hb dX8_real_83 hl (by decide) rfl (fun ls hl => ?_)
              refine lv_lload hx hb dX8_real_85 (lv_at hl 3 rfl) ?_
              refine lv_iload hx hb dX8_real_87 (lv_at hl 0 rfl) ?_
              refine lv_lushr hx hb dX8_real_89 rfl ?_
              refine lv_lstore (lv' := [(8, .long (((-x).toUInt64 >>> (((nI n) - k : Int32).toInt64.toUInt64 &&& Int64.toUInt64 63)).toInt64)), (12, .int ((nI n) - k)), (10, .long ((nI n).toInt64)), (7, .int (nI n)), (5, .long (-x)), (4, .int 1), (0, .long x), (2, .int k), (3, .int j)]) hx hb dX8_real_90 hl (by decide) rfl (fun ls hl => ?_)
              refine lv_lload hx hb dX8_real_92 (lv_at hl 4 rfl) ?_
              refine lv_lconst (v := 1) hx hb dX8_real_94 (by decide) ?_
              refine lv_iload hx hb dX8_real_95 (lv_at hl 1 rfl) ?_
              refine lv_lshl hx hb dX8_real_97 rfl ?_
              refine lv_lconst (v := 1) hx hb dX8_real_98 (by decide) ?_
              refine lv_lsub hx hb dX8_real_99 ?_
              refine lv_land hx hb dX8_real_100 ?_
              refine lv_lstore (lv' := [(13, .long ((-x) &&& (((1 : Int64) <<< (((nI n) - k : Int32).toInt64 &&& 63)) - 1))), (8, .long (((-x).toUInt64 >>> (((nI n) - k : Int32).toInt64.toUInt64 &&& Int64.toUInt64 63)).toInt64)), (12, .int ((nI n) - k)), (10, .long ((nI n).toInt64)), (7, .int (nI n)), (5, .long (-x)), (4, .int 1), (0, .long x), (2, .int k), (3, .int j)]) hx hb dX8_real_101 hl (by decide) rfl (fun ls hl => ?_)
              refine lv_lconst (v := 1) hx hb dX8_real_103 (by decide) ?_
              refine lv_iload hx hb dX8_real_104 (lv_at hl 2 rfl) ?_
              refine lv_iconst (v := 1) hx hb dX8_real_106 (by decide) ?_
              refine lv_isub hx hb dX8_real_107 ?_
              refine lv_lshl hx hb dX8_real_108 rfl ?_
              refine lv_lstore (lv' := [(15, .long ((1 : Int64) <<< ((((nI n) - k) - 1 : Int32).toInt64 &&& 63))), (13, .long ((-x) &&& (((1 : Int64) <<< (((nI n) - k : Int32).toInt64 &&& 63)) - 1))), (8, .long (((-x).toUInt64 >>> (((nI n) - k : Int32).toInt64.toUInt64 &&& Int64.toUInt64 63)).toInt64)), (12, .int ((nI n) - k)), (10, .long ((nI n).toInt64)), (7, .int (nI n)), (5, .long (-x)), (4, .int 1), (0, .long x), (2, .int k), (3, .int j)]) hx hb dX8_real_109 hl (by decide) rfl (fun ls hl => ?_)
              refine lv_lload hx hb dX8_real_111 (lv_at hl 1 rfl) ?_
              refine lv_lload hx hb dX8_real_113 (lv_at hl 0 rfl) ?_
              refine zz_lcmp_gt (tgt := 136) hC dX8_real_115 dX8_real_116 (by decide) (fun c45 => ?_) (fun c45 => ?_)
              · refine lv_lload hx hb dX8_real_136 (lv_at hl 2 rfl) ?_
                refine lv_lconst (v := 1) hx hb dX8_real_138 (by decide) ?_
                refine lv_ladd hx hb dX8_real_139 ?_
                refine lv_lstore (lv' := [(8, .long ((((-x).toUInt64 >>> (((nI n) - k : Int32).toInt64.toUInt64 &&& Int64.toUInt64 63)).toInt64) + 1)), (15, .long ((1 : Int64) <<< ((((nI n) - k) - 1 : Int32).toInt64 &&& 63))), (13, .long ((-x) &&& (((1 : Int64) <<< (((nI n) - k : Int32).toInt64 &&& 63)) - 1))), (12, .int ((nI n) - k)), (10, .long ((nI n).toInt64)), (7, .int (nI n)), (5, .long (-x)), (4, .int 1), (0, .long x), (2, .int k), (3, .int j)]) hx hb dX8_real_140 hl (by decide) rfl (fun ls hl => ?_)
                refine lv_lload hx hb dX8_real_142 (lv_at hl 0 rfl) ?_
                refine lv_iload_n hx hb dX8_real_144 rfl (lv_at hl 9 rfl) ?_
                refine lv_iconst (v := 1) hx hb dX8_real_145 (by decide) ?_
                refine lv_iadd hx hb dX8_real_146 ?_
                refine lv_lushr hx hb dX8_real_147 rfl ?_
                refine lv_lconst (v := 1) hx hb dX8_real_148 (by decide) ?_
                refine zz_lcmp_ne (tgt := 165) hC dX8_real_149 dX8_real_150 (by decide) (fun c46 => ?_) (fun c46 => ?_)
                · refine lv_lload hx hb dX8_real_165 (lv_at hl 4 rfl) ?_
                  refine lv_iload_n hx hb dX8_real_167 rfl (lv_at hl 10 rfl) ?_
                  refine lv_i2l hx hb dX8_real_168 rfl ?_
                  refine lv_ladd hx hb dX8_real_169 ?_
                  refine lv_iload_n hx hb dX8_real_170 rfl (lv_at hl 9 rfl) ?_
                  refine lv_lshl hx hb dX8_real_171 rfl ?_
                  refine lv_lload hx hb dX8_real_172 (lv_at hl 0 rfl) ?_
                  refine lv_lconst (v := 1) hx hb dX8_real_174 (by decide) ?_
                  refine lv_iload_n hx hb dX8_real_175 rfl (lv_at hl 9 rfl) ?_
                  refine lv_lshl hx hb dX8_real_176 rfl ?_
                  refine lv_lconst (v := 1) hx hb dX8_real_177 (by decide) ?_
                  refine lv_lsub hx hb dX8_real_178 ?_
                  refine lv_land hx hb dX8_real_179 ?_
                  refine lv_lor hx hb dX8_real_180 ?_
                  refine lv_lstore (lv' := [(12, .long (((((nI n).toInt64) + j.toInt64 : Int64) <<< ((k : Int32).toInt64 &&& 63)) ||| (((((-x).toUInt64 >>> (((nI n) - k : Int32).toInt64.toUInt64 &&& Int64.toUInt64 63)).toInt64) + 1) &&& (((1 : Int64) <<< ((k : Int32).toInt64 &&& 63)) - 1)))), (8, .long ((((-x).toUInt64 >>> (((nI n) - k : Int32).toInt64.toUInt64 &&& Int64.toUInt64 63)).toInt64) + 1)), (15, .long ((1 : Int64) <<< ((((nI n) - k) - 1 : Int32).toInt64 &&& 63))), (10, .long ((nI n).toInt64)), (7, .int (nI n)), (5, .long (-x)), (4, .int 1), (0, .long x), (2, .int k), (3, .int j)]) hx hb dX8_real_181 hl (by decide) rfl (fun ls hl => ?_)
                  refine lv_iload_n hx hb dX8_real_183 rfl (lv_at hl 8 rfl) ?_
                  refine lv_bipush (v := 23) hx hb dX8_real_184 (by decide) ?_
                  refine lv_icmp_ne (tgt := 210) hx hb dX8_real_186 (by decide) (fun c47 => ?_) (fun c47 => ?_)
                  · refine lv_iload hx hb dX8_real_210 (lv_at hl 6 rfl) ?_
                    refine lv_if_eq (tgt := 224) hx hb dX8_real_212 (by decide) (fun c => absurd c (by decide)) (fun c48 => ?_)
                    refine lv_lload hx hb dX8_real_215 (lv_at hl 0 rfl) ?_
                    refine lv_ldc2 hx hb hown (hts _ zk_947) dX8_real_217 ?_
                    refine lv_lor hx hb dX8_real_220 ?_
                    refine lv_goto (tgt := 226) hx hb dX8_real_221 (by decide) ?_
                    exact zz_lret hC hZ (⟨by refine Eq.symm ?_; rw [fn_cm_real]; refine (if_neg (by (try simp only [d_n]); exact c1)).trans ?_; refine (if_neg (by (try simp only [d_n]); exact c2)).trans ?_; refine (if_pos (by (try simp only [d_n]); exact c44)).trans ?_; refine (if_pos (by (try simp only [d_n]); exact c45)).trans ?_; refine (if_neg (by (try simp only [d_n]); exact c46)).trans ?_; refine (if_neg (by (try simp only [d_n]); exact c47)).trans ?_; first | (simp only [d_n]; done) | rfl, rfl⟩) (Nat.le_of_ble_eq_true rfl) (Nat.le_of_ble_eq_true rfl) dX8_real_226
                  · refine lv_iload hx hb dX8_real_189 (lv_at hl 6 rfl) ?_
                    refine lv_if_eq (tgt := 205) hx hb dX8_real_191 (by decide) (fun c => absurd c (by decide)) (fun c49 => ?_)
                    refine lv_lload hx hb dX8_real_194 (lv_at hl 0 rfl) ?_
                    refine lv_ldc2 hx hb hown (hts _ zk_954) dX8_real_196 ?_
                    refine lv_lor hx hb dX8_real_199 ?_
                    refine lv_l2i hx hb dX8_real_200 rfl ?_
                    refine lv_i2l hx hb dX8_real_201 rfl ?_
                    refine lv_goto (tgt := 226) hx hb dX8_real_202 (by decide) ?_
                    exact zz_lret hC hZ (⟨by refine Eq.symm ?_; rw [fn_cm_real]; refine (if_neg (by (try simp only [d_n]); exact c1)).trans ?_; refine (if_neg (by (try simp only [d_n]); exact c2)).trans ?_; refine (if_pos (by (try simp only [d_n]); exact c44)).trans ?_; refine (if_pos (by (try simp only [d_n]); exact c45)).trans ?_; refine (if_neg (by (try simp only [d_n]); exact c46)).trans ?_; refine (if_pos (by (try simp only [d_n]); exact c47)).trans ?_; first | (simp only [d_n]; done) | rfl, rfl⟩) (Nat.le_of_ble_eq_true rfl) (Nat.le_of_ble_eq_true rfl) dX8_real_226
                · refine lv_lload hx hb dX8_real_153 (lv_at hl 0 rfl) ?_
                  refine lv_iconst (v := 1) hx hb dX8_real_155 (by decide) ?_
                  refine lv_lushr hx hb dX8_real_156 rfl ?_
                  refine lv_lstore (lv' := [(8, .long ((((((-x).toUInt64 >>> (((nI n) - k : Int32).toInt64.toUInt64 &&& Int64.toUInt64 63)).toInt64) + 1).toUInt64 >>> ((1 : Int32).toInt64.toUInt64 &&& Int64.toUInt64 63)).toInt64)), (15, .long ((1 : Int64) <<< ((((nI n) - k) - 1 : Int32).toInt64 &&& 63))), (13, .long ((-x) &&& (((1 : Int64) <<< (((nI n) - k : Int32).toInt64 &&& 63)) - 1))), (12, .int ((nI n) - k)), (10, .long ((nI n).toInt64)), (7, .int (nI n)), (5, .long (-x)), (4, .int 1), (0, .long x), (2, .int k), (3, .int j)]) hx hb dX8_real_157 hl (by decide) rfl (fun ls hl => ?_)
                  refine lv_lload hx hb dX8_real_159 (lv_at hl 4 rfl) ?_
                  refine lv_lconst (v := 1) hx hb dX8_real_161 (by decide) ?_
                  refine lv_ladd hx hb dX8_real_162 ?_
                  refine lv_lstore (lv' := [(10, .long (((nI n).toInt64) + 1)), (8, .long ((((((-x).toUInt64 >>> (((nI n) - k : Int32).toInt64.toUInt64 &&& Int64.toUInt64 63)).toInt64) + 1).toUInt64 >>> ((1 : Int32).toInt64.toUInt64 &&& Int64.toUInt64 63)).toInt64)), (15, .long ((1 : Int64) <<< ((((nI n) - k) - 1 : Int32).toInt64 &&& 63))), (13, .long ((-x) &&& (((1 : Int64) <<< (((nI n) - k : Int32).toInt64 &&& 63)) - 1))), (12, .int ((nI n) - k)), (7, .int (nI n)), (5, .long (-x)), (4, .int 1), (0, .long x), (2, .int k), (3, .int j)]) hx hb dX8_real_163 hl (by decide) rfl (fun ls hl => ?_)
                  refine lv_lload hx hb dX8_real_165 (lv_at hl 0 rfl) ?_
                  refine lv_iload_n hx hb dX8_real_167 rfl (lv_at hl 10 rfl) ?_
                  refine lv_i2l hx hb dX8_real_168 rfl ?_
                  refine lv_ladd hx hb dX8_real_169 ?_
                  refine lv_iload_n hx hb dX8_real_170 rfl (lv_at hl 9 rfl) ?_
                  refine lv_lshl hx hb dX8_real_171 rfl ?_
                  refine lv_lload hx hb dX8_real_172 (lv_at hl 1 rfl) ?_
                  refine lv_lconst (v := 1) hx hb dX8_real_174 (by decide) ?_
                  refine lv_iload_n hx hb dX8_real_175 rfl (lv_at hl 9 rfl) ?_
                  refine lv_lshl hx hb dX8_real_176 rfl ?_
                  refine lv_lconst (v := 1) hx hb dX8_real_177 (by decide) ?_
                  refine lv_lsub hx hb dX8_real_178 ?_
                  refine lv_land hx hb dX8_real_179 ?_
                  refine lv_lor hx hb dX8_real_180 ?_
                  refine lv_lstore (lv' := [(12, .long ((((((nI n).toInt64) + 1) + j.toInt64 : Int64) <<< ((k : Int32).toInt64 &&& 63)) ||| (((((((-x).toUInt64 >>> (((nI n) - k : Int32).toInt64.toUInt64 &&& Int64.toUInt64 63)).toInt64) + 1).toUInt64 >>> ((1 : Int32).toInt64.toUInt64 &&& Int64.toUInt64 63)).toInt64) &&& (((1 : Int64) <<< ((k : Int32).toInt64 &&& 63)) - 1)))), (10, .long (((nI n).toInt64) + 1)), (8, .long ((((((-x).toUInt64 >>> (((nI n) - k : Int32).toInt64.toUInt64 &&& Int64.toUInt64 63)).toInt64) + 1).toUInt64 >>> ((1 : Int32).toInt64.toUInt64 &&& Int64.toUInt64 63)).toInt64)), (15, .long ((1 : Int64) <<< ((((nI n) - k) - 1 : Int32).toInt64 &&& 63))), (7, .int (nI n)), (5, .long (-x)), (4, .int 1), (0, .long x), (2, .int k), (3, .int j)]) hx hb dX8_real_181 hl (by decide) rfl (fun ls hl => ?_)
                  refine lv_iload_n hx hb dX8_real_183 rfl (lv_at hl 8 rfl) ?_
                  refine lv_bipush (v := 23) hx hb dX8_real_184 (by decide) ?_
                  refine lv_icmp_ne (tgt := 210) hx hb dX8_real_186 (by decide) (fun c50 => ?_) (fun c50 => ?_)
                  · refine lv_iload hx hb dX8_real_210 (lv_at hl 6 rfl) ?_
                    refine lv_if_eq (tgt := 224) hx hb dX8_real_212 (by decide) (fun c => absurd c (by decide)) (fun c51 => ?_)
                    refine lv_lload hx hb dX8_real_215 (lv_at hl 0 rfl) ?_
                    refine lv_ldc2 hx hb hown (hts _ zk_947) dX8_real_217 ?_
                    refine lv_lor hx hb dX8_real_220 ?_
                    refine lv_goto (tgt := 226) hx hb dX8_real_221 (by decide) ?_
                    exact zz_lret hC hZ (⟨by refine Eq.symm ?_; rw [fn_cm_real]; refine (if_neg (by (try simp only [d_n]); exact c1)).trans ?_; refine (if_neg (by (try simp only [d_n]); exact c2)).trans ?_; refine (if_pos (by (try simp only [d_n]); exact c44)).trans ?_; refine (if_pos (by (try simp only [d_n]); exact c45)).trans ?_; refine (if_pos (by (try simp only [d_n]); exact c46)).trans ?_; refine (if_neg (by (try simp only [d_n]); exact c50)).trans ?_; first | (simp only [d_n]; done) | rfl, rfl⟩) (Nat.le_of_ble_eq_true rfl) (Nat.le_of_ble_eq_true rfl) dX8_real_226
                  · refine lv_iload hx hb dX8_real_189 (lv_at hl 6 rfl) ?_
                    refine lv_if_eq (tgt := 205) hx hb dX8_real_191 (by decide) (fun c => absurd c (by decide)) (fun c52 => ?_)
                    refine lv_lload hx hb dX8_real_194 (lv_at hl 0 rfl) ?_
                    refine lv_ldc2 hx hb hown (hts _ zk_954) dX8_real_196 ?_
                    refine lv_lor hx hb dX8_real_199 ?_
                    refine lv_l2i hx hb dX8_real_200 rfl ?_
                    refine lv_i2l hx hb dX8_real_201 rfl ?_
                    refine lv_goto (tgt := 226) hx hb dX8_real_202 (by decide) ?_
                    exact zz_lret hC hZ (⟨by refine Eq.symm ?_; rw [fn_cm_real]; refine (if_neg (by (try simp only [d_n]); exact c1)).trans ?_; refine (if_neg (by (try simp only [d_n]); exact c2)).trans ?_; refine (if_pos (by (try simp only [d_n]); exact c44)).trans ?_; refine (if_pos (by (try simp only [d_n]); exact c45)).trans ?_; refine (if_pos (by (try simp only [d_n]); exact c46)).trans ?_; refine (if_pos (by (try simp only [d_n]); exact c50)).trans ?_; first | (simp only [d_n]; done) | rfl, rfl⟩) (Nat.le_of_ble_eq_true rfl) (Nat.le_of_ble_eq_true rfl) dX8_real_226
              · refine lv_lload hx hb dX8_real_119 (lv_at hl 1 rfl) ?_
                refine lv_lload hx hb dX8_real_121 (lv_at hl 0 rfl) ?_
                refine zz_lcmp_ne (tgt := 142) hC dX8_real_123 dX8_real_124 (by decide) (fun c53 => ?_) (fun c53 => ?_)
                · refine lv_lload hx hb dX8_real_142 (lv_at hl 2 rfl) ?_
                  refine lv_iload_n hx hb dX8_real_144 rfl (lv_at hl 9 rfl) ?_
                  refine lv_iconst (v := 1) hx hb dX8_real_145 (by decide) ?_
                  refine lv_iadd hx hb dX8_real_146 ?_
                  refine lv_lushr hx hb dX8_real_147 rfl ?_
                  refine lv_lconst (v := 1) hx hb dX8_real_148 (by decide) ?_
                  refine zz_lcmp_ne (tgt := 165) hC dX8_real_149 dX8_real_150 (by decide) (fun c54 => ?_) (fun c54 => ?_)
                  · refine lv_lload hx hb dX8_real_165 (lv_at hl 4 rfl) ?_
                    refine lv_iload_n hx hb dX8_real_167 rfl (lv_at hl 10 rfl) ?_
                    refine lv_i2l hx hb dX8_real_168 rfl ?_
                    refine lv_ladd hx hb dX8_real_169 ?_
                    refine lv_iload_n hx hb dX8_real_170 rfl (lv_at hl 9 rfl) ?_
                    refine lv_lshl hx hb dX8_real_171 rfl ?_
                    refine lv_lload hx hb dX8_real_172 (lv_at hl 2 rfl) ?_
                    refine lv_lconst (v := 1) hx hb dX8_real_174 (by decide) ?_
                    refine lv_iload_n hx hb dX8_real_175 rfl (lv_at hl 9 rfl) ?_
                    refine lv_lshl hx hb dX8_real_176 rfl ?_
                    refine lv_lconst (v := 1) hx hb dX8_real_177 (by decide) ?_
                    refine lv_lsub hx hb dX8_real_178 ?_
                    refine lv_land hx hb dX8_real_179 ?_
                    refine lv_lor hx hb dX8_real_180 ?_
                    refine lv_lstore (lv' := [(12, .long (((((nI n).toInt64) + j.toInt64 : Int64) <<< ((k : Int32).toInt64 &&& 63)) ||| ((((-x).toUInt64 >>> (((nI n) - k : Int32).toInt64.toUInt64 &&& Int64.toUInt64 63)).toInt64) &&& (((1 : Int64) <<< ((k : Int32).toInt64 &&& 63)) - 1)))), (15, .long ((1 : Int64) <<< ((((nI n) - k) - 1 : Int32).toInt64 &&& 63))), (8, .long (((-x).toUInt64 >>> (((nI n) - k : Int32).toInt64.toUInt64 &&& Int64.toUInt64 63)).toInt64)), (10, .long ((nI n).toInt64)), (7, .int (nI n)), (5, .long (-x)), (4, .int 1), (0, .long x), (2, .int k), (3, .int j)]) hx hb dX8_real_181 hl (by decide) rfl (fun ls hl => ?_)
                    refine lv_iload_n hx hb dX8_real_183 rfl (lv_at hl 8 rfl) ?_
                    refine lv_bipush (v := 23) hx hb dX8_real_184 (by decide) ?_
                    refine lv_icmp_ne (tgt := 210) hx hb dX8_real_186 (by decide) (fun c55 => ?_) (fun c55 => ?_)
                    · refine lv_iload hx hb dX8_real_210 (lv_at hl 6 rfl) ?_
                      refine lv_if_eq (tgt := 224) hx hb dX8_real_212 (by decide) (fun c => absurd c (by decide)) (fun c56 => ?_)
                      refine lv_lload hx hb dX8_real_215 (lv_at hl 0 rfl) ?_
                      refine lv_ldc2 hx hb hown (hts _ zk_947) dX8_real_217 ?_
                      refine lv_lor hx hb dX8_real_220 ?_
                      refine lv_goto (tgt := 226) hx hb dX8_real_221 (by decide) ?_
                      exact zz_lret hC hZ (⟨by refine Eq.symm ?_; rw [fn_cm_real]; refine (if_neg (by (try simp only [d_n]); exact c1)).trans ?_; refine (if_neg (by (try simp only [d_n]); exact c2)).trans ?_; refine (if_pos (by (try simp only [d_n]); exact c44)).trans ?_; refine (if_neg (by (try simp only [d_n]); exact c45)).trans ?_; refine (if_neg (by (try simp only [d_n]); exact c53)).trans ?_; refine (if_neg (by (try simp only [d_n]); exact c54)).trans ?_; refine (if_neg (by (try simp only [d_n]); exact c55)).trans ?_; first | (simp only [d_n]; done) | rfl, rfl⟩) (Nat.le_of_ble_eq_true rfl) (Nat.le_of_ble_eq_true rfl) dX8_real_226
                    · refine lv_iload hx hb dX8_real_189 (lv_at hl 6 rfl) ?_
                      refine lv_if_eq (tgt := 205) hx hb dX8_real_191 (by decide) (fun c => absurd c (by decide)) (fun c57 => ?_)
                      refine lv_lload hx hb dX8_real_194 (lv_at hl 0 rfl) ?_
                      refine lv_ldc2 hx hb hown (hts _ zk_954) dX8_real_196 ?_
                      refine lv_lor hx hb dX8_real_199 ?_
                      refine lv_l2i hx hb dX8_real_200 rfl ?_
                      refine lv_i2l hx hb dX8_real_201 rfl ?_
                      refine lv_goto (tgt := 226) hx hb dX8_real_202 (by decide) ?_
                      exact zz_lret hC hZ (⟨by refine Eq.symm ?_; rw [fn_cm_real]; refine (if_neg (by (try simp only [d_n]); exact c1)).trans ?_; refine (if_neg (by (try simp only [d_n]); exact c2)).trans ?_; refine (if_pos (by (try simp only [d_n]); exact c44)).trans ?_; refine (if_neg (by (try simp only [d_n]); exact c45)).trans ?_; refine (if_neg (by (try simp only [d_n]); exact c53)).trans ?_; refine (if_neg (by (try simp only [d_n]); exact c54)).trans ?_; refine (if_pos (by (try simp only [d_n]); exact c55)).trans ?_; first | (simp only [d_n]; done) | rfl, rfl⟩) (Nat.le_of_ble_eq_true rfl) (Nat.le_of_ble_eq_true rfl) dX8_real_226
                  · refine lv_lload hx hb dX8_real_153 (lv_at hl 2 rfl) ?_
                    refine lv_iconst (v := 1) hx hb dX8_real_155 (by decide) ?_
                    refine lv_lushr hx hb dX8_real_156 rfl ?_
                    refine lv_lstore (lv' := [(8, .long (((((-x).toUInt64 >>> (((nI n) - k : Int32).toInt64.toUInt64 &&& Int64.toUInt64 63)).toInt64).toUInt64 >>> ((1 : Int32).toInt64.toUInt64 &&& Int64.toUInt64 63)).toInt64)), (15, .long ((1 : Int64) <<< ((((nI n) - k) - 1 : Int32).toInt64 &&& 63))), (13, .long ((-x) &&& (((1 : Int64) <<< (((nI n) - k : Int32).toInt64 &&& 63)) - 1))), (12, .int ((nI n) - k)), (10, .long ((nI n).toInt64)), (7, .int (nI n)), (5, .long (-x)), (4, .int 1), (0, .long x), (2, .int k), (3, .int j)]) hx hb dX8_real_157 hl (by decide) rfl (fun ls hl => ?_)
                    refine lv_lload hx hb dX8_real_159 (lv_at hl 4 rfl) ?_
                    refine lv_lconst (v := 1) hx hb dX8_real_161 (by decide) ?_
                    refine lv_ladd hx hb dX8_real_162 ?_
                    refine lv_lstore (lv' := [(10, .long (((nI n).toInt64) + 1)), (8, .long (((((-x).toUInt64 >>> (((nI n) - k : Int32).toInt64.toUInt64 &&& Int64.toUInt64 63)).toInt64).toUInt64 >>> ((1 : Int32).toInt64.toUInt64 &&& Int64.toUInt64 63)).toInt64)), (15, .long ((1 : Int64) <<< ((((nI n) - k) - 1 : Int32).toInt64 &&& 63))), (13, .long ((-x) &&& (((1 : Int64) <<< (((nI n) - k : Int32).toInt64 &&& 63)) - 1))), (12, .int ((nI n) - k)), (7, .int (nI n)), (5, .long (-x)), (4, .int 1), (0, .long x), (2, .int k), (3, .int j)]) hx hb dX8_real_163 hl (by decide) rfl (fun ls hl => ?_)
                    refine lv_lload hx hb dX8_real_165 (lv_at hl 0 rfl) ?_
                    refine lv_iload_n hx hb dX8_real_167 rfl (lv_at hl 10 rfl) ?_
                    refine lv_i2l hx hb dX8_real_168 rfl ?_
                    refine lv_ladd hx hb dX8_real_169 ?_
                    refine lv_iload_n hx hb dX8_real_170 rfl (lv_at hl 9 rfl) ?_
                    refine lv_lshl hx hb dX8_real_171 rfl ?_
                    refine lv_lload hx hb dX8_real_172 (lv_at hl 1 rfl) ?_
                    refine lv_lconst (v := 1) hx hb dX8_real_174 (by decide) ?_
                    refine lv_iload_n hx hb dX8_real_175 rfl (lv_at hl 9 rfl) ?_
                    refine lv_lshl hx hb dX8_real_176 rfl ?_
                    refine lv_lconst (v := 1) hx hb dX8_real_177 (by decide) ?_
                    refine lv_lsub hx hb dX8_real_178 ?_
                    refine lv_land hx hb dX8_real_179 ?_
                    refine lv_lor hx hb dX8_real_180 ?_
                    refine lv_lstore (lv' := [(12, .long ((((((nI n).toInt64) + 1) + j.toInt64 : Int64) <<< ((k : Int32).toInt64 &&& 63)) ||| ((((((-x).toUInt64 >>> (((nI n) - k : Int32).toInt64.toUInt64 &&& Int64.toUInt64 63)).toInt64).toUInt64 >>> ((1 : Int32).toInt64.toUInt64 &&& Int64.toUInt64 63)).toInt64) &&& (((1 : Int64) <<< ((k : Int32).toInt64 &&& 63)) - 1)))), (10, .long (((nI n).toInt64) + 1)), (8, .long (((((-x).toUInt64 >>> (((nI n) - k : Int32).toInt64.toUInt64 &&& Int64.toUInt64 63)).toInt64).toUInt64 >>> ((1 : Int32).toInt64.toUInt64 &&& Int64.toUInt64 63)).toInt64)), (15, .long ((1 : Int64) <<< ((((nI n) - k) - 1 : Int32).toInt64 &&& 63))), (7, .int (nI n)), (5, .long (-x)), (4, .int 1), (0, .long x), (2, .int k), (3, .int j)]) hx hb dX8_real_181 hl (by decide) rfl (fun ls hl => ?_)
                    refine lv_iload_n hx hb dX8_real_183 rfl (lv_at hl 8 rfl) ?_
                    refine lv_bipush (v := 23) hx hb dX8_real_184 (by decide) ?_
                    refine lv_icmp_ne (tgt := 210) hx hb dX8_real_186 (by decide) (fun c58 => ?_) (fun c58 => ?_)
                    · refine lv_iload hx hb dX8_real_210 (lv_at hl 6 rfl) ?_
                      refine lv_if_eq (tgt := 224) hx hb dX8_real_212 (by decide) (fun c => absurd c (by decide)) (fun c59 => ?_)
                      refine lv_lload hx hb dX8_real_215 (lv_at hl 0 rfl) ?_
                      refine lv_ldc2 hx hb hown (hts _ zk_947) dX8_real_217 ?_
                      refine lv_lor hx hb dX8_real_220 ?_
                      refine lv_goto (tgt := 226) hx hb dX8_real_221 (by decide) ?_
                      exact zz_lret hC hZ (⟨by refine Eq.symm ?_; rw [fn_cm_real]; refine (if_neg (by (try simp only [d_n]); exact c1)).trans ?_; refine (if_neg (by (try simp only [d_n]); exact c2)).trans ?_; refine (if_pos (by (try simp only [d_n]); exact c44)).trans ?_; refine (if_neg (by (try simp only [d_n]); exact c45)).trans ?_; refine (if_neg (by (try simp only [d_n]); exact c53)).trans ?_; refine (if_pos (by (try simp only [d_n]); exact c54)).trans ?_; refine (if_neg (by (try simp only [d_n]); exact c58)).trans ?_; first | (simp only [d_n]; done) | rfl, rfl⟩) (Nat.le_of_ble_eq_true rfl) (Nat.le_of_ble_eq_true rfl) dX8_real_226
                    · refine lv_iload hx hb dX8_real_189 (lv_at hl 6 rfl) ?_
                      refine lv_if_eq (tgt := 205) hx hb dX8_real_191 (by decide) (fun c => absurd c (by decide)) (fun c60 => ?_)
                      refine lv_lload hx hb dX8_real_194 (lv_at hl 0 rfl) ?_
                      refine lv_ldc2 hx hb hown (hts _ zk_954) dX8_real_196 ?_
                      refine lv_lor hx hb dX8_real_199 ?_
                      refine lv_l2i hx hb dX8_real_200 rfl ?_
                      refine lv_i2l hx hb dX8_real_201 rfl ?_
                      refine lv_goto (tgt := 226) hx hb dX8_real_202 (by decide) ?_
                      exact zz_lret hC hZ (⟨by refine Eq.symm ?_; rw [fn_cm_real]; refine (if_neg (by (try simp only [d_n]); exact c1)).trans ?_; refine (if_neg (by (try simp only [d_n]); exact c2)).trans ?_; refine (if_pos (by (try simp only [d_n]); exact c44)).trans ?_; refine (if_neg (by (try simp only [d_n]); exact c45)).trans ?_; refine (if_neg (by (try simp only [d_n]); exact c53)).trans ?_; refine (if_pos (by (try simp only [d_n]); exact c54)).trans ?_; refine (if_pos (by (try simp only [d_n]); exact c58)).trans ?_; first | (simp only [d_n]; done) | rfl, rfl⟩) (Nat.le_of_ble_eq_true rfl) (Nat.le_of_ble_eq_true rfl) dX8_real_226
                · refine lv_lload hx hb dX8_real_127 (lv_at hl 2 rfl) ?_
                  refine lv_lconst (v := 1) hx hb dX8_real_129 (by decide) ?_
                  refine lv_land hx hb dX8_real_130 ?_
                  refine lv_lconst (v := 1) hx hb dX8_real_131 (by decide) ?_
                  refine zz_lcmp_ne (tgt := 142) hC dX8_real_132 dX8_real_133 (by decide) (fun c61 => ?_) (fun c61 => ?_)
                  · refine lv_lload hx hb dX8_real_142 (lv_at hl 2 rfl) ?_
                    refine lv_iload_n hx hb dX8_real_144 rfl (lv_at hl 9 rfl) ?_
                    refine lv_iconst (v := 1) hx hb dX8_real_145 (by decide) ?_
                    refine lv_iadd hx hb dX8_real_146 ?_
                    refine lv_lushr hx hb dX8_real_147 rfl ?_
                    refine lv_lconst (v := 1) hx hb dX8_real_148 (by decide) ?_
                    refine zz_lcmp_ne (tgt := 165) hC dX8_real_149 dX8_real_150 (by decide) (fun c62 => ?_) (fun c62 => ?_)
                    · refine lv_lload hx hb dX8_real_165 (lv_at hl 4 rfl) ?_
                      refine lv_iload_n hx hb dX8_real_167 rfl (lv_at hl 10 rfl) ?_
                      refine lv_i2l hx hb dX8_real_168 rfl ?_
                      refine lv_ladd hx hb dX8_real_169 ?_
                      refine lv_iload_n hx hb dX8_real_170 rfl (lv_at hl 9 rfl) ?_
                      refine lv_lshl hx hb dX8_real_171 rfl ?_
                      refine lv_lload hx hb dX8_real_172 (lv_at hl 2 rfl) ?_
                      refine lv_lconst (v := 1) hx hb dX8_real_174 (by decide) ?_
                      refine lv_iload_n hx hb dX8_real_175 rfl (lv_at hl 9 rfl) ?_
                      refine lv_lshl hx hb dX8_real_176 rfl ?_
                      refine lv_lconst (v := 1) hx hb dX8_real_177 (by decide) ?_
                      refine lv_lsub hx hb dX8_real_178 ?_
                      refine lv_land hx hb dX8_real_179 ?_
                      refine lv_lor hx hb dX8_real_180 ?_
                      refine lv_lstore (lv' := [(12, .long (((((nI n).toInt64) + j.toInt64 : Int64) <<< ((k : Int32).toInt64 &&& 63)) ||| ((((-x).toUInt64 >>> (((nI n) - k : Int32).toInt64.toUInt64 &&& Int64.toUInt64 63)).toInt64) &&& (((1 : Int64) <<< ((k : Int32).toInt64 &&& 63)) - 1)))), (15, .long ((1 : Int64) <<< ((((nI n) - k) - 1 : Int32).toInt64 &&& 63))), (8, .long (((-x).toUInt64 >>> (((nI n) - k : Int32).toInt64.toUInt64 &&& Int64.toUInt64 63)).toInt64)), (10, .long ((nI n).toInt64)), (7, .int (nI n)), (5, .long (-x)), (4, .int 1), (0, .long x), (2, .int k), (3, .int j)]) hx hb dX8_real_181 hl (by decide) rfl (fun ls hl => ?_)
                      refine lv_iload_n hx hb dX8_real_183 rfl (lv_at hl 8 rfl) ?_
                      refine lv_bipush (v := 23) hx hb dX8_real_184 (by decide) ?_
                      refine lv_icmp_ne (tgt := 210) hx hb dX8_real_186 (by decide) (fun c63 => ?_) (fun c63 => ?_)
                      · refine lv_iload hx hb dX8_real_210 (lv_at hl 6 rfl) ?_
                        refine lv_if_eq (tgt := 224) hx hb dX8_real_212 (by decide) (fun c => absurd c (by decide)) (fun c64 => ?_)
                        refine lv_lload hx hb dX8_real_215 (lv_at hl 0 rfl) ?_
                        refine lv_ldc2 hx hb hown (hts _ zk_947) dX8_real_217 ?_
                        refine lv_lor hx hb dX8_real_220 ?_
                        refine lv_goto (tgt := 226) hx hb dX8_real_221 (by decide) ?_
                        exact zz_lret hC hZ (⟨by refine Eq.symm ?_; rw [fn_cm_real]; refine (if_neg (by (try simp only [d_n]); exact c1)).trans ?_; refine (if_neg (by (try simp only [d_n]); exact c2)).trans ?_; refine (if_pos (by (try simp only [d_n]); exact c44)).trans ?_; refine (if_neg (by (try simp only [d_n]); exact c45)).trans ?_; refine (if_pos (by (try simp only [d_n]); exact c53)).trans ?_; refine (if_neg (by (try simp only [d_n]); exact c61)).trans ?_; refine (if_neg (by (try simp only [d_n]); exact c62)).trans ?_; refine (if_neg (by (try simp only [d_n]); exact c63)).trans ?_; first | (simp only [d_n]; done) | rfl, rfl⟩) (Nat.le_of_ble_eq_true rfl) (Nat.le_of_ble_eq_true rfl) dX8_real_226
                      · refine lv_iload hx hb dX8_real_189 (lv_at hl 6 rfl) ?_
                        refine lv_if_eq (tgt := 205) hx hb dX8_real_191 (by decide) (fun c => absurd c (by decide)) (fun c65 => ?_)
                        refine lv_lload hx hb dX8_real_194 (lv_at hl 0 rfl) ?_
                        refine lv_ldc2 hx hb hown (hts _ zk_954) dX8_real_196 ?_
                        refine lv_lor hx hb dX8_real_199 ?_
                        refine lv_l2i hx hb dX8_real_200 rfl ?_
                        refine lv_i2l hx hb dX8_real_201 rfl ?_
                        refine lv_goto (tgt := 226) hx hb dX8_real_202 (by decide) ?_
                        exact zz_lret hC hZ (⟨by refine Eq.symm ?_; rw [fn_cm_real]; refine (if_neg (by (try simp only [d_n]); exact c1)).trans ?_; refine (if_neg (by (try simp only [d_n]); exact c2)).trans ?_; refine (if_pos (by (try simp only [d_n]); exact c44)).trans ?_; refine (if_neg (by (try simp only [d_n]); exact c45)).trans ?_; refine (if_pos (by (try simp only [d_n]); exact c53)).trans ?_; refine (if_neg (by (try simp only [d_n]); exact c61)).trans ?_; refine (if_neg (by (try simp only [d_n]); exact c62)).trans ?_; refine (if_pos (by (try simp only [d_n]); exact c63)).trans ?_; first | (simp only [d_n]; done) | rfl, rfl⟩) (Nat.le_of_ble_eq_true rfl) (Nat.le_of_ble_eq_true rfl) dX8_real_226
                    · refine lv_lload hx hb dX8_real_153 (lv_at hl 2 rfl) ?_
                      refine lv_iconst (v := 1) hx hb dX8_real_155 (by decide) ?_
                      refine lv_lushr hx hb dX8_real_156 rfl ?_
                      refine lv_lstore (lv' := [(8, .long (((((-x).toUInt64 >>> (((nI n) - k : Int32).toInt64.toUInt64 &&& Int64.toUInt64 63)).toInt64).toUInt64 >>> ((1 : Int32).toInt64.toUInt64 &&& Int64.toUInt64 63)).toInt64)), (15, .long ((1 : Int64) <<< ((((nI n) - k) - 1 : Int32).toInt64 &&& 63))), (13, .long ((-x) &&& (((1 : Int64) <<< (((nI n) - k : Int32).toInt64 &&& 63)) - 1))), (12, .int ((nI n) - k)), (10, .long ((nI n).toInt64)), (7, .int (nI n)), (5, .long (-x)), (4, .int 1), (0, .long x), (2, .int k), (3, .int j)]) hx hb dX8_real_157 hl (by decide) rfl (fun ls hl => ?_)
                      refine lv_lload hx hb dX8_real_159 (lv_at hl 4 rfl) ?_
                      refine lv_lconst (v := 1) hx hb dX8_real_161 (by decide) ?_
                      refine lv_ladd hx hb dX8_real_162 ?_
                      refine lv_lstore (lv' := [(10, .long (((nI n).toInt64) + 1)), (8, .long (((((-x).toUInt64 >>> (((nI n) - k : Int32).toInt64.toUInt64 &&& Int64.toUInt64 63)).toInt64).toUInt64 >>> ((1 : Int32).toInt64.toUInt64 &&& Int64.toUInt64 63)).toInt64)), (15, .long ((1 : Int64) <<< ((((nI n) - k) - 1 : Int32).toInt64 &&& 63))), (13, .long ((-x) &&& (((1 : Int64) <<< (((nI n) - k : Int32).toInt64 &&& 63)) - 1))), (12, .int ((nI n) - k)), (7, .int (nI n)), (5, .long (-x)), (4, .int 1), (0, .long x), (2, .int k), (3, .int j)]) hx hb dX8_real_163 hl (by decide) rfl (fun ls hl => ?_)
                      refine lv_lload hx hb dX8_real_165 (lv_at hl 0 rfl) ?_
                      refine lv_iload_n hx hb dX8_real_167 rfl (lv_at hl 10 rfl) ?_
                      refine lv_i2l hx hb dX8_real_168 rfl ?_
                      refine lv_ladd hx hb dX8_real_169 ?_
                      refine lv_iload_n hx hb dX8_real_170 rfl (lv_at hl 9 rfl) ?_
                      refine lv_lshl hx hb dX8_real_171 rfl ?_
                      refine lv_lload hx hb dX8_real_172 (lv_at hl 1 rfl) ?_
                      refine lv_lconst (v := 1) hx hb dX8_real_174 (by decide) ?_
                      refine lv_iload_n hx hb dX8_real_175 rfl (lv_at hl 9 rfl) ?_
                      refine lv_lshl hx hb dX8_real_176 rfl ?_
                      refine lv_lconst (v := 1) hx hb dX8_real_177 (by decide) ?_
                      refine lv_lsub hx hb dX8_real_178 ?_
                      refine lv_land hx hb dX8_real_179 ?_
                      refine lv_lor hx hb dX8_real_180 ?_
                      refine lv_lstore (lv' := [(12, .long ((((((nI n).toInt64) + 1) + j.toInt64 : Int64) <<< ((k : Int32).toInt64 &&& 63)) ||| ((((((-x).toUInt64 >>> (((nI n) - k : Int32).toInt64.toUInt64 &&& Int64.toUInt64 63)).toInt64).toUInt64 >>> ((1 : Int32).toInt64.toUInt64 &&& Int64.toUInt64 63)).toInt64) &&& (((1 : Int64) <<< ((k : Int32).toInt64 &&& 63)) - 1)))), (10, .long (((nI n).toInt64) + 1)), (8, .long (((((-x).toUInt64 >>> (((nI n) - k : Int32).toInt64.toUInt64 &&& Int64.toUInt64 63)).toInt64).toUInt64 >>> ((1 : Int32).toInt64.toUInt64 &&& Int64.toUInt64 63)).toInt64)), (15, .long ((1 : Int64) <<< ((((nI n) - k) - 1 : Int32).toInt64 &&& 63))), (7, .int (nI n)), (5, .long (-x)), (4, .int 1), (0, .long x), (2, .int k), (3, .int j)]) hx hb dX8_real_181 hl (by decide) rfl (fun ls hl => ?_)
                      refine lv_iload_n hx hb dX8_real_183 rfl (lv_at hl 8 rfl) ?_
                      refine lv_bipush (v := 23) hx hb dX8_real_184 (by decide) ?_
                      refine lv_icmp_ne (tgt := 210) hx hb dX8_real_186 (by decide) (fun c66 => ?_) (fun c66 => ?_)
                      · refine lv_iload hx hb dX8_real_210 (lv_at hl 6 rfl) ?_
                        refine lv_if_eq (tgt := 224) hx hb dX8_real_212 (by decide) (fun c => absurd c (by decide)) (fun c67 => ?_)
                        refine lv_lload hx hb dX8_real_215 (lv_at hl 0 rfl) ?_
                        refine lv_ldc2 hx hb hown (hts _ zk_947) dX8_real_217 ?_
                        refine lv_lor hx hb dX8_real_220 ?_
                        refine lv_goto (tgt := 226) hx hb dX8_real_221 (by decide) ?_
                        exact zz_lret hC hZ (⟨by refine Eq.symm ?_; rw [fn_cm_real]; refine (if_neg (by (try simp only [d_n]); exact c1)).trans ?_; refine (if_neg (by (try simp only [d_n]); exact c2)).trans ?_; refine (if_pos (by (try simp only [d_n]); exact c44)).trans ?_; refine (if_neg (by (try simp only [d_n]); exact c45)).trans ?_; refine (if_pos (by (try simp only [d_n]); exact c53)).trans ?_; refine (if_neg (by (try simp only [d_n]); exact c61)).trans ?_; refine (if_pos (by (try simp only [d_n]); exact c62)).trans ?_; refine (if_neg (by (try simp only [d_n]); exact c66)).trans ?_; first | (simp only [d_n]; done) | rfl, rfl⟩) (Nat.le_of_ble_eq_true rfl) (Nat.le_of_ble_eq_true rfl) dX8_real_226
                      · refine lv_iload hx hb dX8_real_189 (lv_at hl 6 rfl) ?_
                        refine lv_if_eq (tgt := 205) hx hb dX8_real_191 (by decide) (fun c => absurd c (by decide)) (fun c68 => ?_)
                        refine lv_lload hx hb dX8_real_194 (lv_at hl 0 rfl) ?_
                        refine lv_ldc2 hx hb hown (hts _ zk_954) dX8_real_196 ?_
                        refine lv_lor hx hb dX8_real_199 ?_
                        refine lv_l2i hx hb dX8_real_200 rfl ?_
                        refine lv_i2l hx hb dX8_real_201 rfl ?_
                        refine lv_goto (tgt := 226) hx hb dX8_real_202 (by decide) ?_
                        exact zz_lret hC hZ (⟨by refine Eq.symm ?_; rw [fn_cm_real]; refine (if_neg (by (try simp only [d_n]); exact c1)).trans ?_; refine (if_neg (by (try simp only [d_n]); exact c2)).trans ?_; refine (if_pos (by (try simp only [d_n]); exact c44)).trans ?_; refine (if_neg (by (try simp only [d_n]); exact c45)).trans ?_; refine (if_pos (by (try simp only [d_n]); exact c53)).trans ?_; refine (if_neg (by (try simp only [d_n]); exact c61)).trans ?_; refine (if_pos (by (try simp only [d_n]); exact c62)).trans ?_; refine (if_pos (by (try simp only [d_n]); exact c66)).trans ?_; first | (simp only [d_n]; done) | rfl, rfl⟩) (Nat.le_of_ble_eq_true rfl) (Nat.le_of_ble_eq_true rfl) dX8_real_226
                  · refine lv_lload hx hb dX8_real_136 (lv_at hl 2 rfl) ?_
                    refine lv_lconst (v := 1) hx hb dX8_real_138 (by decide) ?_
                    refine lv_ladd hx hb dX8_real_139 ?_
                    refine lv_lstore (lv' := [(8, .long ((((-x).toUInt64 >>> (((nI n) - k : Int32).toInt64.toUInt64 &&& Int64.toUInt64 63)).toInt64) + 1)), (15, .long ((1 : Int64) <<< ((((nI n) - k) - 1 : Int32).toInt64 &&& 63))), (13, .long ((-x) &&& (((1 : Int64) <<< (((nI n) - k : Int32).toInt64 &&& 63)) - 1))), (12, .int ((nI n) - k)), (10, .long ((nI n).toInt64)), (7, .int (nI n)), (5, .long (-x)), (4, .int 1), (0, .long x), (2, .int k), (3, .int j)]) hx hb dX8_real_140 hl (by decide) rfl (fun ls hl => ?_)
                    refine lv_lload hx hb dX8_real_142 (lv_at hl 0 rfl) ?_
                    refine lv_iload_n hx hb dX8_real_144 rfl (lv_at hl 9 rfl) ?_
                    refine lv_iconst (v := 1) hx hb dX8_real_145 (by decide) ?_
                    refine lv_iadd hx hb dX8_real_146 ?_
                    refine lv_lushr hx hb dX8_real_147 rfl ?_
                    refine lv_lconst (v := 1) hx hb dX8_real_148 (by decide) ?_
                    refine zz_lcmp_ne (tgt := 165) hC dX8_real_149 dX8_real_150 (by decide) (fun c69 => ?_) (fun c69 => ?_)
                    · refine lv_lload hx hb dX8_real_165 (lv_at hl 4 rfl) ?_
                      refine lv_iload_n hx hb dX8_real_167 rfl (lv_at hl 10 rfl) ?_
                      refine lv_i2l hx hb dX8_real_168 rfl ?_
                      refine lv_ladd hx hb dX8_real_169 ?_
                      refine lv_iload_n hx hb dX8_real_170 rfl (lv_at hl 9 rfl) ?_
                      refine lv_lshl hx hb dX8_real_171 rfl ?_
                      refine lv_lload hx hb dX8_real_172 (lv_at hl 0 rfl) ?_
                      refine lv_lconst (v := 1) hx hb dX8_real_174 (by decide) ?_
                      refine lv_iload_n hx hb dX8_real_175 rfl (lv_at hl 9 rfl) ?_
                      refine lv_lshl hx hb dX8_real_176 rfl ?_
                      refine lv_lconst (v := 1) hx hb dX8_real_177 (by decide) ?_
                      refine lv_lsub hx hb dX8_real_178 ?_
                      refine lv_land hx hb dX8_real_179 ?_
                      refine lv_lor hx hb dX8_real_180 ?_
                      refine lv_lstore (lv' := [(12, .long (((((nI n).toInt64) + j.toInt64 : Int64) <<< ((k : Int32).toInt64 &&& 63)) ||| (((((-x).toUInt64 >>> (((nI n) - k : Int32).toInt64.toUInt64 &&& Int64.toUInt64 63)).toInt64) + 1) &&& (((1 : Int64) <<< ((k : Int32).toInt64 &&& 63)) - 1)))), (8, .long ((((-x).toUInt64 >>> (((nI n) - k : Int32).toInt64.toUInt64 &&& Int64.toUInt64 63)).toInt64) + 1)), (15, .long ((1 : Int64) <<< ((((nI n) - k) - 1 : Int32).toInt64 &&& 63))), (10, .long ((nI n).toInt64)), (7, .int (nI n)), (5, .long (-x)), (4, .int 1), (0, .long x), (2, .int k), (3, .int j)]) hx hb dX8_real_181 hl (by decide) rfl (fun ls hl => ?_)
                      refine lv_iload_n hx hb dX8_real_183 rfl (lv_at hl 8 rfl) ?_
                      refine lv_bipush (v := 23) hx hb dX8_real_184 (by decide) ?_
                      refine lv_icmp_ne (tgt := 210) hx hb dX8_real_186 (by decide) (fun c70 => ?_) (fun c70 => ?_)
                      · refine lv_iload hx hb dX8_real_210 (lv_at hl 6 rfl) ?_
                        refine lv_if_eq (tgt := 224) hx hb dX8_real_212 (by decide) (fun c => absurd c (by decide)) (fun c71 => ?_)
                        refine lv_lload hx hb dX8_real_215 (lv_at hl 0 rfl) ?_
                        refine lv_ldc2 hx hb hown (hts _ zk_947) dX8_real_217 ?_
                        refine lv_lor hx hb dX8_real_220 ?_
                        refine lv_goto (tgt := 226) hx hb dX8_real_221 (by decide) ?_
                        exact zz_lret hC hZ (⟨by refine Eq.symm ?_; rw [fn_cm_real]; refine (if_neg (by (try simp only [d_n]); exact c1)).trans ?_; refine (if_neg (by (try simp only [d_n]); exact c2)).trans ?_; refine (if_pos (by (try simp only [d_n]); exact c44)).trans ?_; refine (if_neg (by (try simp only [d_n]); exact c45)).trans ?_; refine (if_pos (by (try simp only [d_n]); exact c53)).trans ?_; refine (if_pos (by (try simp only [d_n]); exact c61)).trans ?_; refine (if_neg (by (try simp only [d_n]); exact c69)).trans ?_; refine (if_neg (by (try simp only [d_n]); exact c70)).trans ?_; first | (simp only [d_n]; done) | rfl, rfl⟩) (Nat.le_of_ble_eq_true rfl) (Nat.le_of_ble_eq_true rfl) dX8_real_226
                      · refine lv_iload hx hb dX8_real_189 (lv_at hl 6 rfl) ?_
                        refine lv_if_eq (tgt := 205) hx hb dX8_real_191 (by decide) (fun c => absurd c (by decide)) (fun c72 => ?_)
                        refine lv_lload hx hb dX8_real_194 (lv_at hl 0 rfl) ?_
                        refine lv_ldc2 hx hb hown (hts _ zk_954) dX8_real_196 ?_
                        refine lv_lor hx hb dX8_real_199 ?_
                        refine lv_l2i hx hb dX8_real_200 rfl ?_
                        refine lv_i2l hx hb dX8_real_201 rfl ?_
                        refine lv_goto (tgt := 226) hx hb dX8_real_202 (by decide) ?_
                        exact zz_lret hC hZ (⟨by refine Eq.symm ?_; rw [fn_cm_real]; refine (if_neg (by (try simp only [d_n]); exact c1)).trans ?_; refine (if_neg (by (try simp only [d_n]); exact c2)).trans ?_; refine (if_pos (by (try simp only [d_n]); exact c44)).trans ?_; refine (if_neg (by (try simp only [d_n]); exact c45)).trans ?_; refine (if_pos (by (try simp only [d_n]); exact c53)).trans ?_; refine (if_pos (by (try simp only [d_n]); exact c61)).trans ?_; refine (if_neg (by (try simp only [d_n]); exact c69)).trans ?_; refine (if_pos (by (try simp only [d_n]); exact c70)).trans ?_; first | (simp only [d_n]; done) | rfl, rfl⟩) (Nat.le_of_ble_eq_true rfl) (Nat.le_of_ble_eq_true rfl) dX8_real_226
                    · refine lv_lload hx hb dX8_real_153 (lv_at hl 0 rfl) ?_
                      refine lv_iconst (v := 1) hx hb dX8_real_155 (by decide) ?_
                      refine lv_lushr hx hb dX8_real_156 rfl ?_
                      refine lv_lstore (lv' := [(8, .long ((((((-x).toUInt64 >>> (((nI n) - k : Int32).toInt64.toUInt64 &&& Int64.toUInt64 63)).toInt64) + 1).toUInt64 >>> ((1 : Int32).toInt64.toUInt64 &&& Int64.toUInt64 63)).toInt64)), (15, .long ((1 : Int64) <<< ((((nI n) - k) - 1 : Int32).toInt64 &&& 63))), (13, .long ((-x) &&& (((1 : Int64) <<< (((nI n) - k : Int32).toInt64 &&& 63)) - 1))), (12, .int ((nI n) - k)), (10, .long ((nI n).toInt64)), (7, .int (nI n)), (5, .long (-x)), (4, .int 1), (0, .long x), (2, .int k), (3, .int j)]) hx hb dX8_real_157 hl (by decide) rfl (fun ls hl => ?_)
                      refine lv_lload hx hb dX8_real_159 (lv_at hl 4 rfl) ?_
                      refine lv_lconst (v := 1) hx hb dX8_real_161 (by decide) ?_
                      refine lv_ladd hx hb dX8_real_162 ?_
                      refine lv_lstore (lv' := [(10, .long (((nI n).toInt64) + 1)), (8, .long ((((((-x).toUInt64 >>> (((nI n) - k : Int32).toInt64.toUInt64 &&& Int64.toUInt64 63)).toInt64) + 1).toUInt64 >>> ((1 : Int32).toInt64.toUInt64 &&& Int64.toUInt64 63)).toInt64)), (15, .long ((1 : Int64) <<< ((((nI n) - k) - 1 : Int32).toInt64 &&& 63))), (13, .long ((-x) &&& (((1 : Int64) <<< (((nI n) - k : Int32).toInt64 &&& 63)) - 1))), (12, .int ((nI n) - k)), (7, .int (nI n)), (5, .long (-x)), (4, .int 1), (0, .long x), (2, .int k), (3, .int j)]) hx hb dX8_real_163 hl (by decide) rfl (fun ls hl => ?_)
                      refine lv_lload hx hb dX8_real_165 (lv_at hl 0 rfl) ?_
                      refine lv_iload_n hx hb dX8_real_167 rfl (lv_at hl 10 rfl) ?_
                      refine lv_i2l hx hb dX8_real_168 rfl ?_
                      refine lv_ladd hx hb dX8_real_169 ?_
                      refine lv_iload_n hx hb dX8_real_170 rfl (lv_at hl 9 rfl) ?_
                      refine lv_lshl hx hb dX8_real_171 rfl ?_
                      refine lv_lload hx hb dX8_real_172 (lv_at hl 1 rfl) ?_
                      refine lv_lconst (v := 1) hx hb dX8_real_174 (by decide) ?_
                      refine lv_iload_n hx hb dX8_real_175 rfl (lv_at hl 9 rfl) ?_
                      refine lv_lshl hx hb dX8_real_176 rfl ?_
                      refine lv_lconst (v := 1) hx hb dX8_real_177 (by decide) ?_
                      refine lv_lsub hx hb dX8_real_178 ?_
                      refine lv_land hx hb dX8_real_179 ?_
                      refine lv_lor hx hb dX8_real_180 ?_
                      refine lv_lstore (lv' := [(12, .long ((((((nI n).toInt64) + 1) + j.toInt64 : Int64) <<< ((k : Int32).toInt64 &&& 63)) ||| (((((((-x).toUInt64 >>> (((nI n) - k : Int32).toInt64.toUInt64 &&& Int64.toUInt64 63)).toInt64) + 1).toUInt64 >>> ((1 : Int32).toInt64.toUInt64 &&& Int64.toUInt64 63)).toInt64) &&& (((1 : Int64) <<< ((k : Int32).toInt64 &&& 63)) - 1)))), (10, .long (((nI n).toInt64) + 1)), (8, .long ((((((-x).toUInt64 >>> (((nI n) - k : Int32).toInt64.toUInt64 &&& Int64.toUInt64 63)).toInt64) + 1).toUInt64 >>> ((1 : Int32).toInt64.toUInt64 &&& Int64.toUInt64 63)).toInt64)), (15, .long ((1 : Int64) <<< ((((nI n) - k) - 1 : Int32).toInt64 &&& 63))), (7, .int (nI n)), (5, .long (-x)), (4, .int 1), (0, .long x), (2, .int k), (3, .int j)]) hx hb dX8_real_181 hl (by decide) rfl (fun ls hl => ?_)
                      refine lv_iload_n hx hb dX8_real_183 rfl (lv_at hl 8 rfl) ?_
                      refine lv_bipush (v := 23) hx hb dX8_real_184 (by decide) ?_
                      refine lv_icmp_ne (tgt := 210) hx hb dX8_real_186 (by decide) (fun c73 => ?_) (fun c73 => ?_)
                      · refine lv_iload hx hb dX8_real_210 (lv_at hl 6 rfl) ?_
                        refine lv_if_eq (tgt := 224) hx hb dX8_real_212 (by decide) (fun c => absurd c (by decide)) (fun c74 => ?_)
                        refine lv_lload hx hb dX8_real_215 (lv_at hl 0 rfl) ?_
                        refine lv_ldc2 hx hb hown (hts _ zk_947) dX8_real_217 ?_
                        refine lv_lor hx hb dX8_real_220 ?_
                        refine lv_goto (tgt := 226) hx hb dX8_real_221 (by decide) ?_
                        exact zz_lret hC hZ (⟨by refine Eq.symm ?_; rw [fn_cm_real]; refine (if_neg (by (try simp only [d_n]); exact c1)).trans ?_; refine (if_neg (by (try simp only [d_n]); exact c2)).trans ?_; refine (if_pos (by (try simp only [d_n]); exact c44)).trans ?_; refine (if_neg (by (try simp only [d_n]); exact c45)).trans ?_; refine (if_pos (by (try simp only [d_n]); exact c53)).trans ?_; refine (if_pos (by (try simp only [d_n]); exact c61)).trans ?_; refine (if_pos (by (try simp only [d_n]); exact c69)).trans ?_; refine (if_neg (by (try simp only [d_n]); exact c73)).trans ?_; first | (simp only [d_n]; done) | rfl, rfl⟩) (Nat.le_of_ble_eq_true rfl) (Nat.le_of_ble_eq_true rfl) dX8_real_226
                      · refine lv_iload hx hb dX8_real_189 (lv_at hl 6 rfl) ?_
                        refine lv_if_eq (tgt := 205) hx hb dX8_real_191 (by decide) (fun c => absurd c (by decide)) (fun c75 => ?_)
                        refine lv_lload hx hb dX8_real_194 (lv_at hl 0 rfl) ?_
                        refine lv_ldc2 hx hb hown (hts _ zk_954) dX8_real_196 ?_
                        refine lv_lor hx hb dX8_real_199 ?_
                        refine lv_l2i hx hb dX8_real_200 rfl ?_
                        refine lv_i2l hx hb dX8_real_201 rfl ?_
                        refine lv_goto (tgt := 226) hx hb dX8_real_202 (by decide) ?_
                        exact zz_lret hC hZ (⟨by refine Eq.symm ?_; rw [fn_cm_real]; refine (if_neg (by (try simp only [d_n]); exact c1)).trans ?_; refine (if_neg (by (try simp only [d_n]); exact c2)).trans ?_; refine (if_pos (by (try simp only [d_n]); exact c44)).trans ?_; refine (if_neg (by (try simp only [d_n]); exact c45)).trans ?_; refine (if_pos (by (try simp only [d_n]); exact c53)).trans ?_; refine (if_pos (by (try simp only [d_n]); exact c61)).trans ?_; refine (if_pos (by (try simp only [d_n]); exact c69)).trans ?_; refine (if_pos (by (try simp only [d_n]); exact c73)).trans ?_; first | (simp only [d_n]; done) | rfl, rfl⟩) (Nat.le_of_ble_eq_true rfl) (Nat.le_of_ble_eq_true rfl) dX8_real_226
            · refine lv_lload hx hb dX8_real_67 (lv_at hl 2 rfl) ?_
              refine lv_iload_n hx hb dX8_real_69 rfl (lv_at hl 5 rfl) ?_
              refine lv_iload hx hb dX8_real_70 (lv_at hl 1 rfl) ?_
              refine lv_isub hx hb dX8_real_72 ?_
              refine lv_lshl hx hb dX8_real_73 rfl ?_
              refine lv_lstore (lv' := [(8, .long ((-x : Int64) <<< ((k - (nI n) : Int32).toInt64 &&& 63))), (10, .long ((nI n).toInt64)), (7, .int (nI n)), (5, .long (-x)), (4, .int 1), (0, .long x), (2, .int k), (3, .int j)]) hx hb dX8_real_74 hl (by decide) rfl (fun ls hl => ?_)
              refine lv_goto (tgt := 165) hx hb dX8_real_76 (by decide) ?_
              refine lv_lload hx hb dX8_real_165 (lv_at hl 1 rfl) ?_
              refine lv_iload_n hx hb dX8_real_167 rfl (lv_at hl 7 rfl) ?_
              refine lv_i2l hx hb dX8_real_168 rfl ?_
              refine lv_ladd hx hb dX8_real_169 ?_
              refine lv_iload_n hx hb dX8_real_170 rfl (lv_at hl 6 rfl) ?_
              refine lv_lshl hx hb dX8_real_171 rfl ?_
              refine lv_lload hx hb dX8_real_172 (lv_at hl 0 rfl) ?_
              refine lv_lconst (v := 1) hx hb dX8_real_174 (by decide) ?_
              refine lv_iload_n hx hb dX8_real_175 rfl (lv_at hl 6 rfl) ?_
              refine lv_lshl hx hb dX8_real_176 rfl ?_
              refine lv_lconst (v := 1) hx hb dX8_real_177 (by decide) ?_
              refine lv_lsub hx hb dX8_real_178 ?_
              refine lv_land hx hb dX8_real_179 ?_
              refine lv_lor hx hb dX8_real_180 ?_
              refine lv_lstore (lv' := [(12, .long (((((nI n).toInt64) + j.toInt64 : Int64) <<< ((k : Int32).toInt64 &&& 63)) ||| (((-x : Int64) <<< ((k - (nI n) : Int32).toInt64 &&& 63)) &&& (((1 : Int64) <<< ((k : Int32).toInt64 &&& 63)) - 1)))), (8, .long ((-x : Int64) <<< ((k - (nI n) : Int32).toInt64 &&& 63))), (10, .long ((nI n).toInt64)), (7, .int (nI n)), (5, .long (-x)), (4, .int 1), (0, .long x), (2, .int k), (3, .int j)]) hx hb dX8_real_181 hl (by decide) rfl (fun ls hl => ?_)
              refine lv_iload_n hx hb dX8_real_183 rfl (lv_at hl 7 rfl) ?_
              refine lv_bipush (v := 23) hx hb dX8_real_184 (by decide) ?_
              refine lv_icmp_ne (tgt := 210) hx hb dX8_real_186 (by decide) (fun c76 => ?_) (fun c76 => ?_)
              · refine lv_iload hx hb dX8_real_210 (lv_at hl 5 rfl) ?_
                refine lv_if_eq (tgt := 224) hx hb dX8_real_212 (by decide) (fun c => absurd c (by decide)) (fun c77 => ?_)
                refine lv_lload hx hb dX8_real_215 (lv_at hl 0 rfl) ?_
                refine lv_ldc2 hx hb hown (hts _ zk_947) dX8_real_217 ?_
                refine lv_lor hx hb dX8_real_220 ?_
                refine lv_goto (tgt := 226) hx hb dX8_real_221 (by decide) ?_
                exact zz_lret hC hZ (⟨by refine Eq.symm ?_; rw [fn_cm_real]; refine (if_neg (by (try simp only [d_n]); exact c1)).trans ?_; refine (if_neg (by (try simp only [d_n]); exact c2)).trans ?_; refine (if_neg (by (try simp only [d_n]); exact c44)).trans ?_; refine (if_neg (by (try simp only [d_n]); exact c76)).trans ?_; first | (simp only [d_n]; done) | rfl, rfl⟩) (Nat.le_of_ble_eq_true rfl) (Nat.le_of_ble_eq_true rfl) dX8_real_226
              · refine lv_iload hx hb dX8_real_189 (lv_at hl 5 rfl) ?_
                refine lv_if_eq (tgt := 205) hx hb dX8_real_191 (by decide) (fun c => absurd c (by decide)) (fun c78 => ?_)
                refine lv_lload hx hb dX8_real_194 (lv_at hl 0 rfl) ?_
                refine lv_ldc2 hx hb hown (hts _ zk_954) dX8_real_196 ?_
                refine lv_lor hx hb dX8_real_199 ?_
                refine lv_l2i hx hb dX8_real_200 rfl ?_
                refine lv_i2l hx hb dX8_real_201 rfl ?_
                refine lv_goto (tgt := 226) hx hb dX8_real_202 (by decide) ?_
                exact zz_lret hC hZ (⟨by refine Eq.symm ?_; rw [fn_cm_real]; refine (if_neg (by (try simp only [d_n]); exact c1)).trans ?_; refine (if_neg (by (try simp only [d_n]); exact c2)).trans ?_; refine (if_neg (by (try simp only [d_n]); exact c44)).trans ?_; refine (if_pos (by (try simp only [d_n]); exact c76)).trans ?_; first | (simp only [d_n]; done) | rfl, rfl⟩) (Nat.le_of_ble_eq_true rfl) (Nat.le_of_ble_eq_true rfl) dX8_real_226
          · obtain ⟨K, rfl⟩ : ∃ K, n = K + 1 := zl_bitK (zl_neg0 c1) hlt (by omega) c43
            refine lv_iinc (v := nI K) (lv' := [(7, .int (nI K)), (5, .long (-x)), (4, .int 1), (0, .long x), (2, .int k), (3, .int j)]) hx hb dX8_real_50 hl (k := 0) rfl (pk_m1 _) (by decide) rfl (fun ls hl => ?_)
            refine lv_goto (tgt := 38) hx hb dX8_real_53 (by decide) ?_
            exact ih K H locs ls (by omega) (zl_bitN hlt (by omega) c43) (he.trans (zl_tbS c43)) (by omega) hZ (lv_sub hl [0, 1, 2, 3, 4, 5] rfl)
      exact LP42 _ 63 H locs ls (by omega) (UInt64.toNat_lt _) (rfl) (Nat.lt_succ_self _) hZ (lv_sub hl [0, 1, 2, 3, 4, 5] rfl)
  · refine lv_lconst (v := 0) hx hb dX8_real_6 (by decide) ?_
    exact zz_lret hC hZ (⟨by show _ = _; rw [fn_cm_real]; rw [if_pos c1], rfl⟩) (Nat.le_of_ble_eq_true rfl) (Nat.le_of_ble_eq_true rfl) dX8_real_7
theorem zl_frac {x : Int64} (h : ¬ (x &&& 8388607) = 0) : ∃ f : Nat, 0 < f ∧ f < 2 ^ 23 ∧ x &&& 8388607 = lN f := by
  have e : (x &&& 8388607).toBitVec.toNat = x.toBitVec.toNat % 2 ^ 23 := by
    have h1 : (x &&& 8388607).toBitVec = x.toBitVec &&& 8388607#64 := rfl
    rw [h1, BitVec.toNat_and]
    exact Nat.and_two_pow_sub_one_eq_mod _ 23
  have hl : x.toBitVec.toNat % 2 ^ 23 < 2 ^ 23 := Nat.mod_lt _ (by decide)
  refine ⟨x.toBitVec.toNat % 2 ^ 23, ?_, hl, ?_⟩
  · rcases Nat.eq_zero_or_pos (x.toBitVec.toNat % 2 ^ 23) with q | q
    · exact absurd (Int64.toBitVec_inj.mp (BitVec.eq_of_toNat_eq (by rw [e, q]; rfl))) h
    · exact q
  · refine Int64.toBitVec_inj.mp (BitVec.eq_of_toNat_eq ?_)
    rw [e]
    show _ = (BitVec.ofNat 64 _).toNat
    rw [BitVec.toNat_ofNat]
    exact (Nat.mod_eq_of_lt (Nat.lt_trans hl (by decide))).symm
theorem zl_lNn {f : Nat} (h : f < 2 ^ 24) : (lN f).toUInt64.toNat = f := by
  show (BitVec.ofNat 64 f).toNat = f
  rw [BitVec.toNat_ofNat, Nat.mod_eq_of_lt (by omega)]
theorem zl_sh1 {f : Nat} (h : f < 2 ^ 24) : (lN f : Int64) <<< ((1 : Int32).toInt64 &&& 63) = lN (2 * f) := by
  refine Int64.toBitVec_inj.mp (BitVec.eq_of_toNat_eq ?_)
  show ((BitVec.ofNat 64 f) <<< 1).toNat = (BitVec.ofNat 64 (2 * f)).toNat
  rw [BitVec.toNat_shiftLeft, BitVec.toNat_ofNat, BitVec.toNat_ofNat, Nat.shiftLeft_eq, Nat.mod_eq_of_lt (a := f) (by omega)]
  congr 1; omega
theorem zl_fr2 {f : Nat} (h : f < 2 ^ 24) (hb : ((lN f).toUInt64 >>> ((23 : Int32).toInt64.toUInt64 &&& Int64.toUInt64 63)).toInt64 &&& 1 = 0) : 2 * f < 2 ^ 24 := by
  have h1 := zl_bitN (m := lN f) (n := 23) (by rw [zl_lNn h]; exact h) (by decide) hb
  rw [zl_lNn h] at h1
  omega
def zz_wd : Nat → Int64
  | 0 => 1
  | t + 1 => zz_wd t - 1
theorem zl_f2t {f f0 t : Nat} (h : f = f0 * 2 ^ t) : 2 * f = f0 * 2 ^ (t + 1) := by
  rw [h, Nat.pow_succ, ← Nat.mul_assoc f0, Nat.mul_comm 2]
theorem zl_fr3 {f : Nat} (h : f < 2 ^ 24) (hb : ¬ ((lN f).toUInt64 >>> ((23 : Int32).toInt64.toUInt64 &&& Int64.toUInt64 63)).toInt64 &&& 1 = 0) : 2 ^ 23 ≤ f := by
  rcases Nat.lt_or_ge f (2 ^ 23) with q | q
  · exact absurd ((zl_bit (lN f) (n := 23) (by decide)).mpr (by rw [zl_lNn h, Nat.div_eq_of_lt q])) hb
  · exact q
theorem zl_t23 {f f0 t : Nat} (h : f = f0 * 2 ^ t) (h1 : 2 ^ 23 ≤ f) (h2 : f < 2 ^ 24) (h0 : 0 < f0) : 23 - Nat.log2 f0 = t := by
  have p : 0 < 2 ^ t := Nat.pow_pos (by decide)
  have ht : t < 24 := by
    have a : 2 ^ t ≤ f0 * 2 ^ t := Nat.le_mul_of_pos_left _ h0
    exact (Nat.pow_lt_pow_iff_right (a := 2) (by decide)).mp (by omega)
  have e1 : 2 ^ 23 = 2 ^ (23 - t) * 2 ^ t := by rw [← Nat.pow_add, show 23 - t + t = 23 by omega]
  have e2 : 2 ^ 24 = 2 ^ (23 - t + 1) * 2 ^ t := by rw [← Nat.pow_add, show 23 - t + 1 + t = 24 by omega]
  have l : Nat.log2 f0 = 23 - t := (Nat.log2_eq_iff (by omega)).mpr ⟨Nat.le_of_mul_le_mul_right (by rw [← e1, ← h]; exact h1) p, Nat.lt_of_mul_lt_mul_right (a := 2 ^ t) (by rw [← e2, ← h]; exact h2)⟩
  omega
theorem dg_X8_floatToDouble_0 : (decode cX8_floatToDouble 0 = .ok (.bipush 6, 2)) ∧ (decode cX8_floatToDouble 2 = .ok (.lload_n 0, 1)) ∧ (decode cX8_floatToDouble 3 = .ok (.invokestatic 132, 3)) ∧ (decode cX8_floatToDouble 6 = .ok (.ifCond .eq 7, 3)) ∧ (decode cX8_floatToDouble 9 = .ok (.ldc2_w 138, 3)) ∧ (decode cX8_floatToDouble 12 = .ok (.lreturn, 1)) ∧ (decode cX8_floatToDouble 13 = .ok (.lload_n 0, 1)) ∧ (decode cX8_floatToDouble 14 = .ok (.lconst 0, 1)) ∧ (decode cX8_floatToDouble 15 = .ok (.lcmp, 1)) ∧ (decode cX8_floatToDouble 16 = .ok (.ifCond .ge 9, 3)) ∧ (decode cX8_floatToDouble 19 = .ok (.ldc2_w 142, 3)) ∧ (decode cX8_floatToDouble 22 = .ok (.goto 4, 3)) ∧ (decode cX8_floatToDouble 25 = .ok (.lconst 0, 1)) ∧ (decode cX8_floatToDouble 26 = .ok (.lstore_n 2, 1)) ∧ (decode cX8_floatToDouble 27 = .ok (.lload_n 0, 1)) ∧ (decode cX8_floatToDouble 28 = .ok (.bipush 23, 2)) := by decide +kernel
theorem dX8_floatToDouble_0 : decode cX8_floatToDouble 0 = .ok (.bipush 6, 2) := dg_X8_floatToDouble_0.1
theorem dX8_floatToDouble_2 : decode cX8_floatToDouble 2 = .ok (.lload_n 0, 1) := dg_X8_floatToDouble_0.2.1
theorem dX8_floatToDouble_3 : decode cX8_floatToDouble 3 = .ok (.invokestatic 132, 3) := dg_X8_floatToDouble_0.2.2.1
theorem dX8_floatToDouble_6 : decode cX8_floatToDouble 6 = .ok (.ifCond .eq 7, 3) := dg_X8_floatToDouble_0.2.2.2.1
theorem dX8_floatToDouble_9 : decode cX8_floatToDouble 9 = .ok (.ldc2_w 138, 3) := dg_X8_floatToDouble_0.2.2.2.2.1
theorem dX8_floatToDouble_12 : decode cX8_floatToDouble 12 = .ok (.lreturn, 1) := dg_X8_floatToDouble_0.2.2.2.2.2.1
theorem dX8_floatToDouble_13 : decode cX8_floatToDouble 13 = .ok (.lload_n 0, 1) := dg_X8_floatToDouble_0.2.2.2.2.2.2.1
theorem dX8_floatToDouble_14 : decode cX8_floatToDouble 14 = .ok (.lconst 0, 1) := dg_X8_floatToDouble_0.2.2.2.2.2.2.2.1
theorem dX8_floatToDouble_15 : decode cX8_floatToDouble 15 = .ok (.lcmp, 1) := dg_X8_floatToDouble_0.2.2.2.2.2.2.2.2.1
theorem dX8_floatToDouble_16 : decode cX8_floatToDouble 16 = .ok (.ifCond .ge 9, 3) := dg_X8_floatToDouble_0.2.2.2.2.2.2.2.2.2.1
theorem dX8_floatToDouble_19 : decode cX8_floatToDouble 19 = .ok (.ldc2_w 142, 3) := dg_X8_floatToDouble_0.2.2.2.2.2.2.2.2.2.2.1
theorem dX8_floatToDouble_22 : decode cX8_floatToDouble 22 = .ok (.goto 4, 3) := dg_X8_floatToDouble_0.2.2.2.2.2.2.2.2.2.2.2.1
theorem dX8_floatToDouble_25 : decode cX8_floatToDouble 25 = .ok (.lconst 0, 1) := dg_X8_floatToDouble_0.2.2.2.2.2.2.2.2.2.2.2.2.1
theorem dX8_floatToDouble_26 : decode cX8_floatToDouble 26 = .ok (.lstore_n 2, 1) := dg_X8_floatToDouble_0.2.2.2.2.2.2.2.2.2.2.2.2.2.1
theorem dX8_floatToDouble_27 : decode cX8_floatToDouble 27 = .ok (.lload_n 0, 1) := dg_X8_floatToDouble_0.2.2.2.2.2.2.2.2.2.2.2.2.2.2.1
theorem dX8_floatToDouble_28 : decode cX8_floatToDouble 28 = .ok (.bipush 23, 2) := dg_X8_floatToDouble_0.2.2.2.2.2.2.2.2.2.2.2.2.2.2.2
theorem dg_X8_floatToDouble_30 : (decode cX8_floatToDouble 30 = .ok (.lushr, 1)) ∧ (decode cX8_floatToDouble 31 = .ok (.ldc2_w 144, 3)) ∧ (decode cX8_floatToDouble 34 = .ok (.land, 1)) ∧ (decode cX8_floatToDouble 35 = .ok (.lstore 4, 2)) ∧ (decode cX8_floatToDouble 37 = .ok (.lload_n 0, 1)) ∧ (decode cX8_floatToDouble 38 = .ok (.ldc2_w 146, 3)) ∧ (decode cX8_floatToDouble 41 = .ok (.land, 1)) ∧ (decode cX8_floatToDouble 42 = .ok (.lstore 6, 2)) ∧ (decode cX8_floatToDouble 44 = .ok (.lload 4, 2)) ∧ (decode cX8_floatToDouble 46 = .ok (.ldc2_w 144, 3)) ∧ (decode cX8_floatToDouble 49 = .ok (.lcmp, 1)) ∧ (decode cX8_floatToDouble 50 = .ok (.ifCond .ne 9, 3)) ∧ (decode cX8_floatToDouble 53 = .ok (.lload_n 2, 1)) ∧ (decode cX8_floatToDouble 54 = .ok (.ldc2_w 130, 3)) ∧ (decode cX8_floatToDouble 57 = .ok (.lor, 1)) ∧ (decode cX8_floatToDouble 58 = .ok (.lreturn, 1)) := by decide +kernel
theorem dX8_floatToDouble_30 : decode cX8_floatToDouble 30 = .ok (.lushr, 1) := dg_X8_floatToDouble_30.1
theorem dX8_floatToDouble_31 : decode cX8_floatToDouble 31 = .ok (.ldc2_w 144, 3) := dg_X8_floatToDouble_30.2.1
theorem dX8_floatToDouble_34 : decode cX8_floatToDouble 34 = .ok (.land, 1) := dg_X8_floatToDouble_30.2.2.1
theorem dX8_floatToDouble_35 : decode cX8_floatToDouble 35 = .ok (.lstore 4, 2) := dg_X8_floatToDouble_30.2.2.2.1
theorem dX8_floatToDouble_37 : decode cX8_floatToDouble 37 = .ok (.lload_n 0, 1) := dg_X8_floatToDouble_30.2.2.2.2.1
theorem dX8_floatToDouble_38 : decode cX8_floatToDouble 38 = .ok (.ldc2_w 146, 3) := dg_X8_floatToDouble_30.2.2.2.2.2.1
theorem dX8_floatToDouble_41 : decode cX8_floatToDouble 41 = .ok (.land, 1) := dg_X8_floatToDouble_30.2.2.2.2.2.2.1
theorem dX8_floatToDouble_42 : decode cX8_floatToDouble 42 = .ok (.lstore 6, 2) := dg_X8_floatToDouble_30.2.2.2.2.2.2.2.1
theorem dX8_floatToDouble_44 : decode cX8_floatToDouble 44 = .ok (.lload 4, 2) := dg_X8_floatToDouble_30.2.2.2.2.2.2.2.2.1
theorem dX8_floatToDouble_46 : decode cX8_floatToDouble 46 = .ok (.ldc2_w 144, 3) := dg_X8_floatToDouble_30.2.2.2.2.2.2.2.2.2.1
theorem dX8_floatToDouble_49 : decode cX8_floatToDouble 49 = .ok (.lcmp, 1) := dg_X8_floatToDouble_30.2.2.2.2.2.2.2.2.2.2.1
theorem dX8_floatToDouble_50 : decode cX8_floatToDouble 50 = .ok (.ifCond .ne 9, 3) := dg_X8_floatToDouble_30.2.2.2.2.2.2.2.2.2.2.2.1
theorem dX8_floatToDouble_53 : decode cX8_floatToDouble 53 = .ok (.lload_n 2, 1) := dg_X8_floatToDouble_30.2.2.2.2.2.2.2.2.2.2.2.2.1
theorem dX8_floatToDouble_54 : decode cX8_floatToDouble 54 = .ok (.ldc2_w 130, 3) := dg_X8_floatToDouble_30.2.2.2.2.2.2.2.2.2.2.2.2.2.1
theorem dX8_floatToDouble_57 : decode cX8_floatToDouble 57 = .ok (.lor, 1) := dg_X8_floatToDouble_30.2.2.2.2.2.2.2.2.2.2.2.2.2.2.1
theorem dX8_floatToDouble_58 : decode cX8_floatToDouble 58 = .ok (.lreturn, 1) := dg_X8_floatToDouble_30.2.2.2.2.2.2.2.2.2.2.2.2.2.2.2
theorem dg_X8_floatToDouble_59 : (decode cX8_floatToDouble 59 = .ok (.lload 4, 2)) ∧ (decode cX8_floatToDouble 61 = .ok (.lconst 0, 1)) ∧ (decode cX8_floatToDouble 62 = .ok (.lcmp, 1)) ∧ (decode cX8_floatToDouble 63 = .ok (.ifCond .ne 50, 3)) ∧ (decode cX8_floatToDouble 66 = .ok (.lload 6, 2)) ∧ (decode cX8_floatToDouble 68 = .ok (.lconst 0, 1)) ∧ (decode cX8_floatToDouble 69 = .ok (.lcmp, 1)) ∧ (decode cX8_floatToDouble 70 = .ok (.ifCond .ne 5, 3)) ∧ (decode cX8_floatToDouble 73 = .ok (.lload_n 2, 1)) ∧ (decode cX8_floatToDouble 74 = .ok (.lreturn, 1)) ∧ (decode cX8_floatToDouble 75 = .ok (.lconst 1, 1)) ∧ (decode cX8_floatToDouble 76 = .ok (.lstore 4, 2)) ∧ (decode cX8_floatToDouble 78 = .ok (.lload 6, 2)) ∧ (decode cX8_floatToDouble 80 = .ok (.bipush 23, 2)) ∧ (decode cX8_floatToDouble 82 = .ok (.lushr, 1)) ∧ (decode cX8_floatToDouble 83 = .ok (.lconst 1, 1)) := by decide +kernel
theorem dX8_floatToDouble_59 : decode cX8_floatToDouble 59 = .ok (.lload 4, 2) := dg_X8_floatToDouble_59.1
theorem dX8_floatToDouble_61 : decode cX8_floatToDouble 61 = .ok (.lconst 0, 1) := dg_X8_floatToDouble_59.2.1
theorem dX8_floatToDouble_62 : decode cX8_floatToDouble 62 = .ok (.lcmp, 1) := dg_X8_floatToDouble_59.2.2.1
theorem dX8_floatToDouble_63 : decode cX8_floatToDouble 63 = .ok (.ifCond .ne 50, 3) := dg_X8_floatToDouble_59.2.2.2.1
theorem dX8_floatToDouble_66 : decode cX8_floatToDouble 66 = .ok (.lload 6, 2) := dg_X8_floatToDouble_59.2.2.2.2.1
theorem dX8_floatToDouble_68 : decode cX8_floatToDouble 68 = .ok (.lconst 0, 1) := dg_X8_floatToDouble_59.2.2.2.2.2.1
theorem dX8_floatToDouble_69 : decode cX8_floatToDouble 69 = .ok (.lcmp, 1) := dg_X8_floatToDouble_59.2.2.2.2.2.2.1
theorem dX8_floatToDouble_70 : decode cX8_floatToDouble 70 = .ok (.ifCond .ne 5, 3) := dg_X8_floatToDouble_59.2.2.2.2.2.2.2.1
theorem dX8_floatToDouble_73 : decode cX8_floatToDouble 73 = .ok (.lload_n 2, 1) := dg_X8_floatToDouble_59.2.2.2.2.2.2.2.2.1
theorem dX8_floatToDouble_74 : decode cX8_floatToDouble 74 = .ok (.lreturn, 1) := dg_X8_floatToDouble_59.2.2.2.2.2.2.2.2.2.1
theorem dX8_floatToDouble_75 : decode cX8_floatToDouble 75 = .ok (.lconst 1, 1) := dg_X8_floatToDouble_59.2.2.2.2.2.2.2.2.2.2.1
theorem dX8_floatToDouble_76 : decode cX8_floatToDouble 76 = .ok (.lstore 4, 2) := dg_X8_floatToDouble_59.2.2.2.2.2.2.2.2.2.2.2.1
theorem dX8_floatToDouble_78 : decode cX8_floatToDouble 78 = .ok (.lload 6, 2) := dg_X8_floatToDouble_59.2.2.2.2.2.2.2.2.2.2.2.2.1
theorem dX8_floatToDouble_80 : decode cX8_floatToDouble 80 = .ok (.bipush 23, 2) := dg_X8_floatToDouble_59.2.2.2.2.2.2.2.2.2.2.2.2.2.1
theorem dX8_floatToDouble_82 : decode cX8_floatToDouble 82 = .ok (.lushr, 1) := dg_X8_floatToDouble_59.2.2.2.2.2.2.2.2.2.2.2.2.2.2.1
theorem dX8_floatToDouble_83 : decode cX8_floatToDouble 83 = .ok (.lconst 1, 1) := dg_X8_floatToDouble_59.2.2.2.2.2.2.2.2.2.2.2.2.2.2.2
theorem dg_X8_floatToDouble_84 : (decode cX8_floatToDouble 84 = .ok (.land, 1)) ∧ (decode cX8_floatToDouble 85 = .ok (.lconst 0, 1)) ∧ (decode cX8_floatToDouble 86 = .ok (.lcmp, 1)) ∧ (decode cX8_floatToDouble 87 = .ok (.ifCond .ne 18, 3)) ∧ (decode cX8_floatToDouble 90 = .ok (.lload 6, 2)) ∧ (decode cX8_floatToDouble 92 = .ok (.iconst 1, 1)) ∧ (decode cX8_floatToDouble 93 = .ok (.lshl, 1)) ∧ (decode cX8_floatToDouble 94 = .ok (.lstore 6, 2)) ∧ (decode cX8_floatToDouble 96 = .ok (.lload 4, 2)) ∧ (decode cX8_floatToDouble 98 = .ok (.lconst 1, 1)) ∧ (decode cX8_floatToDouble 99 = .ok (.lsub, 1)) ∧ (decode cX8_floatToDouble 100 = .ok (.lstore 4, 2)) ∧ (decode cX8_floatToDouble 102 = .ok (.goto (-24), 3)) ∧ (decode cX8_floatToDouble 105 = .ok (.lload 6, 2)) ∧ (decode cX8_floatToDouble 107 = .ok (.ldc2_w 146, 3)) ∧ (decode cX8_floatToDouble 110 = .ok (.land, 1)) := by decide +kernel
theorem dX8_floatToDouble_84 : decode cX8_floatToDouble 84 = .ok (.land, 1) := dg_X8_floatToDouble_84.1
theorem dX8_floatToDouble_85 : decode cX8_floatToDouble 85 = .ok (.lconst 0, 1) := dg_X8_floatToDouble_84.2.1
theorem dX8_floatToDouble_86 : decode cX8_floatToDouble 86 = .ok (.lcmp, 1) := dg_X8_floatToDouble_84.2.2.1
theorem dX8_floatToDouble_87 : decode cX8_floatToDouble 87 = .ok (.ifCond .ne 18, 3) := dg_X8_floatToDouble_84.2.2.2.1
theorem dX8_floatToDouble_90 : decode cX8_floatToDouble 90 = .ok (.lload 6, 2) := dg_X8_floatToDouble_84.2.2.2.2.1
theorem dX8_floatToDouble_92 : decode cX8_floatToDouble 92 = .ok (.iconst 1, 1) := dg_X8_floatToDouble_84.2.2.2.2.2.1
theorem dX8_floatToDouble_93 : decode cX8_floatToDouble 93 = .ok (.lshl, 1) := dg_X8_floatToDouble_84.2.2.2.2.2.2.1
theorem dX8_floatToDouble_94 : decode cX8_floatToDouble 94 = .ok (.lstore 6, 2) := dg_X8_floatToDouble_84.2.2.2.2.2.2.2.1
theorem dX8_floatToDouble_96 : decode cX8_floatToDouble 96 = .ok (.lload 4, 2) := dg_X8_floatToDouble_84.2.2.2.2.2.2.2.2.1
theorem dX8_floatToDouble_98 : decode cX8_floatToDouble 98 = .ok (.lconst 1, 1) := dg_X8_floatToDouble_84.2.2.2.2.2.2.2.2.2.1
theorem dX8_floatToDouble_99 : decode cX8_floatToDouble 99 = .ok (.lsub, 1) := dg_X8_floatToDouble_84.2.2.2.2.2.2.2.2.2.2.1
theorem dX8_floatToDouble_100 : decode cX8_floatToDouble 100 = .ok (.lstore 4, 2) := dg_X8_floatToDouble_84.2.2.2.2.2.2.2.2.2.2.2.1
theorem dX8_floatToDouble_102 : decode cX8_floatToDouble 102 = .ok (.goto (-24), 3) := dg_X8_floatToDouble_84.2.2.2.2.2.2.2.2.2.2.2.2.1
theorem dX8_floatToDouble_105 : decode cX8_floatToDouble 105 = .ok (.lload 6, 2) := dg_X8_floatToDouble_84.2.2.2.2.2.2.2.2.2.2.2.2.2.1
theorem dX8_floatToDouble_107 : decode cX8_floatToDouble 107 = .ok (.ldc2_w 146, 3) := dg_X8_floatToDouble_84.2.2.2.2.2.2.2.2.2.2.2.2.2.2.1
theorem dX8_floatToDouble_110 : decode cX8_floatToDouble 110 = .ok (.land, 1) := dg_X8_floatToDouble_84.2.2.2.2.2.2.2.2.2.2.2.2.2.2.2
theorem dg_X8_floatToDouble_111 : (decode cX8_floatToDouble 111 = .ok (.lstore 6, 2)) ∧ (decode cX8_floatToDouble 113 = .ok (.lload_n 2, 1)) ∧ (decode cX8_floatToDouble 114 = .ok (.lload 4, 2)) ∧ (decode cX8_floatToDouble 116 = .ok (.ldc2_w 148, 3)) ∧ (decode cX8_floatToDouble 119 = .ok (.ladd, 1)) ∧ (decode cX8_floatToDouble 120 = .ok (.bipush 52, 2)) ∧ (decode cX8_floatToDouble 122 = .ok (.lshl, 1)) ∧ (decode cX8_floatToDouble 123 = .ok (.lor, 1)) ∧ (decode cX8_floatToDouble 124 = .ok (.lload 6, 2)) ∧ (decode cX8_floatToDouble 126 = .ok (.bipush 29, 2)) ∧ (decode cX8_floatToDouble 128 = .ok (.lshl, 1)) ∧ (decode cX8_floatToDouble 129 = .ok (.lor, 1)) ∧ (decode cX8_floatToDouble 130 = .ok (.lreturn, 1)) := by decide +kernel
theorem dX8_floatToDouble_111 : decode cX8_floatToDouble 111 = .ok (.lstore 6, 2) := dg_X8_floatToDouble_111.1
theorem dX8_floatToDouble_113 : decode cX8_floatToDouble 113 = .ok (.lload_n 2, 1) := dg_X8_floatToDouble_111.2.1
theorem dX8_floatToDouble_114 : decode cX8_floatToDouble 114 = .ok (.lload 4, 2) := dg_X8_floatToDouble_111.2.2.1
theorem dX8_floatToDouble_116 : decode cX8_floatToDouble 116 = .ok (.ldc2_w 148, 3) := dg_X8_floatToDouble_111.2.2.2.1
theorem dX8_floatToDouble_119 : decode cX8_floatToDouble 119 = .ok (.ladd, 1) := dg_X8_floatToDouble_111.2.2.2.2.1
theorem dX8_floatToDouble_120 : decode cX8_floatToDouble 120 = .ok (.bipush 52, 2) := dg_X8_floatToDouble_111.2.2.2.2.2.1
theorem dX8_floatToDouble_122 : decode cX8_floatToDouble 122 = .ok (.lshl, 1) := dg_X8_floatToDouble_111.2.2.2.2.2.2.1
theorem dX8_floatToDouble_123 : decode cX8_floatToDouble 123 = .ok (.lor, 1) := dg_X8_floatToDouble_111.2.2.2.2.2.2.2.1
theorem dX8_floatToDouble_124 : decode cX8_floatToDouble 124 = .ok (.lload 6, 2) := dg_X8_floatToDouble_111.2.2.2.2.2.2.2.2.1
theorem dX8_floatToDouble_126 : decode cX8_floatToDouble 126 = .ok (.bipush 29, 2) := dg_X8_floatToDouble_111.2.2.2.2.2.2.2.2.2.1
theorem dX8_floatToDouble_128 : decode cX8_floatToDouble 128 = .ok (.lshl, 1) := dg_X8_floatToDouble_111.2.2.2.2.2.2.2.2.2.2.1
theorem dX8_floatToDouble_129 : decode cX8_floatToDouble 129 = .ok (.lor, 1) := dg_X8_floatToDouble_111.2.2.2.2.2.2.2.2.2.2.2.1
theorem dX8_floatToDouble_130 : decode cX8_floatToDouble 130 = .ok (.lreturn, 1) := dg_X8_floatToDouble_111.2.2.2.2.2.2.2.2.2.2.2.2
theorem zk_948 : Cond.constantLong RX8 144 (255) ∈ zz_w := zz_in (List.mem_append_right _ (List.mem_append_right _ (List.mem_append_right _ (List.mem_append_right _ (List.mem_append_left _ (List.mem_of_getElem? (i := 228) (by decide +kernel))))))) rfl
theorem zk_949 : Cond.constantLong RX8 146 (8388607) ∈ zz_w := zz_in (List.mem_append_right _ (List.mem_append_right _ (List.mem_append_right _ (List.mem_append_right _ (List.mem_append_left _ (List.mem_of_getElem? (i := 229) (by decide +kernel))))))) rfl
theorem zk_950 : Cond.constantLong RX8 148 (896) ∈ zz_w := zz_in (List.mem_append_right _ (List.mem_append_right _ (List.mem_append_right _ (List.mem_append_right _ (List.mem_append_left _ (List.mem_of_getElem? (i := 230) (by decide +kernel))))))) rfl
def fn_cm_floatToDouble (x : Int64) : Int64 := (if (fn_cm_isNone 6 x) = 0 then (if 0 ≤ x then (if (((x.toUInt64 >>> ((23 : Int32).toInt64.toUInt64 &&& Int64.toUInt64 63)).toInt64) &&& 255) = 255 then 9218868437227405312 else (if (((x.toUInt64 >>> ((23 : Int32).toInt64.toUInt64 &&& Int64.toUInt64 63)).toInt64) &&& 255) = 0 then (if (x &&& 8388607) = 0 then 0 else (0 ||| (((zz_wd (23 - Nat.log2 ((x &&& 8388607).toUInt64.toNat))) + 896 : Int64) <<< ((52 : Int32).toInt64 &&& 63))) ||| (((lN (((x &&& 8388607).toUInt64.toNat) * 2 ^ (23 - Nat.log2 ((x &&& 8388607).toUInt64.toNat)))) &&& 8388607 : Int64) <<< ((29 : Int32).toInt64 &&& 63))) else (0 ||| (((((x.toUInt64 >>> ((23 : Int32).toInt64.toUInt64 &&& Int64.toUInt64 63)).toInt64) &&& 255) + 896 : Int64) <<< ((52 : Int32).toInt64 &&& 63))) ||| ((x &&& 8388607 : Int64) <<< ((29 : Int32).toInt64 &&& 63)))) else (if (((x.toUInt64 >>> ((23 : Int32).toInt64.toUInt64 &&& Int64.toUInt64 63)).toInt64) &&& 255) = 255 then -4503599627370496 else (if (((x.toUInt64 >>> ((23 : Int32).toInt64.toUInt64 &&& Int64.toUInt64 63)).toInt64) &&& 255) = 0 then (if (x &&& 8388607) = 0 then -9223372036854775808 else ((-9223372036854775808) ||| (((zz_wd (23 - Nat.log2 ((x &&& 8388607).toUInt64.toNat))) + 896 : Int64) <<< ((52 : Int32).toInt64 &&& 63))) ||| (((lN (((x &&& 8388607).toUInt64.toNat) * 2 ^ (23 - Nat.log2 ((x &&& 8388607).toUInt64.toNat)))) &&& 8388607 : Int64) <<< ((29 : Int32).toInt64 &&& 63))) else ((-9223372036854775808) ||| (((((x.toUInt64 >>> ((23 : Int32).toInt64.toUInt64 &&& Int64.toUInt64 63)).toInt64) &&& 255) + 896 : Int64) <<< ((52 : Int32).toInt64 &&& 63))) ||| ((x &&& 8388607 : Int64) <<< ((29 : Int32).toInt64 &&& 63))))) else 9221120237041090560)
abbrev rm_cm_floatToDouble : Room := { frames := 1, cells := 0, slots := 0, locals := 22 }
abbrev po_cm_floatToDouble (g : zz_G) (x : Int64) : Int64 → va_W → Prop := fun (r : Int64) (u : va_W) => r = fn_cm_floatToDouble x ∧ u = []
set_option maxHeartbeats 4000000 in
set_option maxRecDepth 100000 in
theorem cm_floatToDouble (g : zz_G) (x : Int64) : zz_L g yX8_floatToDouble (.code yX8_floatToDouble cX8_floatToDouble 8 (some .long)) rm_cm_floatToDouble [.long x] [] (po_cm_floatToDouble g x) := by
  refine zz_L.intro (own := RX8) (cc := cX8_floatToDouble) (nL := 8) (by decide) rfl (Nat.le_of_ble_eq_true rfl) ?_
  intro p l e s m args below meth c A H locs ls hC hnm hs hZ hl
  obtain ⟨hx, hb, hml, hown, hts, hr, hlocks, hK⟩ := id hC
  have hl : lv_has ls 8 [(0, .long x)] := hl
  have hZ : zz_Z g A s.heap [] H locs := hZ
  refine lv_bipush (v := 6) hx hb dX8_floatToDouble_0 (by decide) ?_
  refine lv_lload_n hx hb dX8_floatToDouble_2 rfl (lv_at hl 0 rfl) ?_
  refine zz_iS (As := [.int 6, .long x]) (wc := []) (wr := []) (rest := []) hC hZ hs hl zc_X8_132 (cm_isNone g 6 x) [] [] rfl rfl (by decide +kernel) rfl rfl (Nat.le_of_ble_eq_true rfl) ⟨⟨Nat.le_of_ble_eq_true rfl, Nat.le_of_ble_eq_true rfl⟩, Nat.le_of_ble_eq_true rfl, Nat.le_of_ble_eq_true rfl⟩ dX8_floatToDouble_3 (fun r1 u2 H locs hp hZ => ?_)
  obtain ⟨rfl, rfl⟩ := hp
  have hZ : zz_Z g A s.heap [] H locs := hZ
  refine lv_if_eq (tgt := 13) hx hb dX8_floatToDouble_6 (by decide) (fun c3 => ?_) (fun c3 => ?_)
  · refine lv_lload_n hx hb dX8_floatToDouble_13 rfl (lv_at hl 0 rfl) ?_
    refine lv_lconst (v := 0) hx hb dX8_floatToDouble_14 (by decide) ?_
    refine zz_lcmp_ge (tgt := 25) hC dX8_floatToDouble_15 dX8_floatToDouble_16 (by decide) (fun c4 => ?_) (fun c4 => ?_)
    · refine lv_lconst (v := 0) hx hb dX8_floatToDouble_25 (by decide) ?_
      refine lv_lstore_n (lv' := [(2, .long 0), (0, .long x)]) hx hb dX8_floatToDouble_26 rfl hl (by decide) rfl (fun ls hl => ?_)
      refine lv_lload_n hx hb dX8_floatToDouble_27 rfl (lv_at hl 1 rfl) ?_
      refine lv_bipush (v := 23) hx hb dX8_floatToDouble_28 (by decide) ?_
      refine lv_lushr hx hb dX8_floatToDouble_30 rfl ?_
      refine lv_ldc2 hx hb hown (hts _ zk_948) dX8_floatToDouble_31 ?_
      refine lv_land hx hb dX8_floatToDouble_34 ?_
      refine lv_lstore (lv' := [(4, .long (((x.toUInt64 >>> ((23 : Int32).toInt64.toUInt64 &&& Int64.toUInt64 63)).toInt64) &&& 255)), (2, .long 0), (0, .long x)]) hx hb dX8_floatToDouble_35 hl (by decide) rfl (fun ls hl => ?_)
      refine lv_lload_n hx hb dX8_floatToDouble_37 rfl (lv_at hl 2 rfl) ?_
      refine lv_ldc2 hx hb hown (hts _ zk_949) dX8_floatToDouble_38 ?_
      refine lv_land hx hb dX8_floatToDouble_41 ?_
      refine lv_lstore (lv' := [(6, .long (x &&& 8388607)), (4, .long (((x.toUInt64 >>> ((23 : Int32).toInt64.toUInt64 &&& Int64.toUInt64 63)).toInt64) &&& 255)), (2, .long 0), (0, .long x)]) hx hb dX8_floatToDouble_42 hl (by decide) rfl (fun ls hl => ?_)
      refine lv_lload hx hb dX8_floatToDouble_44 (lv_at hl 1 rfl) ?_
      refine lv_ldc2 hx hb hown (hts _ zk_948) dX8_floatToDouble_46 ?_
      refine zz_lcmp_ne (tgt := 59) hC dX8_floatToDouble_49 dX8_floatToDouble_50 (by decide) (fun c5 => ?_) (fun c5 => ?_)
      · refine lv_lload hx hb dX8_floatToDouble_59 (lv_at hl 1 rfl) ?_
        refine lv_lconst (v := 0) hx hb dX8_floatToDouble_61 (by decide) ?_
        refine zz_lcmp_ne (tgt := 113) hC dX8_floatToDouble_62 dX8_floatToDouble_63 (by decide) (fun c6 => ?_) (fun c6 => ?_)
        · refine lv_lload_n hx hb dX8_floatToDouble_113 rfl (lv_at hl 2 rfl) ?_
          refine lv_lload hx hb dX8_floatToDouble_114 (lv_at hl 1 rfl) ?_
          refine lv_ldc2 hx hb hown (hts _ zk_950) dX8_floatToDouble_116 ?_
          refine lv_ladd hx hb dX8_floatToDouble_119 ?_
          refine lv_bipush (v := 52) hx hb dX8_floatToDouble_120 (by decide) ?_
          refine lv_lshl hx hb dX8_floatToDouble_122 rfl ?_
          refine lv_lor hx hb dX8_floatToDouble_123 ?_
          refine lv_lload hx hb dX8_floatToDouble_124 (lv_at hl 0 rfl) ?_
          refine lv_bipush (v := 29) hx hb dX8_floatToDouble_126 (by decide) ?_
          refine lv_lshl hx hb dX8_floatToDouble_128 rfl ?_
          refine lv_lor hx hb dX8_floatToDouble_129 ?_
          exact zz_lret hC hZ (⟨by show _ = _; rw [fn_cm_floatToDouble]; rw [if_pos c3, if_pos c4, if_neg c5, if_neg c6], rfl⟩) (Nat.le_of_ble_eq_true rfl) (Nat.le_of_ble_eq_true rfl) dX8_floatToDouble_130
        · refine lv_lload hx hb dX8_floatToDouble_66 (lv_at hl 0 rfl) ?_
          refine lv_lconst (v := 0) hx hb dX8_floatToDouble_68 (by decide) ?_
          refine zz_lcmp_ne (tgt := 75) hC dX8_floatToDouble_69 dX8_floatToDouble_70 (by decide) (fun c7 => ?_) (fun c7 => ?_)
          · refine lv_lconst (v := 1) hx hb dX8_floatToDouble_75 (by decide) ?_
            refine lv_lstore (lv' := [(4, .long 1), (6, .long (x &&& 8388607)), (2, .long 0), (0, .long x)]) hx hb dX8_floatToDouble_76 hl (by decide) rfl (fun ls hl => ?_)
            obtain ⟨f0, hf0, hf1, ef0⟩ := zl_frac c7
            have d_f0 : (x &&& 8388607).toUInt64.toNat = f0 := by rw [ef0]; exact zl_lNn (by omega)
            have hl : lv_has ls 8 [(4, .long 1), (6, .long (lN f0)), (2, .long 0), (0, .long x)] := by rw [← ef0]; exact hl
            have LP8 : ∀ (N : Nat) (f : Nat) (w : Int64) (t : Nat) (H : Heap) (locs : List Loc) (ls : Array Slot), (0 < f) → (f < 2 ^ 24) → (f = f0 * 2 ^ t) → (w = zz_wd t) → (2 ^ 24 - f) < N → zz_Z g A s.heap [] H locs → lv_has ls 8 [(4, .long w), (6, .long (lN f)), (2, .long 0), (0, .long x)] → W p l e rm_cm_floatToDouble s m args below meth c H locs 0 0 (zz_QL below g args s A rm_cm_floatToDouble.cells rm_cm_floatToDouble.slots (po_cm_floatToDouble g x)) (F0 m 78 ls []) := by
              intro N
              induction N with
              | zero =>
                intro f w t H locs ls hf hF hft hwt hN
                exact absurd hN (Nat.not_lt_zero _)
              | succ N ih =>
                intro f w t H locs ls hf hF hft hwt hN hZ hl
                refine lv_lload hx hb dX8_floatToDouble_78 (lv_at hl 1 rfl) ?_
                refine lv_bipush (v := 23) hx hb dX8_floatToDouble_80 (by decide) ?_
                refine lv_lushr hx hb dX8_floatToDouble_82 rfl ?_
                refine lv_lconst (v := 1) hx hb dX8_floatToDouble_83 (by decide) ?_
                refine lv_land hx hb dX8_floatToDouble_84 ?_
                refine lv_lconst (v := 0) hx hb dX8_floatToDouble_85 (by decide) ?_
                refine zz_lcmp_ne (tgt := 105) hC dX8_floatToDouble_86 dX8_floatToDouble_87 (by decide) (fun c9 => ?_) (fun c9 => ?_)
                · have hf3 := zl_fr3 hF c9
                  have d_t : 23 - Nat.log2 f0 = t := zl_t23 hft hf3 hF hf0
                  have d_f : f0 * 2 ^ t = f := hft.symm
                  have d_w : zz_wd t = w := hwt.symm
                  refine lv_lload hx hb dX8_floatToDouble_105 (lv_at hl 1 rfl) ?_
                  refine lv_ldc2 hx hb hown (hts _ zk_949) dX8_floatToDouble_107 ?_
                  refine lv_land hx hb dX8_floatToDouble_110 ?_
                  refine lv_lstore (lv' := [(6, .long ((lN f) &&& 8388607)), (4, .long w), (2, .long 0), (0, .long x)]) hx hb dX8_floatToDouble_111 hl (by decide) rfl (fun ls hl => ?_)
                  refine lv_lload_n hx hb dX8_floatToDouble_113 rfl (lv_at hl 2 rfl) ?_
                  refine lv_lload hx hb dX8_floatToDouble_114 (lv_at hl 1 rfl) ?_
                  refine lv_ldc2 hx hb hown (hts _ zk_950) dX8_floatToDouble_116 ?_
                  refine lv_ladd hx hb dX8_floatToDouble_119 ?_
                  refine lv_bipush (v := 52) hx hb dX8_floatToDouble_120 (by decide) ?_
                  refine lv_lshl hx hb dX8_floatToDouble_122 rfl ?_
                  refine lv_lor hx hb dX8_floatToDouble_123 ?_
                  refine lv_lload hx hb dX8_floatToDouble_124 (lv_at hl 0 rfl) ?_
                  refine lv_bipush (v := 29) hx hb dX8_floatToDouble_126 (by decide) ?_
                  refine lv_lshl hx hb dX8_floatToDouble_128 rfl ?_
                  refine lv_lor hx hb dX8_floatToDouble_129 ?_
                  exact zz_lret hC hZ (⟨by refine Eq.symm ?_; rw [fn_cm_floatToDouble]; refine (if_pos (by (try simp only [d_f0, d_t, d_f, d_w]); exact c3)).trans ?_; refine (if_pos (by (try simp only [d_f0, d_t, d_f, d_w]); exact c4)).trans ?_; refine (if_neg (by (try simp only [d_f0, d_t, d_f, d_w]); exact c5)).trans ?_; refine (if_pos (by (try simp only [d_f0, d_t, d_f, d_w]); exact c6)).trans ?_; refine (if_neg (by (try simp only [d_f0, d_t, d_f, d_w]); exact c7)).trans ?_; first | (simp only [d_f0, d_t, d_f, d_w]; done) | rfl, rfl⟩) (Nat.le_of_ble_eq_true rfl) (Nat.le_of_ble_eq_true rfl) dX8_floatToDouble_130
                · refine lv_lload hx hb dX8_floatToDouble_90 (lv_at hl 1 rfl) ?_
                  refine lv_iconst (v := 1) hx hb dX8_floatToDouble_92 (by decide) ?_
                  refine lv_lshl hx hb dX8_floatToDouble_93 rfl ?_
                  refine zz_topl (v := lN (2 * f)) (zl_sh1 (by omega)) ?_
                  refine lv_lstore (lv' := [(6, .long (lN (2 * f))), (4, .long w), (2, .long 0), (0, .long x)]) hx hb dX8_floatToDouble_94 hl (by decide) rfl (fun ls hl => ?_)
                  refine lv_lload hx hb dX8_floatToDouble_96 (lv_at hl 1 rfl) ?_
                  refine lv_lconst (v := 1) hx hb dX8_floatToDouble_98 (by decide) ?_
                  refine lv_lsub hx hb dX8_floatToDouble_99 ?_
                  refine lv_lstore (lv' := [(4, .long (w - 1)), (6, .long (lN (2 * f))), (2, .long 0), (0, .long x)]) hx hb dX8_floatToDouble_100 hl (by decide) rfl (fun ls hl => ?_)
                  refine lv_goto (tgt := 78) hx hb dX8_floatToDouble_102 (by decide) ?_
                  exact ih (2 * f) (w - 1) (t + 1) H locs ls (by omega) (zl_fr2 (by omega) c9) (zl_f2t hft) (by rw [zz_wd, ← hwt]) (by omega) hZ (lv_sub hl [0, 1, 2, 3] rfl)
            exact LP8 _ f0 1 0 H locs ls (hf0) (by omega) (by rw [Nat.pow_zero, Nat.mul_one]) (rfl) (Nat.lt_succ_self _) hZ (lv_sub hl [0, 1, 2, 3] rfl)
          · refine lv_lload_n hx hb dX8_floatToDouble_73 rfl (lv_at hl 2 rfl) ?_
            exact zz_lret hC hZ (⟨by show _ = _; rw [fn_cm_floatToDouble]; rw [if_pos c3, if_pos c4, if_neg c5, if_pos c6, if_pos c7], rfl⟩) (Nat.le_of_ble_eq_true rfl) (Nat.le_of_ble_eq_true rfl) dX8_floatToDouble_74
      · refine lv_lload_n hx hb dX8_floatToDouble_53 rfl (lv_at hl 2 rfl) ?_
        refine lv_ldc2 hx hb hown (hts _ zk_941) dX8_floatToDouble_54 ?_
        refine lv_lor hx hb dX8_floatToDouble_57 ?_
        refine zz_topl (v := 9218868437227405312) (by decide) ?_
        exact zz_lret hC hZ (⟨by show _ = _; rw [fn_cm_floatToDouble]; rw [if_pos c3, if_pos c4, if_pos c5], rfl⟩) (Nat.le_of_ble_eq_true rfl) (Nat.le_of_ble_eq_true rfl) dX8_floatToDouble_58
    · refine lv_ldc2 hx hb hown (hts _ zk_947) dX8_floatToDouble_19 ?_
      refine lv_goto (tgt := 26) hx hb dX8_floatToDouble_22 (by decide) ?_
      refine lv_lstore_n (lv' := [(2, .long (-9223372036854775808)), (0, .long x)]) hx hb dX8_floatToDouble_26 rfl hl (by decide) rfl (fun ls hl => ?_)
      refine lv_lload_n hx hb dX8_floatToDouble_27 rfl (lv_at hl 1 rfl) ?_
      refine lv_bipush (v := 23) hx hb dX8_floatToDouble_28 (by decide) ?_
      refine lv_lushr hx hb dX8_floatToDouble_30 rfl ?_
      refine lv_ldc2 hx hb hown (hts _ zk_948) dX8_floatToDouble_31 ?_
      refine lv_land hx hb dX8_floatToDouble_34 ?_
      refine lv_lstore (lv' := [(4, .long (((x.toUInt64 >>> ((23 : Int32).toInt64.toUInt64 &&& Int64.toUInt64 63)).toInt64) &&& 255)), (2, .long (-9223372036854775808)), (0, .long x)]) hx hb dX8_floatToDouble_35 hl (by decide) rfl (fun ls hl => ?_)
      refine lv_lload_n hx hb dX8_floatToDouble_37 rfl (lv_at hl 2 rfl) ?_
      refine lv_ldc2 hx hb hown (hts _ zk_949) dX8_floatToDouble_38 ?_
      refine lv_land hx hb dX8_floatToDouble_41 ?_
      refine lv_lstore (lv' := [(6, .long (x &&& 8388607)), (4, .long (((x.toUInt64 >>> ((23 : Int32).toInt64.toUInt64 &&& Int64.toUInt64 63)).toInt64) &&& 255)), (2, .long (-9223372036854775808)), (0, .long x)]) hx hb dX8_floatToDouble_42 hl (by decide) rfl (fun ls hl => ?_)
      refine lv_lload hx hb dX8_floatToDouble_44 (lv_at hl 1 rfl) ?_
      refine lv_ldc2 hx hb hown (hts _ zk_948) dX8_floatToDouble_46 ?_
      refine zz_lcmp_ne (tgt := 59) hC dX8_floatToDouble_49 dX8_floatToDouble_50 (by decide) (fun c10 => ?_) (fun c10 => ?_)
      · refine lv_lload hx hb dX8_floatToDouble_59 (lv_at hl 1 rfl) ?_
        refine lv_lconst (v := 0) hx hb dX8_floatToDouble_61 (by decide) ?_
        refine zz_lcmp_ne (tgt := 113) hC dX8_floatToDouble_62 dX8_floatToDouble_63 (by decide) (fun c11 => ?_) (fun c11 => ?_)
        · refine lv_lload_n hx hb dX8_floatToDouble_113 rfl (lv_at hl 2 rfl) ?_
          refine lv_lload hx hb dX8_floatToDouble_114 (lv_at hl 1 rfl) ?_
          refine lv_ldc2 hx hb hown (hts _ zk_950) dX8_floatToDouble_116 ?_
          refine lv_ladd hx hb dX8_floatToDouble_119 ?_
          refine lv_bipush (v := 52) hx hb dX8_floatToDouble_120 (by decide) ?_
          refine lv_lshl hx hb dX8_floatToDouble_122 rfl ?_
          refine lv_lor hx hb dX8_floatToDouble_123 ?_
          refine lv_lload hx hb dX8_floatToDouble_124 (lv_at hl 0 rfl) ?_
          refine lv_bipush (v := 29) hx hb dX8_floatToDouble_126 (by decide) ?_
          refine lv_lshl hx hb dX8_floatToDouble_128 rfl ?_
          refine lv_lor hx hb dX8_floatToDouble_129 ?_
          exact zz_lret hC hZ (⟨by show _ = _; rw [fn_cm_floatToDouble]; rw [if_pos c3, if_neg c4, if_neg c10, if_neg c11], rfl⟩) (Nat.le_of_ble_eq_true rfl) (Nat.le_of_ble_eq_true rfl) dX8_floatToDouble_130
        · refine lv_lload hx hb dX8_floatToDouble_66 (lv_at hl 0 rfl) ?_
          refine lv_lconst (v := 0) hx hb dX8_floatToDouble_68 (by decide) ?_
          refine zz_lcmp_ne (tgt := 75) hC dX8_floatToDouble_69 dX8_floatToDouble_70 (by decide) (fun c12 => ?_) (fun c12 => ?_)
          · refine lv_lconst (v := 1) hx hb dX8_floatToDouble_75 (by decide) ?_
            refine lv_lstore (lv' := [(4, .long 1), (6, .long (x &&& 8388607)), (2, .long (-9223372036854775808)), (0, .long x)]) hx hb dX8_floatToDouble_76 hl (by decide) rfl (fun ls hl => ?_)
            obtain ⟨f0, hf0, hf1, ef0⟩ := zl_frac c12
            have d_f0 : (x &&& 8388607).toUInt64.toNat = f0 := by rw [ef0]; exact zl_lNn (by omega)
            have hl : lv_has ls 8 [(4, .long 1), (6, .long (lN f0)), (2, .long (-9223372036854775808)), (0, .long x)] := by rw [← ef0]; exact hl
            have LP13 : ∀ (N : Nat) (f : Nat) (w : Int64) (t : Nat) (H : Heap) (locs : List Loc) (ls : Array Slot), (0 < f) → (f < 2 ^ 24) → (f = f0 * 2 ^ t) → (w = zz_wd t) → (2 ^ 24 - f) < N → zz_Z g A s.heap [] H locs → lv_has ls 8 [(4, .long w), (6, .long (lN f)), (2, .long (-9223372036854775808)), (0, .long x)] → W p l e rm_cm_floatToDouble s m args below meth c H locs 0 0 (zz_QL below g args s A rm_cm_floatToDouble.cells rm_cm_floatToDouble.slots (po_cm_floatToDouble g x)) (F0 m 78 ls []) := by
              intro N
              induction N with
              | zero =>
                intro f w t H locs ls hf hF hft hwt hN
                exact absurd hN (Nat.not_lt_zero _)
              | succ N ih =>
                intro f w t H locs ls hf hF hft hwt hN hZ hl
                refine lv_lload hx hb dX8_floatToDouble_78 (lv_at hl 1 rfl) ?_
                refine lv_bipush (v := 23) hx hb dX8_floatToDouble_80 (by decide) ?_
                refine lv_lushr hx hb dX8_floatToDouble_82 rfl ?_
                refine lv_lconst (v := 1) hx hb dX8_floatToDouble_83 (by decide) ?_
                refine lv_land hx hb dX8_floatToDouble_84 ?_
                refine lv_lconst (v := 0) hx hb dX8_floatToDouble_85 (by decide) ?_
                refine zz_lcmp_ne (tgt := 105) hC dX8_floatToDouble_86 dX8_floatToDouble_87 (by decide) (fun c14 => ?_) (fun c14 => ?_)
                · have hf3 := zl_fr3 hF c14
                  have d_t : 23 - Nat.log2 f0 = t := zl_t23 hft hf3 hF hf0
                  have d_f : f0 * 2 ^ t = f := hft.symm
                  have d_w : zz_wd t = w := hwt.symm
                  refine lv_lload hx hb dX8_floatToDouble_105 (lv_at hl 1 rfl) ?_
                  refine lv_ldc2 hx hb hown (hts _ zk_949) dX8_floatToDouble_107 ?_
                  refine lv_land hx hb dX8_floatToDouble_110 ?_
                  refine lv_lstore (lv' := [(6, .long ((lN f) &&& 8388607)), (4, .long w), (2, .long (-9223372036854775808)), (0, .long x)]) hx hb dX8_floatToDouble_111 hl (by decide) rfl (fun ls hl => ?_)
                  refine lv_lload_n hx hb dX8_floatToDouble_113 rfl (lv_at hl 2 rfl) ?_
                  refine lv_lload hx hb dX8_floatToDouble_114 (lv_at hl 1 rfl) ?_
                  refine lv_ldc2 hx hb hown (hts _ zk_950) dX8_floatToDouble_116 ?_
                  refine lv_ladd hx hb dX8_floatToDouble_119 ?_
                  refine lv_bipush (v := 52) hx hb dX8_floatToDouble_120 (by decide) ?_
                  refine lv_lshl hx hb dX8_floatToDouble_122 rfl ?_
                  refine lv_lor hx hb dX8_floatToDouble_123 ?_
                  refine lv_lload hx hb dX8_floatToDouble_124 (lv_at hl 0 rfl) ?_
                  refine lv_bipush (v := 29) hx hb dX8_floatToDouble_126 (by decide) ?_
                  refine lv_lshl hx hb dX8_floatToDouble_128 rfl ?_
                  refine lv_lor hx hb dX8_floatToDouble_129 ?_
                  exact zz_lret hC hZ (⟨by refine Eq.symm ?_; rw [fn_cm_floatToDouble]; refine (if_pos (by (try simp only [d_f0, d_t, d_f, d_w]); exact c3)).trans ?_; refine (if_neg (by (try simp only [d_f0, d_t, d_f, d_w]); exact c4)).trans ?_; refine (if_neg (by (try simp only [d_f0, d_t, d_f, d_w]); exact c10)).trans ?_; refine (if_pos (by (try simp only [d_f0, d_t, d_f, d_w]); exact c11)).trans ?_; refine (if_neg (by (try simp only [d_f0, d_t, d_f, d_w]); exact c12)).trans ?_; first | (simp only [d_f0, d_t, d_f, d_w]; done) | rfl, rfl⟩) (Nat.le_of_ble_eq_true rfl) (Nat.le_of_ble_eq_true rfl) dX8_floatToDouble_130
                · refine lv_lload hx hb dX8_floatToDouble_90 (lv_at hl 1 rfl) ?_
                  refine lv_iconst (v := 1) hx hb dX8_floatToDouble_92 (by decide) ?_
                  refine lv_lshl hx hb dX8_floatToDouble_93 rfl ?_
                  refine zz_topl (v := lN (2 * f)) (zl_sh1 (by omega)) ?_
                  refine lv_lstore (lv' := [(6, .long (lN (2 * f))), (4, .long w), (2, .long (-9223372036854775808)), (0, .long x)]) hx hb dX8_floatToDouble_94 hl (by decide) rfl (fun ls hl => ?_)
                  refine lv_lload hx hb dX8_floatToDouble_96 (lv_at hl 1 rfl) ?_
                  refine lv_lconst (v := 1) hx hb dX8_floatToDouble_98 (by decide) ?_
                  refine lv_lsub hx hb dX8_floatToDouble_99 ?_
                  refine lv_lstore (lv' := [(4, .long (w - 1)), (6, .long (lN (2 * f))), (2, .long (-9223372036854775808)), (0, .long x)]) hx hb dX8_floatToDouble_100 hl (by decide) rfl (fun ls hl => ?_)
                  refine lv_goto (tgt := 78) hx hb dX8_floatToDouble_102 (by decide) ?_
                  exact ih (2 * f) (w - 1) (t + 1) H locs ls (by omega) (zl_fr2 (by omega) c14) (zl_f2t hft) (by rw [zz_wd, ← hwt]) (by omega) hZ (lv_sub hl [0, 1, 2, 3] rfl)
            exact LP13 _ f0 1 0 H locs ls (hf0) (by omega) (by rw [Nat.pow_zero, Nat.mul_one]) (rfl) (Nat.lt_succ_self _) hZ (lv_sub hl [0, 1, 2, 3] rfl)
          · refine lv_lload_n hx hb dX8_floatToDouble_73 rfl (lv_at hl 2 rfl) ?_
            exact zz_lret hC hZ (⟨by show _ = _; rw [fn_cm_floatToDouble]; rw [if_pos c3, if_neg c4, if_neg c10, if_pos c11, if_pos c12], rfl⟩) (Nat.le_of_ble_eq_true rfl) (Nat.le_of_ble_eq_true rfl) dX8_floatToDouble_74
      · refine lv_lload_n hx hb dX8_floatToDouble_53 rfl (lv_at hl 2 rfl) ?_
        refine lv_ldc2 hx hb hown (hts _ zk_941) dX8_floatToDouble_54 ?_
        refine lv_lor hx hb dX8_floatToDouble_57 ?_
        refine zz_topl (v := -4503599627370496) (by decide) ?_
        exact zz_lret hC hZ (⟨by show _ = _; rw [fn_cm_floatToDouble]; rw [if_pos c3, if_neg c4, if_pos c10], rfl⟩) (Nat.le_of_ble_eq_true rfl) (Nat.le_of_ble_eq_true rfl) dX8_floatToDouble_58
  · refine lv_ldc2 hx hb hown (hts _ zk_943) dX8_floatToDouble_9 ?_
    exact zz_lret hC hZ (⟨by show _ = _; rw [fn_cm_floatToDouble]; rw [if_neg c3], rfl⟩) (Nat.le_of_ble_eq_true rfl) (Nat.le_of_ble_eq_true rfl) dX8_floatToDouble_12
theorem dg_X8_widened_0 : (decode cX8_widened 0 = .ok (.iload_n 0, 1)) ∧ (decode cX8_widened 1 = .ok (.iload_n 1, 1)) ∧ (decode cX8_widened 2 = .ok (.if_icmp .eq 8, 3)) ∧ (decode cX8_widened 5 = .ok (.iload_n 1, 1)) ∧ (decode cX8_widened 6 = .ok (.iconst 5, 1)) ∧ (decode cX8_widened 7 = .ok (.if_icmp .gt 9, 3)) ∧ (decode cX8_widened 10 = .ok (.iload_n 0, 1)) ∧ (decode cX8_widened 11 = .ok (.lload_n 2, 1)) ∧ (decode cX8_widened 12 = .ok (.invokestatic 150, 3)) ∧ (decode cX8_widened 15 = .ok (.lreturn, 1)) ∧ (decode cX8_widened 16 = .ok (.iload_n 0, 1)) ∧ (decode cX8_widened 17 = .ok (.bipush 6, 2)) ∧ (decode cX8_widened 19 = .ok (.if_icmp .ne 8, 3)) ∧ (decode cX8_widened 22 = .ok (.lload_n 2, 1)) ∧ (decode cX8_widened 23 = .ok (.invokestatic 154, 3)) ∧ (decode cX8_widened 26 = .ok (.lreturn, 1)) := by decide +kernel
theorem dX8_widened_0 : decode cX8_widened 0 = .ok (.iload_n 0, 1) := dg_X8_widened_0.1
theorem dX8_widened_1 : decode cX8_widened 1 = .ok (.iload_n 1, 1) := dg_X8_widened_0.2.1
theorem dX8_widened_2 : decode cX8_widened 2 = .ok (.if_icmp .eq 8, 3) := dg_X8_widened_0.2.2.1
theorem dX8_widened_5 : decode cX8_widened 5 = .ok (.iload_n 1, 1) := dg_X8_widened_0.2.2.2.1
theorem dX8_widened_6 : decode cX8_widened 6 = .ok (.iconst 5, 1) := dg_X8_widened_0.2.2.2.2.1
theorem dX8_widened_7 : decode cX8_widened 7 = .ok (.if_icmp .gt 9, 3) := dg_X8_widened_0.2.2.2.2.2.1
theorem dX8_widened_10 : decode cX8_widened 10 = .ok (.iload_n 0, 1) := dg_X8_widened_0.2.2.2.2.2.2.1
theorem dX8_widened_11 : decode cX8_widened 11 = .ok (.lload_n 2, 1) := dg_X8_widened_0.2.2.2.2.2.2.2.1
theorem dX8_widened_12 : decode cX8_widened 12 = .ok (.invokestatic 150, 3) := dg_X8_widened_0.2.2.2.2.2.2.2.2.1
theorem dX8_widened_15 : decode cX8_widened 15 = .ok (.lreturn, 1) := dg_X8_widened_0.2.2.2.2.2.2.2.2.2.1
theorem dX8_widened_16 : decode cX8_widened 16 = .ok (.iload_n 0, 1) := dg_X8_widened_0.2.2.2.2.2.2.2.2.2.2.1
theorem dX8_widened_17 : decode cX8_widened 17 = .ok (.bipush 6, 2) := dg_X8_widened_0.2.2.2.2.2.2.2.2.2.2.2.1
theorem dX8_widened_19 : decode cX8_widened 19 = .ok (.if_icmp .ne 8, 3) := dg_X8_widened_0.2.2.2.2.2.2.2.2.2.2.2.2.1
theorem dX8_widened_22 : decode cX8_widened 22 = .ok (.lload_n 2, 1) := dg_X8_widened_0.2.2.2.2.2.2.2.2.2.2.2.2.2.1
theorem dX8_widened_23 : decode cX8_widened 23 = .ok (.invokestatic 154, 3) := dg_X8_widened_0.2.2.2.2.2.2.2.2.2.2.2.2.2.2.1
theorem dX8_widened_26 : decode cX8_widened 26 = .ok (.lreturn, 1) := dg_X8_widened_0.2.2.2.2.2.2.2.2.2.2.2.2.2.2.2
theorem dg_X8_widened_27 : (decode cX8_widened 27 = .ok (.iload_n 1, 1)) ∧ (decode cX8_widened 28 = .ok (.bipush 6, 2)) ∧ (decode cX8_widened 30 = .ok (.if_icmp .ne 14, 3)) ∧ (decode cX8_widened 33 = .ok (.lload_n 2, 1)) ∧ (decode cX8_widened 34 = .ok (.bipush 23, 2)) ∧ (decode cX8_widened 36 = .ok (.bipush 127, 2)) ∧ (decode cX8_widened 38 = .ok (.invokestatic 158, 3)) ∧ (decode cX8_widened 41 = .ok (.goto 12, 3)) ∧ (decode cX8_widened 44 = .ok (.lload_n 2, 1)) ∧ (decode cX8_widened 45 = .ok (.bipush 52, 2)) ∧ (decode cX8_widened 47 = .ok (.sipush 1023, 3)) ∧ (decode cX8_widened 50 = .ok (.invokestatic 158, 3)) ∧ (decode cX8_widened 53 = .ok (.lreturn, 1)) := by decide +kernel
theorem dX8_widened_27 : decode cX8_widened 27 = .ok (.iload_n 1, 1) := dg_X8_widened_27.1
theorem dX8_widened_28 : decode cX8_widened 28 = .ok (.bipush 6, 2) := dg_X8_widened_27.2.1
theorem dX8_widened_30 : decode cX8_widened 30 = .ok (.if_icmp .ne 14, 3) := dg_X8_widened_27.2.2.1
theorem dX8_widened_33 : decode cX8_widened 33 = .ok (.lload_n 2, 1) := dg_X8_widened_27.2.2.2.1
theorem dX8_widened_34 : decode cX8_widened 34 = .ok (.bipush 23, 2) := dg_X8_widened_27.2.2.2.2.1
theorem dX8_widened_36 : decode cX8_widened 36 = .ok (.bipush 127, 2) := dg_X8_widened_27.2.2.2.2.2.1
theorem dX8_widened_38 : decode cX8_widened 38 = .ok (.invokestatic 158, 3) := dg_X8_widened_27.2.2.2.2.2.2.1
theorem dX8_widened_41 : decode cX8_widened 41 = .ok (.goto 12, 3) := dg_X8_widened_27.2.2.2.2.2.2.2.1
theorem dX8_widened_44 : decode cX8_widened 44 = .ok (.lload_n 2, 1) := dg_X8_widened_27.2.2.2.2.2.2.2.2.1
theorem dX8_widened_45 : decode cX8_widened 45 = .ok (.bipush 52, 2) := dg_X8_widened_27.2.2.2.2.2.2.2.2.2.1
theorem dX8_widened_47 : decode cX8_widened 47 = .ok (.sipush 1023, 3) := dg_X8_widened_27.2.2.2.2.2.2.2.2.2.2.1
theorem dX8_widened_50 : decode cX8_widened 50 = .ok (.invokestatic 158, 3) := dg_X8_widened_27.2.2.2.2.2.2.2.2.2.2.2.1
theorem dX8_widened_53 : decode cX8_widened 53 = .ok (.lreturn, 1) := dg_X8_widened_27.2.2.2.2.2.2.2.2.2.2.2.2
theorem zk_932 : Cond.methodLink RX8 150 yX8_plain ∈ zz_w := zz_in (List.mem_append_right _ (List.mem_append_right _ (List.mem_append_right _ (List.mem_append_right _ (List.mem_append_left _ (List.mem_of_getElem? (i := 212) (by decide +kernel))))))) rfl
set_option maxRecDepth 20000 in
theorem zk_934 : Cond.code yX8_plain cX8_plain 3 (some .long) ∈ zz_w := zz_in (List.mem_append_right _ (List.mem_append_right _ (List.mem_append_right _ (List.mem_append_right _ (List.mem_append_left _ (List.mem_of_getElem? (i := 214) (rfl))))))) rfl
theorem zk_933 : Cond.static yX8_plain ∈ zz_w := zz_in (List.mem_append_right _ (List.mem_append_right _ (List.mem_append_right _ (List.mem_append_right _ (List.mem_append_left _ (List.mem_of_getElem? (i := 213) (by decide +kernel))))))) rfl
theorem zc_X8_150 : zz_cS RX8 150 yX8_plain cX8_plain 3 (some .long) 2 := ⟨⟨zk_932, zk_934, zk_7, by decide, by decide, by decide +kernel⟩, zk_933⟩
theorem zk_951 : Cond.methodLink RX8 158 yX8_real ∈ zz_w := zz_in (List.mem_append_right _ (List.mem_append_right _ (List.mem_append_right _ (List.mem_append_right _ (List.mem_append_left _ (List.mem_of_getElem? (i := 231) (by decide +kernel))))))) rfl
set_option maxRecDepth 20000 in
theorem zk_953 : Cond.code yX8_real cX8_real 17 (some .long) ∈ zz_w := zz_in (List.mem_append_right _ (List.mem_append_right _ (List.mem_append_right _ (List.mem_append_right _ (List.mem_append_left _ (List.mem_of_getElem? (i := 233) (rfl))))))) rfl
theorem zk_952 : Cond.static yX8_real ∈ zz_w := zz_in (List.mem_append_right _ (List.mem_append_right _ (List.mem_append_right _ (List.mem_append_right _ (List.mem_append_left _ (List.mem_of_getElem? (i := 232) (by decide +kernel))))))) rfl
theorem zc_X8_158 : zz_cS RX8 158 yX8_real cX8_real 17 (some .long) 3 := ⟨⟨zk_951, zk_953, zk_7, by decide, by decide, by decide +kernel⟩, zk_952⟩
theorem zk_944 : Cond.methodLink RX8 154 yX8_floatToDouble ∈ zz_w := zz_in (List.mem_append_right _ (List.mem_append_right _ (List.mem_append_right _ (List.mem_append_right _ (List.mem_append_left _ (List.mem_of_getElem? (i := 224) (by decide +kernel))))))) rfl
set_option maxRecDepth 20000 in
theorem zk_946 : Cond.code yX8_floatToDouble cX8_floatToDouble 8 (some .long) ∈ zz_w := zz_in (List.mem_append_right _ (List.mem_append_right _ (List.mem_append_right _ (List.mem_append_right _ (List.mem_append_left _ (List.mem_of_getElem? (i := 226) (rfl))))))) rfl
theorem zk_945 : Cond.static yX8_floatToDouble ∈ zz_w := zz_in (List.mem_append_right _ (List.mem_append_right _ (List.mem_append_right _ (List.mem_append_right _ (List.mem_append_left _ (List.mem_of_getElem? (i := 225) (by decide +kernel))))))) rfl
theorem zc_X8_154 : zz_cS RX8 154 yX8_floatToDouble cX8_floatToDouble 8 (some .long) 1 := ⟨⟨zk_944, zk_946, zk_7, by decide, by decide, by decide +kernel⟩, zk_945⟩
def fn_cm_widened (k : Int32) (j : Int32) (x : Int64) : Int64 := (if k = j then (fn_cm_plain k x) else (if 5 < j then (if k = 6 then (fn_cm_floatToDouble x) else (if j = 6 then (fn_cm_real x 23 127) else (fn_cm_real x 52 1023))) else (fn_cm_plain k x)))
abbrev rm_cm_widened : Room := { frames := 2, cells := 0, slots := 0, locals := 49 }
abbrev po_cm_widened (g : zz_G) (k : Int32) (j : Int32) (x : Int64) : Int64 → va_W → Prop := fun (r : Int64) (u : va_W) => r = fn_cm_widened k j x ∧ u = []
set_option maxHeartbeats 4000000 in
set_option maxRecDepth 100000 in
theorem cm_widened (g : zz_G) (k : Int32) (j : Int32) (x : Int64) : zz_L g yX8_widened (.code yX8_widened cX8_widened 4 (some .long)) rm_cm_widened [.int k, .int j, .long x] [] (po_cm_widened g k j x) := by
  refine zz_L.intro (own := RX8) (cc := cX8_widened) (nL := 4) (by decide) rfl (Nat.le_of_ble_eq_true rfl) ?_
  intro p l e s m args below meth c A H locs ls hC hnm hs hZ hl
  obtain ⟨hx, hb, hml, hown, hts, hr, hlocks, hK⟩ := id hC
  have hl : lv_has ls 4 [(0, .int k), (1, .int j), (2, .long x)] := hl
  have hZ : zz_Z g A s.heap [] H locs := hZ
  refine lv_iload_n hx hb dX8_widened_0 rfl (lv_at hl 0 rfl) ?_
  refine lv_iload_n hx hb dX8_widened_1 rfl (lv_at hl 1 rfl) ?_
  refine lv_icmp_eq (tgt := 10) hx hb dX8_widened_2 (by decide) (fun c1 => ?_) (fun c1 => ?_)
  · refine lv_iload_n hx hb dX8_widened_10 rfl (lv_at hl 0 rfl) ?_
    refine lv_lload_n hx hb dX8_widened_11 rfl (lv_at hl 2 rfl) ?_
    refine zz_lS (As := [.int k, .long x]) (wc := []) (wr := []) (rest := []) hC hZ hs hl zc_X8_150 (cm_plain g k x) [] [] rfl rfl (by decide +kernel) rfl rfl (Nat.le_of_ble_eq_true rfl) ⟨⟨Nat.le_of_ble_eq_true rfl, Nat.le_of_ble_eq_true rfl⟩, Nat.le_of_ble_eq_true rfl, Nat.le_of_ble_eq_true rfl⟩ dX8_widened_12 (fun r2 u3 H locs hp hZ => ?_)
    obtain ⟨rfl, rfl⟩ := hp
    have hZ : zz_Z g A s.heap [] H locs := hZ
    exact zz_lret hC hZ (⟨by show _ = _; rw [fn_cm_widened, if_pos c1], rfl⟩) (Nat.le_of_ble_eq_true rfl) (Nat.le_of_ble_eq_true rfl) dX8_widened_15
  · refine lv_iload_n hx hb dX8_widened_5 rfl (lv_at hl 1 rfl) ?_
    refine lv_iconst (v := 5) hx hb dX8_widened_6 (by decide) ?_
    refine lv_icmp_gt (tgt := 16) hx hb dX8_widened_7 (by decide) (fun c4 => ?_) (fun c4 => ?_)
    · refine lv_iload_n hx hb dX8_widened_16 rfl (lv_at hl 0 rfl) ?_
      refine lv_bipush (v := 6) hx hb dX8_widened_17 (by decide) ?_
      refine lv_icmp_ne (tgt := 27) hx hb dX8_widened_19 (by decide) (fun c5 => ?_) (fun c5 => ?_)
      · refine lv_iload_n hx hb dX8_widened_27 rfl (lv_at hl 1 rfl) ?_
        refine lv_bipush (v := 6) hx hb dX8_widened_28 (by decide) ?_
        refine lv_icmp_ne (tgt := 44) hx hb dX8_widened_30 (by decide) (fun c6 => ?_) (fun c6 => ?_)
        · refine lv_lload_n hx hb dX8_widened_44 rfl (lv_at hl 2 rfl) ?_
          refine lv_bipush (v := 52) hx hb dX8_widened_45 (by decide) ?_
          refine lv_sipush (v := 1023) hx hb dX8_widened_47 (by decide) ?_
          refine zz_lS (As := [.long x, .int 52, .int 1023]) (wc := []) (wr := []) (rest := []) hC hZ hs hl zc_X8_158 (cm_real g x 52 1023) [] [] rfl rfl (by decide +kernel) rfl rfl (Nat.le_of_ble_eq_true rfl) ⟨⟨Nat.le_of_ble_eq_true rfl, Nat.le_of_ble_eq_true rfl⟩, Nat.le_of_ble_eq_true rfl, Nat.le_of_ble_eq_true rfl⟩ dX8_widened_50 (fun r7 u8 H locs hp hZ => ?_)
          obtain ⟨rfl, rfl⟩ := hp
          have hZ : zz_Z g A s.heap [] H locs := hZ
          exact zz_lret hC hZ (⟨by show _ = _; rw [fn_cm_widened, if_neg c1, if_pos c4, if_neg c5, if_neg c6], rfl⟩) (Nat.le_of_ble_eq_true rfl) (Nat.le_of_ble_eq_true rfl) dX8_widened_53
        · refine lv_lload_n hx hb dX8_widened_33 rfl (lv_at hl 2 rfl) ?_
          refine lv_bipush (v := 23) hx hb dX8_widened_34 (by decide) ?_
          refine lv_bipush (v := 127) hx hb dX8_widened_36 (by decide) ?_
          refine zz_lS (As := [.long x, .int 23, .int 127]) (wc := []) (wr := []) (rest := []) hC hZ hs hl zc_X8_158 (cm_real g x 23 127) [] [] rfl rfl (by decide +kernel) rfl rfl (Nat.le_of_ble_eq_true rfl) ⟨⟨Nat.le_of_ble_eq_true rfl, Nat.le_of_ble_eq_true rfl⟩, Nat.le_of_ble_eq_true rfl, Nat.le_of_ble_eq_true rfl⟩ dX8_widened_38 (fun r9 u10 H locs hp hZ => ?_)
          obtain ⟨rfl, rfl⟩ := hp
          have hZ : zz_Z g A s.heap [] H locs := hZ
          refine lv_goto (tgt := 53) hx hb dX8_widened_41 (by decide) ?_
          exact zz_lret hC hZ (⟨by show _ = _; rw [fn_cm_widened, if_neg c1, if_pos c4, if_neg c5, if_pos c6], rfl⟩) (Nat.le_of_ble_eq_true rfl) (Nat.le_of_ble_eq_true rfl) dX8_widened_53
      · refine lv_lload_n hx hb dX8_widened_22 rfl (lv_at hl 2 rfl) ?_
        refine zz_lS (As := [.long x]) (wc := []) (wr := []) (rest := []) hC hZ hs hl zc_X8_154 (cm_floatToDouble g x) [] [] rfl rfl (by decide +kernel) rfl rfl (Nat.le_of_ble_eq_true rfl) ⟨⟨Nat.le_of_ble_eq_true rfl, Nat.le_of_ble_eq_true rfl⟩, Nat.le_of_ble_eq_true rfl, Nat.le_of_ble_eq_true rfl⟩ dX8_widened_23 (fun r11 u12 H locs hp hZ => ?_)
        obtain ⟨rfl, rfl⟩ := hp
        have hZ : zz_Z g A s.heap [] H locs := hZ
        exact zz_lret hC hZ (⟨by show _ = _; rw [fn_cm_widened, if_neg c1, if_pos c4, if_pos c5], rfl⟩) (Nat.le_of_ble_eq_true rfl) (Nat.le_of_ble_eq_true rfl) dX8_widened_26
    · refine lv_iload_n hx hb dX8_widened_10 rfl (lv_at hl 0 rfl) ?_
      refine lv_lload_n hx hb dX8_widened_11 rfl (lv_at hl 2 rfl) ?_
      refine zz_lS (As := [.int k, .long x]) (wc := []) (wr := []) (rest := []) hC hZ hs hl zc_X8_150 (cm_plain g k x) [] [] rfl rfl (by decide +kernel) rfl rfl (Nat.le_of_ble_eq_true rfl) ⟨⟨Nat.le_of_ble_eq_true rfl, Nat.le_of_ble_eq_true rfl⟩, Nat.le_of_ble_eq_true rfl, Nat.le_of_ble_eq_true rfl⟩ dX8_widened_12 (fun r13 u14 H locs hp hZ => ?_)
      obtain ⟨rfl, rfl⟩ := hp
      have hZ : zz_Z g A s.heap [] H locs := hZ
      exact zz_lret hC hZ (⟨by show _ = _; rw [fn_cm_widened, if_neg c1, if_neg c4], rfl⟩) (Nat.le_of_ble_eq_true rfl) (Nat.le_of_ble_eq_true rfl) dX8_widened_15
theorem dg_X8_sumNumber_0 : (decode cX8_sumNumber 0 = .ok (.iload_n 0, 1)) ∧ (decode cX8_sumNumber 1 = .ok (.bipush 6, 2)) ∧ (decode cX8_sumNumber 3 = .ok (.if_icmp .ne 13, 3)) ∧ (decode cX8_sumNumber 6 = .ok (.lload_n 1, 1)) ∧ (decode cX8_sumNumber 7 = .ok (.invokestatic 154, 3)) ∧ (decode cX8_sumNumber 10 = .ok (.invokestatic 168, 3)) ∧ (decode cX8_sumNumber 13 = .ok (.goto 17, 3)) ∧ (decode cX8_sumNumber 16 = .ok (.iload_n 0, 1)) ∧ (decode cX8_sumNumber 17 = .ok (.bipush 7, 2)) ∧ (decode cX8_sumNumber 19 = .ok (.if_icmp .ne 10, 3)) ∧ (decode cX8_sumNumber 22 = .ok (.lload_n 1, 1)) ∧ (decode cX8_sumNumber 23 = .ok (.invokestatic 168, 3)) ∧ (decode cX8_sumNumber 26 = .ok (.goto 4, 3)) ∧ (decode cX8_sumNumber 29 = .ok (.lload_n 1, 1)) ∧ (decode cX8_sumNumber 30 = .ok (.lreturn, 1)) := by decide +kernel
theorem dX8_sumNumber_0 : decode cX8_sumNumber 0 = .ok (.iload_n 0, 1) := dg_X8_sumNumber_0.1
theorem dX8_sumNumber_1 : decode cX8_sumNumber 1 = .ok (.bipush 6, 2) := dg_X8_sumNumber_0.2.1
theorem dX8_sumNumber_3 : decode cX8_sumNumber 3 = .ok (.if_icmp .ne 13, 3) := dg_X8_sumNumber_0.2.2.1
theorem dX8_sumNumber_6 : decode cX8_sumNumber 6 = .ok (.lload_n 1, 1) := dg_X8_sumNumber_0.2.2.2.1
theorem dX8_sumNumber_7 : decode cX8_sumNumber 7 = .ok (.invokestatic 154, 3) := dg_X8_sumNumber_0.2.2.2.2.1
theorem dX8_sumNumber_10 : decode cX8_sumNumber 10 = .ok (.invokestatic 168, 3) := dg_X8_sumNumber_0.2.2.2.2.2.1
theorem dX8_sumNumber_13 : decode cX8_sumNumber 13 = .ok (.goto 17, 3) := dg_X8_sumNumber_0.2.2.2.2.2.2.1
theorem dX8_sumNumber_16 : decode cX8_sumNumber 16 = .ok (.iload_n 0, 1) := dg_X8_sumNumber_0.2.2.2.2.2.2.2.1
theorem dX8_sumNumber_17 : decode cX8_sumNumber 17 = .ok (.bipush 7, 2) := dg_X8_sumNumber_0.2.2.2.2.2.2.2.2.1
theorem dX8_sumNumber_19 : decode cX8_sumNumber 19 = .ok (.if_icmp .ne 10, 3) := dg_X8_sumNumber_0.2.2.2.2.2.2.2.2.2.1
theorem dX8_sumNumber_22 : decode cX8_sumNumber 22 = .ok (.lload_n 1, 1) := dg_X8_sumNumber_0.2.2.2.2.2.2.2.2.2.2.1
theorem dX8_sumNumber_23 : decode cX8_sumNumber 23 = .ok (.invokestatic 168, 3) := dg_X8_sumNumber_0.2.2.2.2.2.2.2.2.2.2.2.1
theorem dX8_sumNumber_26 : decode cX8_sumNumber 26 = .ok (.goto 4, 3) := dg_X8_sumNumber_0.2.2.2.2.2.2.2.2.2.2.2.2.1
theorem dX8_sumNumber_29 : decode cX8_sumNumber 29 = .ok (.lload_n 1, 1) := dg_X8_sumNumber_0.2.2.2.2.2.2.2.2.2.2.2.2.2.1
theorem dX8_sumNumber_30 : decode cX8_sumNumber 30 = .ok (.lreturn, 1) := dg_X8_sumNumber_0.2.2.2.2.2.2.2.2.2.2.2.2.2.2
theorem zk_1085 : Cond.methodLink RX8 168 yX8_whole ∈ zz_w := zz_in (List.mem_append_right _ (List.mem_append_right _ (List.mem_append_right _ (List.mem_append_right _ (List.mem_append_right _ (List.mem_of_getElem? (i := 125) (by decide +kernel))))))) rfl
set_option maxRecDepth 20000 in
theorem zk_1087 : Cond.code yX8_whole cX8_whole 6 (some .long) ∈ zz_w := zz_in (List.mem_append_right _ (List.mem_append_right _ (List.mem_append_right _ (List.mem_append_right _ (List.mem_append_right _ (List.mem_of_getElem? (i := 127) (rfl))))))) rfl
theorem zk_1086 : Cond.static yX8_whole ∈ zz_w := zz_in (List.mem_append_right _ (List.mem_append_right _ (List.mem_append_right _ (List.mem_append_right _ (List.mem_append_right _ (List.mem_of_getElem? (i := 126) (by decide +kernel))))))) rfl
theorem zc_X8_168 : zz_cS RX8 168 yX8_whole cX8_whole 6 (some .long) 1 := ⟨⟨zk_1085, zk_1087, zk_7, by decide, by decide, by decide +kernel⟩, zk_1086⟩
def fn_cm_sumNumber (k : Int32) (x : Int64) : Int64 := (if k = 6 then (fn_cm_whole (fn_cm_floatToDouble x)) else (if k = 7 then (fn_cm_whole x) else x))
abbrev rm_cm_sumNumber : Room := { frames := 2, cells := 0, slots := 0, locals := 49 }
abbrev po_cm_sumNumber (g : zz_G) (k : Int32) (x : Int64) : Int64 → va_W → Prop := fun (r : Int64) (u : va_W) => r = fn_cm_sumNumber k x ∧ u = []
set_option maxHeartbeats 4000000 in
set_option maxRecDepth 100000 in
theorem cm_sumNumber (g : zz_G) (k : Int32) (x : Int64) : zz_L g yX8_sumNumber (.code yX8_sumNumber cX8_sumNumber 3 (some .long)) rm_cm_sumNumber [.int k, .long x] [] (po_cm_sumNumber g k x) := by
  refine zz_L.intro (own := RX8) (cc := cX8_sumNumber) (nL := 3) (by decide) rfl (Nat.le_of_ble_eq_true rfl) ?_
  intro p l e s m args below meth c A H locs ls hC hnm hs hZ hl
  obtain ⟨hx, hb, hml, hown, hts, hr, hlocks, hK⟩ := id hC
  have hl : lv_has ls 3 [(0, .int k), (1, .long x)] := hl
  have hZ : zz_Z g A s.heap [] H locs := hZ
  refine lv_iload_n hx hb dX8_sumNumber_0 rfl (lv_at hl 0 rfl) ?_
  refine lv_bipush (v := 6) hx hb dX8_sumNumber_1 (by decide) ?_
  refine lv_icmp_ne (tgt := 16) hx hb dX8_sumNumber_3 (by decide) (fun c1 => ?_) (fun c1 => ?_)
  · refine lv_iload_n hx hb dX8_sumNumber_16 rfl (lv_at hl 0 rfl) ?_
    refine lv_bipush (v := 7) hx hb dX8_sumNumber_17 (by decide) ?_
    refine lv_icmp_ne (tgt := 29) hx hb dX8_sumNumber_19 (by decide) (fun c2 => ?_) (fun c2 => ?_)
    · refine lv_lload_n hx hb dX8_sumNumber_29 rfl (lv_at hl 1 rfl) ?_
      exact zz_lret hC hZ (⟨by show _ = _; rw [fn_cm_sumNumber, if_neg c1, if_neg c2], rfl⟩) (Nat.le_of_ble_eq_true rfl) (Nat.le_of_ble_eq_true rfl) dX8_sumNumber_30
    · refine lv_lload_n hx hb dX8_sumNumber_22 rfl (lv_at hl 1 rfl) ?_
      refine zz_lS (As := [.long x]) (wc := []) (wr := []) (rest := []) hC hZ hs hl zc_X8_168 (cm_whole g x) [] [] rfl rfl (by decide +kernel) rfl rfl (Nat.le_of_ble_eq_true rfl) ⟨⟨Nat.le_of_ble_eq_true rfl, Nat.le_of_ble_eq_true rfl⟩, Nat.le_of_ble_eq_true rfl, Nat.le_of_ble_eq_true rfl⟩ dX8_sumNumber_23 (fun r3 u4 H locs hp hZ => ?_)
      obtain ⟨rfl, rfl⟩ := hp
      have hZ : zz_Z g A s.heap [] H locs := hZ
      refine lv_goto (tgt := 30) hx hb dX8_sumNumber_26 (by decide) ?_
      exact zz_lret hC hZ (⟨by show _ = _; rw [fn_cm_sumNumber, if_neg c1, if_pos c2], rfl⟩) (Nat.le_of_ble_eq_true rfl) (Nat.le_of_ble_eq_true rfl) dX8_sumNumber_30
  · refine lv_lload_n hx hb dX8_sumNumber_6 rfl (lv_at hl 1 rfl) ?_
    refine zz_lS (As := [.long x]) (wc := []) (wr := []) (rest := []) hC hZ hs hl zc_X8_154 (cm_floatToDouble g x) [] [] rfl rfl (by decide +kernel) rfl rfl (Nat.le_of_ble_eq_true rfl) ⟨⟨Nat.le_of_ble_eq_true rfl, Nat.le_of_ble_eq_true rfl⟩, Nat.le_of_ble_eq_true rfl, Nat.le_of_ble_eq_true rfl⟩ dX8_sumNumber_7 (fun r5 u6 H locs hp hZ => ?_)
    obtain ⟨rfl, rfl⟩ := hp
    have hZ : zz_Z g A s.heap [] H locs := hZ
    refine zz_lS (As := [.long (fn_cm_floatToDouble x)]) (wc := []) (wr := []) (rest := []) hC hZ hs hl zc_X8_168 (cm_whole g (fn_cm_floatToDouble x)) [] [] rfl rfl (by decide +kernel) rfl rfl (Nat.le_of_ble_eq_true rfl) ⟨⟨Nat.le_of_ble_eq_true rfl, Nat.le_of_ble_eq_true rfl⟩, Nat.le_of_ble_eq_true rfl, Nat.le_of_ble_eq_true rfl⟩ dX8_sumNumber_10 (fun r7 u8 H locs hp hZ => ?_)
    obtain ⟨rfl, rfl⟩ := hp
    have hZ : zz_Z g A s.heap [] H locs := hZ
    refine lv_goto (tgt := 30) hx hb dX8_sumNumber_13 (by decide) ?_
    exact zz_lret hC hZ (⟨by show _ = _; rw [fn_cm_sumNumber, if_pos c1], rfl⟩) (Nat.le_of_ble_eq_true rfl) (Nat.le_of_ble_eq_true rfl) dX8_sumNumber_30
